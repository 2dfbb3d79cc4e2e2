/-! ===== functions of methods, by program (wip/whole/tools/gen11.py) ===== -/
theorem dX11_isPortal_0 : decode cX11_isPortal 0 = .ok (.iload_n 1, 1) := by decide +kernel
theorem dX11_isPortal_1 : decode cX11_isPortal 1 = .ok (.iconst 0, 1) := by decide +kernel
theorem dX11_isPortal_2 : decode cX11_isPortal 2 = .ok (.aload_n 0, 1) := by decide +kernel
theorem dX11_isPortal_3 : decode cX11_isPortal 3 = .ok (.getfield 53, 3) := by decide +kernel
theorem dX11_isPortal_6 : decode cX11_isPortal 6 = .ok (.getfield 264, 3) := by decide +kernel
theorem dX11_isPortal_9 : decode cX11_isPortal 9 = .ok (.iconst 1, 1) := by decide +kernel
theorem dX11_isPortal_10 : decode cX11_isPortal 10 = .ok (.isub, 1) := by decide +kernel
theorem dX11_isPortal_11 : decode cX11_isPortal 11 = .ok (.invokestatic 133, 3) := by decide +kernel
theorem dX11_isPortal_14 : decode cX11_isPortal 14 = .ok (.ireturn, 1) := by decide +kernel
theorem dX11_portal_0 : decode cX11_portal 0 = .ok (.aload_n 0, 1) := by decide +kernel
theorem dX11_portal_1 : decode cX11_portal 1 = .ok (.iload_n 1, 1) := by decide +kernel
theorem dX11_portal_2 : decode cX11_portal 2 = .ok (.invokevirtual 267, 3) := by decide +kernel
theorem dX11_portal_5 : decode cX11_portal 5 = .ok (.ifCond .eq 16, 3) := by decide +kernel
theorem dX11_portal_21 : decode cX11_portal 21 = .ok (.iconst 0, 1) := by decide +kernel
theorem dX11_portal_22 : decode cX11_portal 22 = .ok (.invokestatic 100, 3) := by decide +kernel
theorem dX11_portal_25 : decode cX11_portal 25 = .ok (.aload_n 0, 1) := by decide +kernel
theorem dX11_portal_26 : decode cX11_portal 26 = .ok (.getfield 104, 3) := by decide +kernel
theorem dX11_portal_29 : decode cX11_portal 29 = .ok (.invokestatic 112, 3) := by decide +kernel
theorem dX11_portal_32 : decode cX11_portal 32 = .ok (.aload_n 0, 1) := by decide +kernel
theorem dX11_portal_33 : decode cX11_portal 33 = .ok (.getfield 53, 3) := by decide +kernel
theorem dX11_portal_36 : decode cX11_portal 36 = .ok (.iload_n 1, 1) := by decide +kernel
theorem dX11_portal_37 : decode cX11_portal 37 = .ok (.iload_n 2, 1) := by decide +kernel
theorem dX11_portal_38 : decode cX11_portal 38 = .ok (.invokevirtual 270, 3) := by decide +kernel
theorem dX11_portal_41 : decode cX11_portal 41 = .ok (.ireturn, 1) := by decide +kernel
theorem dX11_portal_8 : decode cX11_portal 8 = .ok (.iload_n 2, 1) := by decide +kernel
theorem dX11_portal_9 : decode cX11_portal 9 = .ok (.iconst 0, 1) := by decide +kernel
theorem dX11_portal_10 : decode cX11_portal 10 = .ok (.iconst 5, 1) := by decide +kernel
theorem dX11_portal_11 : decode cX11_portal 11 = .ok (.invokestatic 133, 3) := by decide +kernel
theorem dX11_portal_14 : decode cX11_portal 14 = .ok (.ifCond .eq 7, 3) := by decide +kernel
theorem dX11_portal_17 : decode cX11_portal 17 = .ok (.iconst 1, 1) := by decide +kernel
theorem dX11_portal_18 : decode cX11_portal 18 = .ok (.goto 4, 3) := by decide +kernel
theorem dX11_person_0 : decode cX11_person 0 = .ok (.iload_n 1, 1) := by decide +kernel
theorem dX11_person_1 : decode cX11_person 1 = .ok (.iconst 0, 1) := by decide +kernel
theorem dX11_person_2 : decode cX11_person 2 = .ok (.bipush 9, 2) := by decide +kernel
theorem dX11_person_4 : decode cX11_person 4 = .ok (.invokestatic 133, 3) := by decide +kernel
theorem dX11_person_7 : decode cX11_person 7 = .ok (.ifCond .eq 16, 3) := by decide +kernel
theorem dX11_person_23 : decode cX11_person 23 = .ok (.iconst 0, 1) := by decide +kernel
theorem dX11_person_24 : decode cX11_person 24 = .ok (.invokestatic 100, 3) := by decide +kernel
theorem dX11_person_27 : decode cX11_person 27 = .ok (.aload_n 0, 1) := by decide +kernel
theorem dX11_person_28 : decode cX11_person 28 = .ok (.getfield 104, 3) := by decide +kernel
theorem dX11_person_31 : decode cX11_person 31 = .ok (.ifCond .eq 19, 3) := by decide +kernel
theorem dX11_person_50 : decode cX11_person 50 = .ok (.iconst 0, 1) := by decide +kernel
theorem dX11_person_51 : decode cX11_person 51 = .ok (.invokestatic 112, 3) := by decide +kernel
theorem dX11_person_54 : decode cX11_person 54 = .ok (.aload_n 0, 1) := by decide +kernel
theorem dX11_person_55 : decode cX11_person 55 = .ok (.getfield 44, 3) := by decide +kernel
theorem dX11_person_58 : decode cX11_person 58 = .ok (.iload_n 1, 1) := by decide +kernel
theorem dX11_person_59 : decode cX11_person 59 = .ok (.iload_n 2, 1) := by decide +kernel
theorem dX11_person_60 : decode cX11_person 60 = .ok (.invokevirtual 276, 3) := by decide +kernel
theorem dX11_person_63 : decode cX11_person 63 = .ok (.ireturn, 1) := by decide +kernel
theorem dX11_person_34 : decode cX11_person 34 = .ok (.aload_n 0, 1) := by decide +kernel
theorem dX11_person_35 : decode cX11_person 35 = .ok (.getfield 44, 3) := by decide +kernel
theorem dX11_person_38 : decode cX11_person 38 = .ok (.getfield 273, 3) := by decide +kernel
theorem dX11_person_41 : decode cX11_person 41 = .ok (.bipush 40, 2) := by decide +kernel
theorem dX11_person_43 : decode cX11_person 43 = .ok (.if_icmp .ge 7, 3) := by decide +kernel
theorem dX11_person_46 : decode cX11_person 46 = .ok (.iconst 1, 1) := by decide +kernel
theorem dX11_person_47 : decode cX11_person 47 = .ok (.goto 4, 3) := by decide +kernel
theorem dX11_person_10 : decode cX11_person 10 = .ok (.iload_n 2, 1) := by decide +kernel
theorem dX11_person_11 : decode cX11_person 11 = .ok (.iconst 1, 1) := by decide +kernel
theorem dX11_person_12 : decode cX11_person 12 = .ok (.iconst 5, 1) := by decide +kernel
theorem dX11_person_13 : decode cX11_person 13 = .ok (.invokestatic 133, 3) := by decide +kernel
theorem dX11_person_16 : decode cX11_person 16 = .ok (.ifCond .eq 7, 3) := by decide +kernel
theorem dX11_person_19 : decode cX11_person 19 = .ok (.iconst 1, 1) := by decide +kernel
theorem dX11_person_20 : decode cX11_person 20 = .ok (.goto 4, 3) := by decide +kernel
theorem dX11_isPerson_0 : decode cX11_isPerson 0 = .ok (.iload_n 1, 1) := by decide +kernel
theorem dX11_isPerson_1 : decode cX11_isPerson 1 = .ok (.iconst 0, 1) := by decide +kernel
theorem dX11_isPerson_2 : decode cX11_isPerson 2 = .ok (.aload_n 0, 1) := by decide +kernel
theorem dX11_isPerson_3 : decode cX11_isPerson 3 = .ok (.getfield 44, 3) := by decide +kernel
theorem dX11_isPerson_6 : decode cX11_isPerson 6 = .ok (.getfield 273, 3) := by decide +kernel
theorem dX11_isPerson_9 : decode cX11_isPerson 9 = .ok (.iconst 1, 1) := by decide +kernel
theorem dX11_isPerson_10 : decode cX11_isPerson 10 = .ok (.isub, 1) := by decide +kernel
theorem dX11_isPerson_11 : decode cX11_isPerson 11 = .ok (.invokestatic 133, 3) := by decide +kernel
theorem dX11_isPerson_14 : decode cX11_isPerson 14 = .ok (.ireturn, 1) := by decide +kernel
theorem dX11_card_0 : decode cX11_card 0 = .ok (.aload_n 0, 1) := by decide +kernel
theorem dX11_card_1 : decode cX11_card 1 = .ok (.iload_n 1, 1) := by decide +kernel
theorem dX11_card_2 : decode cX11_card 2 = .ok (.invokevirtual 279, 3) := by decide +kernel
theorem dX11_card_5 : decode cX11_card 5 = .ok (.ifCond .eq 17, 3) := by decide +kernel
theorem dX11_card_22 : decode cX11_card 22 = .ok (.iconst 0, 1) := by decide +kernel
theorem dX11_card_23 : decode cX11_card 23 = .ok (.invokestatic 100, 3) := by decide +kernel
theorem dX11_card_26 : decode cX11_card 26 = .ok (.aload_n 0, 1) := by decide +kernel
theorem dX11_card_27 : decode cX11_card 27 = .ok (.getfield 104, 3) := by decide +kernel
theorem dX11_card_30 : decode cX11_card 30 = .ok (.ifCond .eq 19, 3) := by decide +kernel
theorem dX11_card_49 : decode cX11_card 49 = .ok (.iconst 0, 1) := by decide +kernel
theorem dX11_card_50 : decode cX11_card 50 = .ok (.invokestatic 112, 3) := by decide +kernel
theorem dX11_card_53 : decode cX11_card 53 = .ok (.aload_n 0, 1) := by decide +kernel
theorem dX11_card_54 : decode cX11_card 54 = .ok (.getfield 53, 3) := by decide +kernel
theorem dX11_card_57 : decode cX11_card 57 = .ok (.iload_n 1, 1) := by decide +kernel
theorem dX11_card_58 : decode cX11_card 58 = .ok (.iload_n 2, 1) := by decide +kernel
theorem dX11_card_59 : decode cX11_card 59 = .ok (.invokevirtual 285, 3) := by decide +kernel
theorem dX11_card_62 : decode cX11_card 62 = .ok (.ireturn, 1) := by decide +kernel
theorem dX11_card_33 : decode cX11_card 33 = .ok (.aload_n 0, 1) := by decide +kernel
theorem dX11_card_34 : decode cX11_card 34 = .ok (.getfield 53, 3) := by decide +kernel
theorem dX11_card_37 : decode cX11_card 37 = .ok (.getfield 282, 3) := by decide +kernel
theorem dX11_card_40 : decode cX11_card 40 = .ok (.bipush 60, 2) := by decide +kernel
theorem dX11_card_42 : decode cX11_card 42 = .ok (.if_icmp .ge 7, 3) := by decide +kernel
theorem dX11_card_45 : decode cX11_card 45 = .ok (.iconst 1, 1) := by decide +kernel
theorem dX11_card_46 : decode cX11_card 46 = .ok (.goto 4, 3) := by decide +kernel
theorem dX11_card_8 : decode cX11_card 8 = .ok (.iload_n 2, 1) := by decide +kernel
theorem dX11_card_9 : decode cX11_card 9 = .ok (.iconst 0, 1) := by decide +kernel
theorem dX11_card_10 : decode cX11_card 10 = .ok (.ldc 237, 2) := by decide +kernel
theorem dX11_card_12 : decode cX11_card 12 = .ok (.invokestatic 133, 3) := by decide +kernel
theorem dX11_card_15 : decode cX11_card 15 = .ok (.ifCond .eq 7, 3) := by decide +kernel
theorem dX11_card_18 : decode cX11_card 18 = .ok (.iconst 1, 1) := by decide +kernel
theorem dX11_card_19 : decode cX11_card 19 = .ok (.goto 4, 3) := by decide +kernel
theorem dX11_right_0 : decode cX11_right 0 = .ok (.iload_n 1, 1) := by decide +kernel
theorem dX11_right_1 : decode cX11_right 1 = .ok (.iconst 0, 1) := by decide +kernel
theorem dX11_right_2 : decode cX11_right 2 = .ok (.bipush 9, 2) := by decide +kernel
theorem dX11_right_4 : decode cX11_right 4 = .ok (.invokestatic 133, 3) := by decide +kernel
theorem dX11_right_7 : decode cX11_right 7 = .ok (.ifCond .eq 28, 3) := by decide +kernel
theorem dX11_right_35 : decode cX11_right 35 = .ok (.iconst 0, 1) := by decide +kernel
theorem dX11_right_36 : decode cX11_right 36 = .ok (.invokestatic 100, 3) := by decide +kernel
theorem dX11_right_39 : decode cX11_right 39 = .ok (.iload_n 3, 1) := by decide +kernel
theorem dX11_right_40 : decode cX11_right 40 = .ok (.iconst 0, 1) := by decide +kernel
theorem dX11_right_41 : decode cX11_right 41 = .ok (.sipush 1439, 3) := by decide +kernel
theorem dX11_right_44 : decode cX11_right 44 = .ok (.invokestatic 133, 3) := by decide +kernel
theorem dX11_right_47 : decode cX11_right 47 = .ok (.ifCond .eq 19, 3) := by decide +kernel
theorem dX11_right_66 : decode cX11_right 66 = .ok (.iconst 0, 1) := by decide +kernel
theorem dX11_right_67 : decode cX11_right 67 = .ok (.invokestatic 100, 3) := by decide +kernel
theorem dX11_right_70 : decode cX11_right 70 = .ok (.aload_n 0, 1) := by decide +kernel
theorem dX11_right_71 : decode cX11_right 71 = .ok (.getfield 104, 3) := by decide +kernel
theorem dX11_right_74 : decode cX11_right 74 = .ok (.ifCond .eq 19, 3) := by decide +kernel
theorem dX11_right_93 : decode cX11_right 93 = .ok (.iconst 0, 1) := by decide +kernel
theorem dX11_right_94 : decode cX11_right 94 = .ok (.invokestatic 112, 3) := by decide +kernel
theorem dX11_right_97 : decode cX11_right 97 = .ok (.aload_n 0, 1) := by decide +kernel
theorem dX11_right_98 : decode cX11_right 98 = .ok (.getfield 53, 3) := by decide +kernel
theorem dX11_right_101 : decode cX11_right 101 = .ok (.iload_n 1, 1) := by decide +kernel
theorem dX11_right_102 : decode cX11_right 102 = .ok (.iload_n 2, 1) := by decide +kernel
theorem dX11_right_103 : decode cX11_right 103 = .ok (.iload_n 3, 1) := by decide +kernel
theorem dX11_right_104 : decode cX11_right 104 = .ok (.iload 4, 2) := by decide +kernel
theorem dX11_right_106 : decode cX11_right 106 = .ok (.iload 5, 2) := by decide +kernel
theorem dX11_right_108 : decode cX11_right 108 = .ok (.invokevirtual 291, 3) := by decide +kernel
theorem dX11_right_111 : decode cX11_right 111 = .ok (.ireturn, 1) := by decide +kernel
theorem dX11_right_77 : decode cX11_right 77 = .ok (.aload_n 0, 1) := by decide +kernel
theorem dX11_right_78 : decode cX11_right 78 = .ok (.getfield 53, 3) := by decide +kernel
theorem dX11_right_81 : decode cX11_right 81 = .ok (.getfield 288, 3) := by decide +kernel
theorem dX11_right_84 : decode cX11_right 84 = .ok (.bipush 16, 2) := by decide +kernel
theorem dX11_right_86 : decode cX11_right 86 = .ok (.if_icmp .ge 7, 3) := by decide +kernel
theorem dX11_right_89 : decode cX11_right 89 = .ok (.iconst 1, 1) := by decide +kernel
theorem dX11_right_90 : decode cX11_right 90 = .ok (.goto 4, 3) := by decide +kernel
theorem dX11_right_50 : decode cX11_right 50 = .ok (.iload 4, 2) := by decide +kernel
theorem dX11_right_52 : decode cX11_right 52 = .ok (.iconst 0, 1) := by decide +kernel
theorem dX11_right_53 : decode cX11_right 53 = .ok (.sipush 1439, 3) := by decide +kernel
theorem dX11_right_56 : decode cX11_right 56 = .ok (.invokestatic 133, 3) := by decide +kernel
theorem dX11_right_59 : decode cX11_right 59 = .ok (.ifCond .eq 7, 3) := by decide +kernel
theorem dX11_right_62 : decode cX11_right 62 = .ok (.iconst 1, 1) := by decide +kernel
theorem dX11_right_63 : decode cX11_right 63 = .ok (.goto 4, 3) := by decide +kernel
theorem dX11_right_10 : decode cX11_right 10 = .ok (.iload_n 2, 1) := by decide +kernel
theorem dX11_right_11 : decode cX11_right 11 = .ok (.iconst 0, 1) := by decide +kernel
theorem dX11_right_12 : decode cX11_right 12 = .ok (.bipush 9, 2) := by decide +kernel
theorem dX11_right_14 : decode cX11_right 14 = .ok (.invokestatic 133, 3) := by decide +kernel
theorem dX11_right_17 : decode cX11_right 17 = .ok (.ifCond .eq 18, 3) := by decide +kernel
theorem dX11_right_20 : decode cX11_right 20 = .ok (.iload 5, 2) := by decide +kernel
theorem dX11_right_22 : decode cX11_right 22 = .ok (.iconst 0, 1) := by decide +kernel
theorem dX11_right_23 : decode cX11_right 23 = .ok (.ldc 237, 2) := by decide +kernel
theorem dX11_right_25 : decode cX11_right 25 = .ok (.invokestatic 133, 3) := by decide +kernel
theorem dX11_right_28 : decode cX11_right 28 = .ok (.ifCond .eq 7, 3) := by decide +kernel
theorem dX11_right_31 : decode cX11_right 31 = .ok (.iconst 1, 1) := by decide +kernel
theorem dX11_right_32 : decode cX11_right 32 = .ok (.goto 4, 3) := by decide +kernel
theorem dX11_end_0 : decode cX11_end 0 = .ok (.iload_n 1, 1) := by decide +kernel
theorem dX11_end_1 : decode cX11_end 1 = .ok (.iconst 0, 1) := by decide +kernel
theorem dX11_end_2 : decode cX11_end 2 = .ok (.aload_n 0, 1) := by decide +kernel
theorem dX11_end_3 : decode cX11_end 3 = .ok (.getfield 53, 3) := by decide +kernel
theorem dX11_end_6 : decode cX11_end 6 = .ok (.getfield 288, 3) := by decide +kernel
theorem dX11_end_9 : decode cX11_end 9 = .ok (.iconst 1, 1) := by decide +kernel
theorem dX11_end_10 : decode cX11_end 10 = .ok (.isub, 1) := by decide +kernel
theorem dX11_end_11 : decode cX11_end 11 = .ok (.invokestatic 133, 3) := by decide +kernel
theorem dX11_end_14 : decode cX11_end 14 = .ok (.ifCond .eq 17, 3) := by decide +kernel
theorem dX11_end_31 : decode cX11_end 31 = .ok (.iconst 0, 1) := by decide +kernel
theorem dX11_end_32 : decode cX11_end 32 = .ok (.invokestatic 100, 3) := by decide +kernel
theorem dX11_end_35 : decode cX11_end 35 = .ok (.aload_n 0, 1) := by decide +kernel
theorem dX11_end_36 : decode cX11_end 36 = .ok (.getfield 104, 3) := by decide +kernel
theorem dX11_end_39 : decode cX11_end 39 = .ok (.invokestatic 112, 3) := by decide +kernel
theorem dX11_end_42 : decode cX11_end 42 = .ok (.aload_n 0, 1) := by decide +kernel
theorem dX11_end_43 : decode cX11_end 43 = .ok (.getfield 53, 3) := by decide +kernel
theorem dX11_end_46 : decode cX11_end 46 = .ok (.iload_n 1, 1) := by decide +kernel
theorem dX11_end_47 : decode cX11_end 47 = .ok (.iload_n 2, 1) := by decide +kernel
theorem dX11_end_48 : decode cX11_end 48 = .ok (.invokevirtual 295, 3) := by decide +kernel
theorem dX11_end_51 : decode cX11_end 51 = .ok (.ireturn, 1) := by decide +kernel
theorem dX11_end_17 : decode cX11_end 17 = .ok (.iload_n 2, 1) := by decide +kernel
theorem dX11_end_18 : decode cX11_end 18 = .ok (.iconst 0, 1) := by decide +kernel
theorem dX11_end_19 : decode cX11_end 19 = .ok (.ldc 237, 2) := by decide +kernel
theorem dX11_end_21 : decode cX11_end 21 = .ok (.invokestatic 133, 3) := by decide +kernel
theorem dX11_end_24 : decode cX11_end 24 = .ok (.ifCond .eq 7, 3) := by decide +kernel
theorem dX11_end_27 : decode cX11_end 27 = .ok (.iconst 1, 1) := by decide +kernel
theorem dX11_end_28 : decode cX11_end 28 = .ok (.goto 4, 3) := by decide +kernel
theorem dX11_isCard_0 : decode cX11_isCard 0 = .ok (.iload_n 1, 1) := by decide +kernel
theorem dX11_isCard_1 : decode cX11_isCard 1 = .ok (.iconst 0, 1) := by decide +kernel
theorem dX11_isCard_2 : decode cX11_isCard 2 = .ok (.aload_n 0, 1) := by decide +kernel
theorem dX11_isCard_3 : decode cX11_isCard 3 = .ok (.getfield 53, 3) := by decide +kernel
theorem dX11_isCard_6 : decode cX11_isCard 6 = .ok (.getfield 282, 3) := by decide +kernel
theorem dX11_isCard_9 : decode cX11_isCard 9 = .ok (.iconst 1, 1) := by decide +kernel
theorem dX11_isCard_10 : decode cX11_isCard 10 = .ok (.isub, 1) := by decide +kernel
theorem dX11_isCard_11 : decode cX11_isCard 11 = .ok (.invokestatic 133, 3) := by decide +kernel
theorem dX11_isCard_14 : decode cX11_isCard 14 = .ok (.ireturn, 1) := by decide +kernel
theorem dX11_lost_0 : decode cX11_lost 0 = .ok (.aload_n 0, 1) := by decide +kernel
theorem dX11_lost_1 : decode cX11_lost 1 = .ok (.iload_n 1, 1) := by decide +kernel
theorem dX11_lost_2 : decode cX11_lost 2 = .ok (.invokevirtual 298, 3) := by decide +kernel
theorem dX11_lost_5 : decode cX11_lost 5 = .ok (.ifCond .eq 17, 3) := by decide +kernel
theorem dX11_lost_22 : decode cX11_lost 22 = .ok (.iconst 0, 1) := by decide +kernel
theorem dX11_lost_23 : decode cX11_lost 23 = .ok (.invokestatic 100, 3) := by decide +kernel
theorem dX11_lost_26 : decode cX11_lost 26 = .ok (.aload_n 0, 1) := by decide +kernel
theorem dX11_lost_27 : decode cX11_lost 27 = .ok (.getfield 104, 3) := by decide +kernel
theorem dX11_lost_30 : decode cX11_lost 30 = .ok (.invokestatic 112, 3) := by decide +kernel
theorem dX11_lost_33 : decode cX11_lost 33 = .ok (.aload_n 0, 1) := by decide +kernel
theorem dX11_lost_34 : decode cX11_lost 34 = .ok (.getfield 53, 3) := by decide +kernel
theorem dX11_lost_37 : decode cX11_lost 37 = .ok (.iload_n 1, 1) := by decide +kernel
theorem dX11_lost_38 : decode cX11_lost 38 = .ok (.iload_n 2, 1) := by decide +kernel
theorem dX11_lost_39 : decode cX11_lost 39 = .ok (.invokevirtual 301, 3) := by decide +kernel
theorem dX11_lost_42 : decode cX11_lost 42 = .ok (.ireturn, 1) := by decide +kernel
theorem dX11_lost_8 : decode cX11_lost 8 = .ok (.iload_n 2, 1) := by decide +kernel
theorem dX11_lost_9 : decode cX11_lost 9 = .ok (.iconst 0, 1) := by decide +kernel
theorem dX11_lost_10 : decode cX11_lost 10 = .ok (.ldc 237, 2) := by decide +kernel
theorem dX11_lost_12 : decode cX11_lost 12 = .ok (.invokestatic 133, 3) := by decide +kernel
theorem dX11_lost_15 : decode cX11_lost 15 = .ok (.ifCond .eq 7, 3) := by decide +kernel
theorem dX11_lost_18 : decode cX11_lost 18 = .ok (.iconst 1, 1) := by decide +kernel
theorem dX11_lost_19 : decode cX11_lost 19 = .ok (.goto 4, 3) := by decide +kernel
theorem dX11_two_0 : decode cX11_two 0 = .ok (.aload_n 0, 1) := by decide +kernel
theorem dX11_two_1 : decode cX11_two 1 = .ok (.iload_n 1, 1) := by decide +kernel
theorem dX11_two_2 : decode cX11_two 2 = .ok (.invokevirtual 267, 3) := by decide +kernel
theorem dX11_two_5 : decode cX11_two 5 = .ok (.invokestatic 100, 3) := by decide +kernel
theorem dX11_two_8 : decode cX11_two 8 = .ok (.aload_n 0, 1) := by decide +kernel
theorem dX11_two_9 : decode cX11_two 9 = .ok (.getfield 104, 3) := by decide +kernel
theorem dX11_two_12 : decode cX11_two 12 = .ok (.invokestatic 112, 3) := by decide +kernel
theorem dX11_two_15 : decode cX11_two 15 = .ok (.aload_n 0, 1) := by decide +kernel
theorem dX11_two_16 : decode cX11_two 16 = .ok (.getfield 53, 3) := by decide +kernel
theorem dX11_two_19 : decode cX11_two 19 = .ok (.iload_n 1, 1) := by decide +kernel
theorem dX11_two_20 : decode cX11_two 20 = .ok (.iload_n 2, 1) := by decide +kernel
theorem dX11_two_21 : decode cX11_two 21 = .ok (.invokevirtual 304, 3) := by decide +kernel
theorem dX11_two_24 : decode cX11_two 24 = .ok (.ireturn, 1) := by decide +kernel
theorem dX11_airlock_0 : decode cX11_airlock 0 = .ok (.aload_n 0, 1) := by decide +kernel
theorem dX11_airlock_1 : decode cX11_airlock 1 = .ok (.iload_n 1, 1) := by decide +kernel
theorem dX11_airlock_2 : decode cX11_airlock 2 = .ok (.invokevirtual 267, 3) := by decide +kernel
theorem dX11_airlock_5 : decode cX11_airlock 5 = .ok (.ifCond .eq 20, 3) := by decide +kernel
theorem dX11_airlock_25 : decode cX11_airlock 25 = .ok (.iconst 0, 1) := by decide +kernel
theorem dX11_airlock_26 : decode cX11_airlock 26 = .ok (.invokestatic 100, 3) := by decide +kernel
theorem dX11_airlock_29 : decode cX11_airlock 29 = .ok (.aload_n 0, 1) := by decide +kernel
theorem dX11_airlock_30 : decode cX11_airlock 30 = .ok (.getfield 104, 3) := by decide +kernel
theorem dX11_airlock_33 : decode cX11_airlock 33 = .ok (.invokestatic 112, 3) := by decide +kernel
theorem dX11_airlock_36 : decode cX11_airlock 36 = .ok (.aload_n 0, 1) := by decide +kernel
theorem dX11_airlock_37 : decode cX11_airlock 37 = .ok (.getfield 53, 3) := by decide +kernel
theorem dX11_airlock_40 : decode cX11_airlock 40 = .ok (.iload_n 1, 1) := by decide +kernel
theorem dX11_airlock_41 : decode cX11_airlock 41 = .ok (.iload_n 2, 1) := by decide +kernel
theorem dX11_airlock_42 : decode cX11_airlock 42 = .ok (.iload_n 3, 1) := by decide +kernel
theorem dX11_airlock_43 : decode cX11_airlock 43 = .ok (.invokevirtual 308, 3) := by decide +kernel
theorem dX11_airlock_46 : decode cX11_airlock 46 = .ok (.ireturn, 1) := by decide +kernel
theorem dX11_airlock_8 : decode cX11_airlock 8 = .ok (.aload_n 0, 1) := by decide +kernel
theorem dX11_airlock_9 : decode cX11_airlock 9 = .ok (.iload_n 2, 1) := by decide +kernel
theorem dX11_airlock_10 : decode cX11_airlock 10 = .ok (.invokevirtual 267, 3) := by decide +kernel
theorem dX11_airlock_13 : decode cX11_airlock 13 = .ok (.ifCond .eq 12, 3) := by decide +kernel
theorem dX11_airlock_16 : decode cX11_airlock 16 = .ok (.iload_n 1, 1) := by decide +kernel
theorem dX11_airlock_17 : decode cX11_airlock 17 = .ok (.iload_n 2, 1) := by decide +kernel
theorem dX11_airlock_18 : decode cX11_airlock 18 = .ok (.if_icmp .eq 7, 3) := by decide +kernel
theorem dX11_airlock_21 : decode cX11_airlock 21 = .ok (.iconst 1, 1) := by decide +kernel
theorem dX11_airlock_22 : decode cX11_airlock 22 = .ok (.goto 4, 3) := by decide +kernel
theorem dX11_stands_0 : decode cX11_stands 0 = .ok (.aload_n 0, 1) := by decide +kernel
theorem dX11_stands_1 : decode cX11_stands 1 = .ok (.iload_n 1, 1) := by decide +kernel
theorem dX11_stands_2 : decode cX11_stands 2 = .ok (.invokevirtual 267, 3) := by decide +kernel
theorem dX11_stands_5 : decode cX11_stands 5 = .ok (.invokestatic 100, 3) := by decide +kernel
theorem dX11_stands_8 : decode cX11_stands 8 = .ok (.aload_n 0, 1) := by decide +kernel
theorem dX11_stands_9 : decode cX11_stands 9 = .ok (.getfield 104, 3) := by decide +kernel
theorem dX11_stands_12 : decode cX11_stands 12 = .ok (.invokestatic 112, 3) := by decide +kernel
theorem dX11_stands_15 : decode cX11_stands 15 = .ok (.aload_n 0, 1) := by decide +kernel
theorem dX11_stands_16 : decode cX11_stands 16 = .ok (.getfield 53, 3) := by decide +kernel
theorem dX11_stands_19 : decode cX11_stands 19 = .ok (.iload_n 1, 1) := by decide +kernel
theorem dX11_stands_20 : decode cX11_stands 20 = .ok (.iload_n 2, 1) := by decide +kernel
theorem dX11_stands_21 : decode cX11_stands 21 = .ok (.aload_n 0, 1) := by decide +kernel
theorem dX11_stands_22 : decode cX11_stands 22 = .ok (.getfield 312, 3) := by decide +kernel
theorem dX11_stands_25 : decode cX11_stands 25 = .ok (.invokevirtual 315, 3) := by decide +kernel
theorem dX11_stands_28 : decode cX11_stands 28 = .ok (.ireturn, 1) := by decide +kernel
theorem dX11_off_0 : decode cX11_off 0 = .ok (.aload_n 0, 1) := by decide +kernel
theorem dX11_off_1 : decode cX11_off 1 = .ok (.iload_n 1, 1) := by decide +kernel
theorem dX11_off_2 : decode cX11_off 2 = .ok (.invokevirtual 267, 3) := by decide +kernel
theorem dX11_off_5 : decode cX11_off 5 = .ok (.invokestatic 100, 3) := by decide +kernel
theorem dX11_off_8 : decode cX11_off 8 = .ok (.aload_n 0, 1) := by decide +kernel
theorem dX11_off_9 : decode cX11_off 9 = .ok (.getfield 104, 3) := by decide +kernel
theorem dX11_off_12 : decode cX11_off 12 = .ok (.invokestatic 112, 3) := by decide +kernel
theorem dX11_off_15 : decode cX11_off 15 = .ok (.iload_n 2, 1) := by decide +kernel
theorem dX11_off_16 : decode cX11_off 16 = .ok (.ifCond .eq 14, 3) := by decide +kernel
theorem dX11_off_30 : decode cX11_off 30 = .ok (.aload_n 0, 1) := by decide +kernel
theorem dX11_off_31 : decode cX11_off 31 = .ok (.getfield 53, 3) := by decide +kernel
theorem dX11_off_34 : decode cX11_off 34 = .ok (.iload_n 1, 1) := by decide +kernel
theorem dX11_off_35 : decode cX11_off 35 = .ok (.aload_n 0, 1) := by decide +kernel
theorem dX11_off_36 : decode cX11_off 36 = .ok (.getfield 312, 3) := by decide +kernel
theorem dX11_off_39 : decode cX11_off 39 = .ok (.invokevirtual 322, 3) := by decide +kernel
theorem dX11_off_42 : decode cX11_off 42 = .ok (.ireturn, 1) := by decide +kernel
theorem dX11_off_19 : decode cX11_off 19 = .ok (.aload_n 0, 1) := by decide +kernel
theorem dX11_off_20 : decode cX11_off 20 = .ok (.getfield 53, 3) := by decide +kernel
theorem dX11_off_23 : decode cX11_off 23 = .ok (.iload_n 1, 1) := by decide +kernel
theorem dX11_off_24 : decode cX11_off 24 = .ok (.invokevirtual 319, 3) := by decide +kernel
theorem dX11_off_27 : decode cX11_off 27 = .ok (.goto 15, 3) := by decide +kernel
theorem dX11_isReleased_0 : decode cX11_isReleased 0 = .ok (.aload_n 0, 1) := by decide +kernel
theorem dX11_isReleased_1 : decode cX11_isReleased 1 = .ok (.getfield 85, 3) := by decide +kernel
theorem dX11_isReleased_4 : decode cX11_isReleased 4 = .ok (.iconst 0, 1) := by decide +kernel
theorem dX11_isReleased_5 : decode cX11_isReleased 5 = .ok (.invokevirtual 617, 3) := by decide +kernel
theorem dX11_isReleased_8 : decode cX11_isReleased 8 = .ok (.ireturn, 1) := by decide +kernel
theorem dX11_ask_0 : decode cX11_ask 0 = .ok (.aload_n 0, 1) := by decide +kernel
theorem dX11_ask_1 : decode cX11_ask 1 = .ok (.iload_n 1, 1) := by decide +kernel
theorem dX11_ask_2 : decode cX11_ask 2 = .ok (.invokevirtual 298, 3) := by decide +kernel
theorem dX11_ask_5 : decode cX11_ask 5 = .ok (.ifCond .eq 27, 3) := by decide +kernel
theorem dX11_ask_32 : decode cX11_ask 32 = .ok (.iconst 0, 1) := by decide +kernel
theorem dX11_ask_33 : decode cX11_ask 33 = .ok (.invokestatic 100, 3) := by decide +kernel
theorem dX11_ask_36 : decode cX11_ask 36 = .ok (.aload_n 0, 1) := by decide +kernel
theorem dX11_ask_37 : decode cX11_ask 37 = .ok (.getfield 104, 3) := by decide +kernel
theorem dX11_ask_40 : decode cX11_ask 40 = .ok (.ifCond .eq 19, 3) := by decide +kernel
theorem dX11_ask_59 : decode cX11_ask 59 = .ok (.iconst 0, 1) := by decide +kernel
theorem dX11_ask_60 : decode cX11_ask 60 = .ok (.invokestatic 112, 3) := by decide +kernel
theorem dX11_ask_63 : decode cX11_ask 63 = .ok (.aload_n 0, 1) := by decide +kernel
theorem dX11_ask_64 : decode cX11_ask 64 = .ok (.getfield 53, 3) := by decide +kernel
theorem dX11_ask_67 : decode cX11_ask 67 = .ok (.aload_n 0, 1) := by decide +kernel
theorem dX11_ask_68 : decode cX11_ask 68 = .ok (.getfield 312, 3) := by decide +kernel
theorem dX11_ask_71 : decode cX11_ask 71 = .ok (.aload_n 0, 1) := by decide +kernel
theorem dX11_ask_72 : decode cX11_ask 72 = .ok (.invokevirtual 331, 3) := by decide +kernel
theorem dX11_ask_75 : decode cX11_ask 75 = .ok (.invokevirtual 334, 3) := by decide +kernel
theorem dX11_ask_78 : decode cX11_ask 78 = .ok (.aload_n 0, 1) := by decide +kernel
theorem dX11_ask_79 : decode cX11_ask 79 = .ok (.getfield 53, 3) := by decide +kernel
theorem dX11_ask_82 : decode cX11_ask 82 = .ok (.iload_n 1, 1) := by decide +kernel
theorem dX11_ask_83 : decode cX11_ask 83 = .ok (.iload_n 2, 1) := by decide +kernel
theorem dX11_ask_84 : decode cX11_ask 84 = .ok (.iload_n 3, 1) := by decide +kernel
theorem dX11_ask_85 : decode cX11_ask 85 = .ok (.invokevirtual 338, 3) := by decide +kernel
theorem dX11_ask_88 : decode cX11_ask 88 = .ok (.ireturn, 1) := by decide +kernel
theorem dX11_ask_43 : decode cX11_ask 43 = .ok (.aload_n 0, 1) := by decide +kernel
theorem dX11_ask_44 : decode cX11_ask 44 = .ok (.getfield 53, 3) := by decide +kernel
theorem dX11_ask_47 : decode cX11_ask 47 = .ok (.iload_n 2, 1) := by decide +kernel
theorem dX11_ask_48 : decode cX11_ask 48 = .ok (.iconst 1, 1) := by decide +kernel
theorem dX11_ask_49 : decode cX11_ask 49 = .ok (.invokevirtual 328, 3) := by decide +kernel
theorem dX11_ask_52 : decode cX11_ask 52 = .ok (.ifCond .eq 7, 3) := by decide +kernel
theorem dX11_ask_55 : decode cX11_ask 55 = .ok (.iconst 1, 1) := by decide +kernel
theorem dX11_ask_56 : decode cX11_ask 56 = .ok (.goto 4, 3) := by decide +kernel
theorem dX11_ask_8 : decode cX11_ask 8 = .ok (.aload_n 0, 1) := by decide +kernel
theorem dX11_ask_9 : decode cX11_ask 9 = .ok (.iload_n 2, 1) := by decide +kernel
theorem dX11_ask_10 : decode cX11_ask 10 = .ok (.invokevirtual 267, 3) := by decide +kernel
theorem dX11_ask_13 : decode cX11_ask 13 = .ok (.ifCond .eq 19, 3) := by decide +kernel
theorem dX11_ask_16 : decode cX11_ask 16 = .ok (.aload_n 0, 1) := by decide +kernel
theorem dX11_ask_17 : decode cX11_ask 17 = .ok (.getfield 53, 3) := by decide +kernel
theorem dX11_ask_20 : decode cX11_ask 20 = .ok (.iload_n 2, 1) := by decide +kernel
theorem dX11_ask_21 : decode cX11_ask 21 = .ok (.iload_n 3, 1) := by decide +kernel
theorem dX11_ask_22 : decode cX11_ask 22 = .ok (.invokevirtual 325, 3) := by decide +kernel
theorem dX11_ask_25 : decode cX11_ask 25 = .ok (.ifCond .eq 7, 3) := by decide +kernel
theorem dX11_ask_28 : decode cX11_ask 28 = .ok (.iconst 1, 1) := by decide +kernel
theorem dX11_ask_29 : decode cX11_ask 29 = .ok (.goto 4, 3) := by decide +kernel
theorem dX11_both_0 : decode cX11_both 0 = .ok (.aload_n 0, 1) := by decide +kernel
theorem dX11_both_1 : decode cX11_both 1 = .ok (.iload_n 1, 1) := by decide +kernel
theorem dX11_both_2 : decode cX11_both 2 = .ok (.invokevirtual 298, 3) := by decide +kernel
theorem dX11_both_5 : decode cX11_both 5 = .ok (.ifCond .eq 20, 3) := by decide +kernel
theorem dX11_both_25 : decode cX11_both 25 = .ok (.iconst 0, 1) := by decide +kernel
theorem dX11_both_26 : decode cX11_both 26 = .ok (.invokestatic 100, 3) := by decide +kernel
theorem dX11_both_29 : decode cX11_both 29 = .ok (.aload_n 0, 1) := by decide +kernel
theorem dX11_both_30 : decode cX11_both 30 = .ok (.iload_n 3, 1) := by decide +kernel
theorem dX11_both_31 : decode cX11_both 31 = .ok (.invokevirtual 267, 3) := by decide +kernel
theorem dX11_both_34 : decode cX11_both 34 = .ok (.ifCond .eq 20, 3) := by decide +kernel
theorem dX11_both_54 : decode cX11_both 54 = .ok (.iconst 0, 1) := by decide +kernel
theorem dX11_both_55 : decode cX11_both 55 = .ok (.invokestatic 100, 3) := by decide +kernel
theorem dX11_both_58 : decode cX11_both 58 = .ok (.aload_n 0, 1) := by decide +kernel
theorem dX11_both_59 : decode cX11_both 59 = .ok (.getfield 104, 3) := by decide +kernel
theorem dX11_both_62 : decode cX11_both 62 = .ok (.ifCond .eq 19, 3) := by decide +kernel
theorem dX11_both_81 : decode cX11_both 81 = .ok (.iconst 0, 1) := by decide +kernel
theorem dX11_both_82 : decode cX11_both 82 = .ok (.invokestatic 112, 3) := by decide +kernel
theorem dX11_both_85 : decode cX11_both 85 = .ok (.aload_n 0, 1) := by decide +kernel
theorem dX11_both_86 : decode cX11_both 86 = .ok (.getfield 53, 3) := by decide +kernel
theorem dX11_both_89 : decode cX11_both 89 = .ok (.aload_n 0, 1) := by decide +kernel
theorem dX11_both_90 : decode cX11_both 90 = .ok (.getfield 312, 3) := by decide +kernel
theorem dX11_both_93 : decode cX11_both 93 = .ok (.aload_n 0, 1) := by decide +kernel
theorem dX11_both_94 : decode cX11_both 94 = .ok (.invokevirtual 331, 3) := by decide +kernel
theorem dX11_both_97 : decode cX11_both 97 = .ok (.invokevirtual 334, 3) := by decide +kernel
theorem dX11_both_100 : decode cX11_both 100 = .ok (.aload_n 0, 1) := by decide +kernel
theorem dX11_both_101 : decode cX11_both 101 = .ok (.getfield 53, 3) := by decide +kernel
theorem dX11_both_104 : decode cX11_both 104 = .ok (.iload_n 1, 1) := by decide +kernel
theorem dX11_both_105 : decode cX11_both 105 = .ok (.iload_n 2, 1) := by decide +kernel
theorem dX11_both_106 : decode cX11_both 106 = .ok (.iload_n 3, 1) := by decide +kernel
theorem dX11_both_107 : decode cX11_both 107 = .ok (.iload 4, 2) := by decide +kernel
theorem dX11_both_109 : decode cX11_both 109 = .ok (.invokevirtual 342, 3) := by decide +kernel
theorem dX11_both_112 : decode cX11_both 112 = .ok (.ireturn, 1) := by decide +kernel
theorem dX11_both_65 : decode cX11_both 65 = .ok (.aload_n 0, 1) := by decide +kernel
theorem dX11_both_66 : decode cX11_both 66 = .ok (.getfield 53, 3) := by decide +kernel
theorem dX11_both_69 : decode cX11_both 69 = .ok (.iload_n 3, 1) := by decide +kernel
theorem dX11_both_70 : decode cX11_both 70 = .ok (.iconst 2, 1) := by decide +kernel
theorem dX11_both_71 : decode cX11_both 71 = .ok (.invokevirtual 328, 3) := by decide +kernel
theorem dX11_both_74 : decode cX11_both 74 = .ok (.ifCond .eq 7, 3) := by decide +kernel
theorem dX11_both_77 : decode cX11_both 77 = .ok (.iconst 1, 1) := by decide +kernel
theorem dX11_both_78 : decode cX11_both 78 = .ok (.goto 4, 3) := by decide +kernel
theorem dX11_both_37 : decode cX11_both 37 = .ok (.aload_n 0, 1) := by decide +kernel
theorem dX11_both_38 : decode cX11_both 38 = .ok (.getfield 53, 3) := by decide +kernel
theorem dX11_both_41 : decode cX11_both 41 = .ok (.iload_n 3, 1) := by decide +kernel
theorem dX11_both_42 : decode cX11_both 42 = .ok (.iload 4, 2) := by decide +kernel
theorem dX11_both_44 : decode cX11_both 44 = .ok (.invokevirtual 325, 3) := by decide +kernel
theorem dX11_both_47 : decode cX11_both 47 = .ok (.ifCond .eq 7, 3) := by decide +kernel
theorem dX11_both_50 : decode cX11_both 50 = .ok (.iconst 1, 1) := by decide +kernel
theorem dX11_both_51 : decode cX11_both 51 = .ok (.goto 4, 3) := by decide +kernel
theorem dX11_both_8 : decode cX11_both 8 = .ok (.aload_n 0, 1) := by decide +kernel
theorem dX11_both_9 : decode cX11_both 9 = .ok (.iload_n 2, 1) := by decide +kernel
theorem dX11_both_10 : decode cX11_both 10 = .ok (.invokevirtual 298, 3) := by decide +kernel
theorem dX11_both_13 : decode cX11_both 13 = .ok (.ifCond .eq 12, 3) := by decide +kernel
theorem dX11_both_16 : decode cX11_both 16 = .ok (.iload_n 1, 1) := by decide +kernel
theorem dX11_both_17 : decode cX11_both 17 = .ok (.iload_n 2, 1) := by decide +kernel
theorem dX11_both_18 : decode cX11_both 18 = .ok (.if_icmp .eq 7, 3) := by decide +kernel
theorem dX11_both_21 : decode cX11_both 21 = .ok (.iconst 1, 1) := by decide +kernel
theorem dX11_both_22 : decode cX11_both 22 = .ok (.goto 4, 3) := by decide +kernel
theorem dX11_where_0 : decode cX11_where 0 = .ok (.aload_n 0, 1) := by decide +kernel
theorem dX11_where_1 : decode cX11_where 1 = .ok (.iload_n 1, 1) := by decide +kernel
theorem dX11_where_2 : decode cX11_where 2 = .ok (.invokevirtual 279, 3) := by decide +kernel
theorem dX11_where_5 : decode cX11_where 5 = .ok (.ifCond .eq 16, 3) := by decide +kernel
theorem dX11_where_21 : decode cX11_where 21 = .ok (.iconst 0, 1) := by decide +kernel
theorem dX11_where_22 : decode cX11_where 22 = .ok (.invokestatic 100, 3) := by decide +kernel
theorem dX11_where_25 : decode cX11_where 25 = .ok (.aload_n 0, 1) := by decide +kernel
theorem dX11_where_26 : decode cX11_where 26 = .ok (.getfield 104, 3) := by decide +kernel
theorem dX11_where_29 : decode cX11_where 29 = .ok (.invokestatic 112, 3) := by decide +kernel
theorem dX11_where_32 : decode cX11_where 32 = .ok (.aload_n 0, 1) := by decide +kernel
theorem dX11_where_33 : decode cX11_where 33 = .ok (.getfield 44, 3) := by decide +kernel
theorem dX11_where_36 : decode cX11_where 36 = .ok (.iload_n 1, 1) := by decide +kernel
theorem dX11_where_37 : decode cX11_where 37 = .ok (.iload_n 2, 1) := by decide +kernel
theorem dX11_where_38 : decode cX11_where 38 = .ok (.invokevirtual 345, 3) := by decide +kernel
theorem dX11_where_41 : decode cX11_where 41 = .ok (.ireturn, 1) := by decide +kernel
theorem dX11_where_8 : decode cX11_where 8 = .ok (.iload_n 2, 1) := by decide +kernel
theorem dX11_where_9 : decode cX11_where 9 = .ok (.iconst 0, 1) := by decide +kernel
theorem dX11_where_10 : decode cX11_where 10 = .ok (.iconst 5, 1) := by decide +kernel
theorem dX11_where_11 : decode cX11_where 11 = .ok (.invokestatic 133, 3) := by decide +kernel
theorem dX11_where_14 : decode cX11_where 14 = .ok (.ifCond .eq 7, 3) := by decide +kernel
theorem dX11_where_17 : decode cX11_where 17 = .ok (.iconst 1, 1) := by decide +kernel
theorem dX11_where_18 : decode cX11_where 18 = .ok (.goto 4, 3) := by decide +kernel
theorem dX11_inside_0 : decode cX11_inside 0 = .ok (.iload_n 1, 1) := by decide +kernel
theorem dX11_inside_1 : decode cX11_inside 1 = .ok (.iconst 0, 1) := by decide +kernel
theorem dX11_inside_2 : decode cX11_inside 2 = .ok (.bipush 9, 2) := by decide +kernel
theorem dX11_inside_4 : decode cX11_inside 4 = .ok (.invokestatic 133, 3) := by decide +kernel
theorem dX11_inside_7 : decode cX11_inside 7 = .ok (.invokestatic 100, 3) := by decide +kernel
theorem dX11_inside_10 : decode cX11_inside 10 = .ok (.aload_n 0, 1) := by decide +kernel
theorem dX11_inside_11 : decode cX11_inside 11 = .ok (.getfield 104, 3) := by decide +kernel
theorem dX11_inside_14 : decode cX11_inside 14 = .ok (.invokestatic 112, 3) := by decide +kernel
theorem dX11_inside_17 : decode cX11_inside 17 = .ok (.aload_n 0, 1) := by decide +kernel
theorem dX11_inside_18 : decode cX11_inside 18 = .ok (.getfield 44, 3) := by decide +kernel
theorem dX11_inside_21 : decode cX11_inside 21 = .ok (.iload_n 1, 1) := by decide +kernel
theorem dX11_inside_22 : decode cX11_inside 22 = .ok (.invokevirtual 348, 3) := by decide +kernel
theorem dX11_inside_25 : decode cX11_inside 25 = .ok (.ireturn, 1) := by decide +kernel
theorem dX11_against_0 : decode cX11_against 0 = .ok (.iload_n 2, 1) := by decide +kernel
theorem dX11_against_1 : decode cX11_against 1 = .ok (.iconst 0, 1) := by decide +kernel
theorem dX11_against_2 : decode cX11_against 2 = .ok (.iconst 4, 1) := by decide +kernel
theorem dX11_against_3 : decode cX11_against 3 = .ok (.invokestatic 133, 3) := by decide +kernel
theorem dX11_against_6 : decode cX11_against 6 = .ok (.ifCond .eq 28, 3) := by decide +kernel
theorem dX11_against_34 : decode cX11_against 34 = .ok (.iconst 0, 1) := by decide +kernel
theorem dX11_against_35 : decode cX11_against 35 = .ok (.invokestatic 100, 3) := by decide +kernel
theorem dX11_against_38 : decode cX11_against 38 = .ok (.aload_n 0, 1) := by decide +kernel
theorem dX11_against_39 : decode cX11_against 39 = .ok (.getfield 104, 3) := by decide +kernel
theorem dX11_against_42 : decode cX11_against 42 = .ok (.invokestatic 112, 3) := by decide +kernel
theorem dX11_against_45 : decode cX11_against 45 = .ok (.iload_n 2, 1) := by decide +kernel
theorem dX11_against_46 : decode cX11_against 46 = .ok (.ifCond .ne 13, 3) := by decide +kernel
theorem dX11_against_59 : decode cX11_against 59 = .ok (.aload_n 0, 1) := by decide +kernel
theorem dX11_against_60 : decode cX11_against 60 = .ok (.getfield 53, 3) := by decide +kernel
theorem dX11_against_63 : decode cX11_against 63 = .ok (.iload_n 1, 1) := by decide +kernel
theorem dX11_against_64 : decode cX11_against 64 = .ok (.iload_n 2, 1) := by decide +kernel
theorem dX11_against_65 : decode cX11_against 65 = .ok (.invokevirtual 357, 3) := by decide +kernel
theorem dX11_against_68 : decode cX11_against 68 = .ok (.ireturn, 1) := by decide +kernel
theorem dX11_against_49 : decode cX11_against 49 = .ok (.aload_n 0, 1) := by decide +kernel
theorem dX11_against_50 : decode cX11_against 50 = .ok (.getfield 53, 3) := by decide +kernel
theorem dX11_against_53 : decode cX11_against 53 = .ok (.getfield 354, 3) := by decide +kernel
theorem dX11_against_56 : decode cX11_against 56 = .ok (.goto 12, 3) := by decide +kernel
theorem dX11_against_9 : decode cX11_against 9 = .ok (.iload_n 2, 1) := by decide +kernel
theorem dX11_against_10 : decode cX11_against 10 = .ok (.ifCond .eq 20, 3) := by decide +kernel
theorem dX11_against_30 : decode cX11_against 30 = .ok (.iconst 1, 1) := by decide +kernel
theorem dX11_against_31 : decode cX11_against 31 = .ok (.goto 4, 3) := by decide +kernel
theorem dX11_against_13 : decode cX11_against 13 = .ok (.iload_n 1, 1) := by decide +kernel
theorem dX11_against_14 : decode cX11_against 14 = .ok (.iconst 0, 1) := by decide +kernel
theorem dX11_against_15 : decode cX11_against 15 = .ok (.aload_n 0, 1) := by decide +kernel
theorem dX11_against_16 : decode cX11_against 16 = .ok (.getfield 53, 3) := by decide +kernel
theorem dX11_against_19 : decode cX11_against 19 = .ok (.invokevirtual 351, 3) := by decide +kernel
theorem dX11_against_22 : decode cX11_against 22 = .ok (.iconst 1, 1) := by decide +kernel
theorem dX11_against_23 : decode cX11_against 23 = .ok (.isub, 1) := by decide +kernel
theorem dX11_against_24 : decode cX11_against 24 = .ok (.invokestatic 133, 3) := by decide +kernel
theorem dX11_against_27 : decode cX11_against 27 = .ok (.ifCond .eq 7, 3) := by decide +kernel
theorem dX11_unit_0 : decode cX11_unit 0 = .ok (.iload_n 1, 1) := by decide +kernel
theorem dX11_unit_1 : decode cX11_unit 1 = .ok (.iconst 0, 1) := by decide +kernel
theorem dX11_unit_2 : decode cX11_unit 2 = .ok (.bipush 127, 2) := by decide +kernel
theorem dX11_unit_4 : decode cX11_unit 4 = .ok (.invokestatic 133, 3) := by decide +kernel
theorem dX11_unit_7 : decode cX11_unit 7 = .ok (.invokestatic 100, 3) := by decide +kernel
theorem dX11_unit_10 : decode cX11_unit 10 = .ok (.aload_n 0, 1) := by decide +kernel
theorem dX11_unit_11 : decode cX11_unit 11 = .ok (.getfield 104, 3) := by decide +kernel
theorem dX11_unit_14 : decode cX11_unit 14 = .ok (.ifCond .eq 20, 3) := by decide +kernel
theorem dX11_unit_34 : decode cX11_unit 34 = .ok (.iconst 0, 1) := by decide +kernel
theorem dX11_unit_35 : decode cX11_unit 35 = .ok (.invokestatic 112, 3) := by decide +kernel
theorem dX11_unit_38 : decode cX11_unit 38 = .ok (.aload_n 0, 1) := by decide +kernel
theorem dX11_unit_39 : decode cX11_unit 39 = .ok (.getfield 60, 3) := by decide +kernel
theorem dX11_unit_42 : decode cX11_unit 42 = .ok (.iload_n 1, 1) := by decide +kernel
theorem dX11_unit_43 : decode cX11_unit 43 = .ok (.invokevirtual 361, 3) := by decide +kernel
theorem dX11_unit_46 : decode cX11_unit 46 = .ok (.ireturn, 1) := by decide +kernel
theorem dX11_unit_17 : decode cX11_unit 17 = .ok (.aload_n 0, 1) := by decide +kernel
theorem dX11_unit_18 : decode cX11_unit 18 = .ok (.getfield 60, 3) := by decide +kernel
theorem dX11_unit_21 : decode cX11_unit 21 = .ok (.getfield 360, 3) := by decide +kernel
theorem dX11_unit_24 : decode cX11_unit 24 = .ok (.sipush 2000, 3) := by decide +kernel
theorem dX11_unit_27 : decode cX11_unit 27 = .ok (.if_icmp .ge 7, 3) := by decide +kernel
theorem dX11_unit_30 : decode cX11_unit 30 = .ok (.iconst 1, 1) := by decide +kernel
theorem dX11_unit_31 : decode cX11_unit 31 = .ok (.goto 4, 3) := by decide +kernel
theorem dX11_isSentenceNumber_0 : decode cX11_isSentenceNumber 0 = .ok (.iload_n 0, 1) := by decide +kernel
theorem dX11_isSentenceNumber_1 : decode cX11_isSentenceNumber 1 = .ok (.iconst 0, 1) := by decide +kernel
theorem dX11_isSentenceNumber_2 : decode cX11_isSentenceNumber 2 = .ok (.sipush 9999, 3) := by decide +kernel
theorem dX11_isSentenceNumber_5 : decode cX11_isSentenceNumber 5 = .ok (.invokestatic 133, 3) := by decide +kernel
theorem dX11_isSentenceNumber_8 : decode cX11_isSentenceNumber 8 = .ok (.ireturn, 1) := by decide +kernel
theorem dX11_areSentenceNumbers_0 : decode cX11_areSentenceNumbers 0 = .ok (.iload_n 1, 1) := by decide +kernel
theorem dX11_areSentenceNumbers_1 : decode cX11_areSentenceNumbers 1 = .ok (.invokestatic 620, 3) := by decide +kernel
theorem dX11_areSentenceNumbers_4 : decode cX11_areSentenceNumbers 4 = .ok (.istore 5, 2) := by decide +kernel
theorem dX11_areSentenceNumbers_6 : decode cX11_areSentenceNumbers 6 = .ok (.iload_n 0, 1) := by decide +kernel
theorem dX11_areSentenceNumbers_7 : decode cX11_areSentenceNumbers 7 = .ok (.iconst 4, 1) := by decide +kernel
theorem dX11_areSentenceNumbers_8 : decode cX11_areSentenceNumbers 8 = .ok (.if_icmp .eq 22, 3) := by decide +kernel
theorem dX11_areSentenceNumbers_30 : decode cX11_areSentenceNumbers 30 = .ok (.iload_n 0, 1) := by decide +kernel
theorem dX11_areSentenceNumbers_31 : decode cX11_areSentenceNumbers 31 = .ok (.ifCond .eq 13, 3) := by decide +kernel
theorem dX11_areSentenceNumbers_44 : decode cX11_areSentenceNumbers 44 = .ok (.iload 5, 2) := by decide +kernel
theorem dX11_areSentenceNumbers_46 : decode cX11_areSentenceNumbers 46 = .ok (.ifCond .eq 14, 3) := by decide +kernel
theorem dX11_areSentenceNumbers_60 : decode cX11_areSentenceNumbers 60 = .ok (.iconst 0, 1) := by decide +kernel
theorem dX11_areSentenceNumbers_61 : decode cX11_areSentenceNumbers 61 = .ok (.istore 5, 2) := by decide +kernel
theorem dX11_areSentenceNumbers_63 : decode cX11_areSentenceNumbers 63 = .ok (.iload_n 0, 1) := by decide +kernel
theorem dX11_areSentenceNumbers_64 : decode cX11_areSentenceNumbers 64 = .ok (.ifCond .ne 26, 3) := by decide +kernel
theorem dX11_areSentenceNumbers_90 : decode cX11_areSentenceNumbers 90 = .ok (.iload_n 0, 1) := by decide +kernel
theorem dX11_areSentenceNumbers_91 : decode cX11_areSentenceNumbers 91 = .ok (.iconst 1, 1) := by decide +kernel
theorem dX11_areSentenceNumbers_92 : decode cX11_areSentenceNumbers 92 = .ok (.if_icmp .ne 23, 3) := by decide +kernel
theorem dX11_areSentenceNumbers_115 : decode cX11_areSentenceNumbers 115 = .ok (.iload 5, 2) := by decide +kernel
theorem dX11_areSentenceNumbers_117 : decode cX11_areSentenceNumbers 117 = .ok (.ireturn, 1) := by decide +kernel
theorem dX11_areSentenceNumbers_95 : decode cX11_areSentenceNumbers 95 = .ok (.iload 5, 2) := by decide +kernel
theorem dX11_areSentenceNumbers_97 : decode cX11_areSentenceNumbers 97 = .ok (.ifCond .eq 15, 3) := by decide +kernel
theorem dX11_areSentenceNumbers_112 : decode cX11_areSentenceNumbers 112 = .ok (.iconst 0, 1) := by decide +kernel
theorem dX11_areSentenceNumbers_113 : decode cX11_areSentenceNumbers 113 = .ok (.istore 5, 2) := by decide +kernel
theorem dX11_areSentenceNumbers_100 : decode cX11_areSentenceNumbers 100 = .ok (.iload 4, 2) := by decide +kernel
theorem dX11_areSentenceNumbers_102 : decode cX11_areSentenceNumbers 102 = .ok (.invokestatic 620, 3) := by decide +kernel
theorem dX11_areSentenceNumbers_105 : decode cX11_areSentenceNumbers 105 = .ok (.ifCond .eq 7, 3) := by decide +kernel
theorem dX11_areSentenceNumbers_108 : decode cX11_areSentenceNumbers 108 = .ok (.iconst 1, 1) := by decide +kernel
theorem dX11_areSentenceNumbers_109 : decode cX11_areSentenceNumbers 109 = .ok (.goto 4, 3) := by decide +kernel
theorem dX11_areSentenceNumbers_67 : decode cX11_areSentenceNumbers 67 = .ok (.iload 5, 2) := by decide +kernel
theorem dX11_areSentenceNumbers_69 : decode cX11_areSentenceNumbers 69 = .ok (.ifCond .eq 18, 3) := by decide +kernel
theorem dX11_areSentenceNumbers_87 : decode cX11_areSentenceNumbers 87 = .ok (.iconst 0, 1) := by decide +kernel
theorem dX11_areSentenceNumbers_88 : decode cX11_areSentenceNumbers 88 = .ok (.istore 5, 2) := by decide +kernel
theorem dX11_areSentenceNumbers_72 : decode cX11_areSentenceNumbers 72 = .ok (.iload 4, 2) := by decide +kernel
theorem dX11_areSentenceNumbers_74 : decode cX11_areSentenceNumbers 74 = .ok (.iconst 1, 1) := by decide +kernel
theorem dX11_areSentenceNumbers_75 : decode cX11_areSentenceNumbers 75 = .ok (.bipush 12, 2) := by decide +kernel
theorem dX11_areSentenceNumbers_77 : decode cX11_areSentenceNumbers 77 = .ok (.invokestatic 133, 3) := by decide +kernel
theorem dX11_areSentenceNumbers_80 : decode cX11_areSentenceNumbers 80 = .ok (.ifCond .eq 7, 3) := by decide +kernel
theorem dX11_areSentenceNumbers_83 : decode cX11_areSentenceNumbers 83 = .ok (.iconst 1, 1) := by decide +kernel
theorem dX11_areSentenceNumbers_84 : decode cX11_areSentenceNumbers 84 = .ok (.goto 4, 3) := by decide +kernel
theorem dX11_areSentenceNumbers_49 : decode cX11_areSentenceNumbers 49 = .ok (.iload_n 3, 1) := by decide +kernel
theorem dX11_areSentenceNumbers_50 : decode cX11_areSentenceNumbers 50 = .ok (.invokestatic 620, 3) := by decide +kernel
theorem dX11_areSentenceNumbers_53 : decode cX11_areSentenceNumbers 53 = .ok (.ifCond .eq 7, 3) := by decide +kernel
theorem dX11_areSentenceNumbers_56 : decode cX11_areSentenceNumbers 56 = .ok (.iconst 1, 1) := by decide +kernel
theorem dX11_areSentenceNumbers_57 : decode cX11_areSentenceNumbers 57 = .ok (.goto 4, 3) := by decide +kernel
theorem dX11_areSentenceNumbers_34 : decode cX11_areSentenceNumbers 34 = .ok (.iload_n 0, 1) := by decide +kernel
theorem dX11_areSentenceNumbers_35 : decode cX11_areSentenceNumbers 35 = .ok (.iconst 1, 1) := by decide +kernel
theorem dX11_areSentenceNumbers_36 : decode cX11_areSentenceNumbers 36 = .ok (.if_icmp .eq 8, 3) := by decide +kernel
theorem dX11_areSentenceNumbers_39 : decode cX11_areSentenceNumbers 39 = .ok (.iload_n 0, 1) := by decide +kernel
theorem dX11_areSentenceNumbers_40 : decode cX11_areSentenceNumbers 40 = .ok (.iconst 3, 1) := by decide +kernel
theorem dX11_areSentenceNumbers_41 : decode cX11_areSentenceNumbers 41 = .ok (.if_icmp .ne 22, 3) := by decide +kernel
theorem dX11_areSentenceNumbers_11 : decode cX11_areSentenceNumbers 11 = .ok (.iload 5, 2) := by decide +kernel
theorem dX11_areSentenceNumbers_13 : decode cX11_areSentenceNumbers 13 = .ok (.ifCond .eq 14, 3) := by decide +kernel
theorem dX11_areSentenceNumbers_27 : decode cX11_areSentenceNumbers 27 = .ok (.iconst 0, 1) := by decide +kernel
theorem dX11_areSentenceNumbers_28 : decode cX11_areSentenceNumbers 28 = .ok (.istore 5, 2) := by decide +kernel
theorem dX11_areSentenceNumbers_16 : decode cX11_areSentenceNumbers 16 = .ok (.iload_n 2, 1) := by decide +kernel
theorem dX11_areSentenceNumbers_17 : decode cX11_areSentenceNumbers 17 = .ok (.invokestatic 620, 3) := by decide +kernel
theorem dX11_areSentenceNumbers_20 : decode cX11_areSentenceNumbers 20 = .ok (.ifCond .eq 7, 3) := by decide +kernel
theorem dX11_areSentenceNumbers_23 : decode cX11_areSentenceNumbers 23 = .ok (.iconst 1, 1) := by decide +kernel
theorem dX11_areSentenceNumbers_24 : decode cX11_areSentenceNumbers 24 = .ok (.goto 4, 3) := by decide +kernel
theorem dX11_sentence_0 : decode cX11_sentence 0 = .ok (.iload_n 1, 1) := by decide +kernel
theorem dX11_sentence_1 : decode cX11_sentence 1 = .ok (.iconst 0, 1) := by decide +kernel
theorem dX11_sentence_2 : decode cX11_sentence 2 = .ok (.iconst 4, 1) := by decide +kernel
theorem dX11_sentence_3 : decode cX11_sentence 3 = .ok (.invokestatic 133, 3) := by decide +kernel
theorem dX11_sentence_6 : decode cX11_sentence 6 = .ok (.ifCond .eq 20, 3) := by decide +kernel
theorem dX11_sentence_26 : decode cX11_sentence 26 = .ok (.iconst 0, 1) := by decide +kernel
theorem dX11_sentence_27 : decode cX11_sentence 27 = .ok (.invokestatic 100, 3) := by decide +kernel
theorem dX11_sentence_30 : decode cX11_sentence 30 = .ok (.aload_n 0, 1) := by decide +kernel
theorem dX11_sentence_31 : decode cX11_sentence 31 = .ok (.getfield 60, 3) := by decide +kernel
theorem dX11_sentence_34 : decode cX11_sentence 34 = .ok (.iload_n 1, 1) := by decide +kernel
theorem dX11_sentence_35 : decode cX11_sentence 35 = .ok (.iload_n 2, 1) := by decide +kernel
theorem dX11_sentence_36 : decode cX11_sentence 36 = .ok (.iload_n 3, 1) := by decide +kernel
theorem dX11_sentence_37 : decode cX11_sentence 37 = .ok (.iload 4, 2) := by decide +kernel
theorem dX11_sentence_39 : decode cX11_sentence 39 = .ok (.iload 5, 2) := by decide +kernel
theorem dX11_sentence_41 : decode cX11_sentence 41 = .ok (.invokevirtual 367, 3) := by decide +kernel
theorem dX11_sentence_44 : decode cX11_sentence 44 = .ok (.istore 6, 2) := by decide +kernel
theorem dX11_sentence_46 : decode cX11_sentence 46 = .ok (.aload_n 0, 1) := by decide +kernel
theorem dX11_sentence_47 : decode cX11_sentence 47 = .ok (.getfield 104, 3) := by decide +kernel
theorem dX11_sentence_50 : decode cX11_sentence 50 = .ok (.ifCond .eq 15, 3) := by decide +kernel
theorem dX11_sentence_65 : decode cX11_sentence 65 = .ok (.iconst 0, 1) := by decide +kernel
theorem dX11_sentence_66 : decode cX11_sentence 66 = .ok (.invokestatic 112, 3) := by decide +kernel
theorem dX11_sentence_69 : decode cX11_sentence 69 = .ok (.aload_n 0, 1) := by decide +kernel
theorem dX11_sentence_70 : decode cX11_sentence 70 = .ok (.getfield 60, 3) := by decide +kernel
theorem dX11_sentence_73 : decode cX11_sentence 73 = .ok (.iload 6, 2) := by decide +kernel
theorem dX11_sentence_75 : decode cX11_sentence 75 = .ok (.putfield 360, 3) := by decide +kernel
theorem dX11_sentence_78 : decode cX11_sentence 78 = .ok (.iload 6, 2) := by decide +kernel
theorem dX11_sentence_80 : decode cX11_sentence 80 = .ok (.ireturn, 1) := by decide +kernel
theorem dX11_sentence_53 : decode cX11_sentence 53 = .ok (.iload 6, 2) := by decide +kernel
theorem dX11_sentence_55 : decode cX11_sentence 55 = .ok (.sipush 2000, 3) := by decide +kernel
theorem dX11_sentence_58 : decode cX11_sentence 58 = .ok (.if_icmp .gt 7, 3) := by decide +kernel
theorem dX11_sentence_61 : decode cX11_sentence 61 = .ok (.iconst 1, 1) := by decide +kernel
theorem dX11_sentence_62 : decode cX11_sentence 62 = .ok (.goto 4, 3) := by decide +kernel
theorem dX11_sentence_9 : decode cX11_sentence 9 = .ok (.iload_n 1, 1) := by decide +kernel
theorem dX11_sentence_10 : decode cX11_sentence 10 = .ok (.iload_n 2, 1) := by decide +kernel
theorem dX11_sentence_11 : decode cX11_sentence 11 = .ok (.iload_n 3, 1) := by decide +kernel
theorem dX11_sentence_12 : decode cX11_sentence 12 = .ok (.iload 4, 2) := by decide +kernel
theorem dX11_sentence_14 : decode cX11_sentence 14 = .ok (.iload 5, 2) := by decide +kernel
theorem dX11_sentence_16 : decode cX11_sentence 16 = .ok (.invokestatic 363, 3) := by decide +kernel
theorem dX11_sentence_19 : decode cX11_sentence 19 = .ok (.ifCond .eq 7, 3) := by decide +kernel
theorem dX11_sentence_22 : decode cX11_sentence 22 = .ok (.iconst 1, 1) := by decide +kernel
theorem dX11_sentence_23 : decode cX11_sentence 23 = .ok (.goto 4, 3) := by decide +kernel
theorem dX11_cutText_0 : decode cX11_cutText 0 = .ok (.iload_n 1, 1) := by decide +kernel
theorem dX11_cutText_1 : decode cX11_cutText 1 = .ok (.ifCond .lt 18, 3) := by decide +kernel
theorem dX11_cutText_19 : decode cX11_cutText 19 = .ok (.iconst 0, 1) := by decide +kernel
theorem dX11_cutText_20 : decode cX11_cutText 20 = .ok (.invokestatic 100, 3) := by decide +kernel
theorem dX11_cutText_23 : decode cX11_cutText 23 = .ok (.aload_n 0, 1) := by decide +kernel
theorem dX11_cutText_24 : decode cX11_cutText 24 = .ok (.getfield 104, 3) := by decide +kernel
theorem dX11_cutText_27 : decode cX11_cutText 27 = .ok (.invokestatic 112, 3) := by decide +kernel
theorem dX11_cutText_30 : decode cX11_cutText 30 = .ok (.aload_n 0, 1) := by decide +kernel
theorem dX11_cutText_31 : decode cX11_cutText 31 = .ok (.getfield 60, 3) := by decide +kernel
theorem dX11_cutText_34 : decode cX11_cutText 34 = .ok (.dup, 1) := by decide +kernel
theorem dX11_cutText_35 : decode cX11_cutText 35 = .ok (.getfield 360, 3) := by decide +kernel
theorem dX11_cutText_38 : decode cX11_cutText 38 = .ok (.iload_n 1, 1) := by decide +kernel
theorem dX11_cutText_39 : decode cX11_cutText 39 = .ok (.isub, 1) := by decide +kernel
theorem dX11_cutText_40 : decode cX11_cutText 40 = .ok (.putfield 360, 3) := by decide +kernel
theorem dX11_cutText_43 : decode cX11_cutText 43 = .ok (.aload_n 0, 1) := by decide +kernel
theorem dX11_cutText_44 : decode cX11_cutText 44 = .ok (.getfield 60, 3) := by decide +kernel
theorem dX11_cutText_47 : decode cX11_cutText 47 = .ok (.getfield 360, 3) := by decide +kernel
theorem dX11_cutText_50 : decode cX11_cutText 50 = .ok (.ireturn, 1) := by decide +kernel
theorem dX11_cutText_4 : decode cX11_cutText 4 = .ok (.iload_n 1, 1) := by decide +kernel
theorem dX11_cutText_5 : decode cX11_cutText 5 = .ok (.aload_n 0, 1) := by decide +kernel
theorem dX11_cutText_6 : decode cX11_cutText 6 = .ok (.getfield 60, 3) := by decide +kernel
theorem dX11_cutText_9 : decode cX11_cutText 9 = .ok (.getfield 360, 3) := by decide +kernel
theorem dX11_cutText_12 : decode cX11_cutText 12 = .ok (.if_icmp .gt 7, 3) := by decide +kernel
theorem dX11_cutText_15 : decode cX11_cutText 15 = .ok (.iconst 1, 1) := by decide +kernel
theorem dX11_cutText_16 : decode cX11_cutText 16 = .ok (.goto 4, 3) := by decide +kernel
theorem dX11_matrix_0 : decode cX11_matrix 0 = .ok (.aload_n 0, 1) := by decide +kernel
theorem dX11_matrix_1 : decode cX11_matrix 1 = .ok (.getfield 104, 3) := by decide +kernel
theorem dX11_matrix_4 : decode cX11_matrix 4 = .ok (.invokestatic 112, 3) := by decide +kernel
theorem dX11_matrix_7 : decode cX11_matrix 7 = .ok (.aload_n 0, 1) := by decide +kernel
theorem dX11_matrix_8 : decode cX11_matrix 8 = .ok (.getfield 60, 3) := by decide +kernel
theorem dX11_matrix_11 : decode cX11_matrix 11 = .ok (.aload_n 0, 1) := by decide +kernel
theorem dX11_matrix_12 : decode cX11_matrix 12 = .ok (.getfield 85, 3) := by decide +kernel
theorem dX11_matrix_15 : decode cX11_matrix 15 = .ok (.getfield 261, 3) := by decide +kernel
theorem dX11_matrix_18 : decode cX11_matrix 18 = .ok (.invokevirtual 370, 3) := by decide +kernel
theorem dX11_matrix_21 : decode cX11_matrix 21 = .ok (.ifCond .ne 13, 3) := by decide +kernel
theorem dX11_matrix_34 : decode cX11_matrix 34 = .ok (.aload_n 0, 1) := by decide +kernel
theorem dX11_matrix_35 : decode cX11_matrix 35 = .ok (.getfield 85, 3) := by decide +kernel
theorem dX11_matrix_38 : decode cX11_matrix 38 = .ok (.aload_n 0, 1) := by decide +kernel
theorem dX11_matrix_39 : decode cX11_matrix 39 = .ok (.getfield 60, 3) := by decide +kernel
theorem dX11_matrix_42 : decode cX11_matrix 42 = .ok (.invokevirtual 376, 3) := by decide +kernel
theorem dX11_matrix_45 : decode cX11_matrix 45 = .ok (.aload_n 0, 1) := by decide +kernel
theorem dX11_matrix_46 : decode cX11_matrix 46 = .ok (.getfield 85, 3) := by decide +kernel
theorem dX11_matrix_49 : decode cX11_matrix 49 = .ok (.getfield 380, 3) := by decide +kernel
theorem dX11_matrix_52 : decode cX11_matrix 52 = .ok (.ireturn, 1) := by decide +kernel
theorem dX11_matrix_24 : decode cX11_matrix 24 = .ok (.iconst (-1), 1) := by decide +kernel
theorem dX11_matrix_25 : decode cX11_matrix 25 = .ok (.aload_n 0, 1) := by decide +kernel
theorem dX11_matrix_26 : decode cX11_matrix 26 = .ok (.getfield 60, 3) := by decide +kernel
theorem dX11_matrix_29 : decode cX11_matrix 29 = .ok (.getfield 373, 3) := by decide +kernel
theorem dX11_matrix_32 : decode cX11_matrix 32 = .ok (.isub, 1) := by decide +kernel
theorem dX11_matrix_33 : decode cX11_matrix 33 = .ok (.ireturn, 1) := by decide +kernel
theorem dX11_signal_0 : decode cX11_signal 0 = .ok (.iload_n 1, 1) := by decide +kernel
theorem dX11_signal_1 : decode cX11_signal 1 = .ok (.iconst 0, 1) := by decide +kernel
theorem dX11_signal_2 : decode cX11_signal 2 = .ok (.aload_n 0, 1) := by decide +kernel
theorem dX11_signal_3 : decode cX11_signal 3 = .ok (.getfield 85, 3) := by decide +kernel
theorem dX11_signal_6 : decode cX11_signal 6 = .ok (.getfield 261, 3) := by decide +kernel
theorem dX11_signal_9 : decode cX11_signal 9 = .ok (.iconst 1, 1) := by decide +kernel
theorem dX11_signal_10 : decode cX11_signal 10 = .ok (.isub, 1) := by decide +kernel
theorem dX11_signal_11 : decode cX11_signal 11 = .ok (.invokestatic 133, 3) := by decide +kernel
theorem dX11_signal_14 : decode cX11_signal 14 = .ok (.ifCond .eq 17, 3) := by decide +kernel
theorem dX11_signal_31 : decode cX11_signal 31 = .ok (.iconst 0, 1) := by decide +kernel
theorem dX11_signal_32 : decode cX11_signal 32 = .ok (.invokestatic 100, 3) := by decide +kernel
theorem dX11_signal_35 : decode cX11_signal 35 = .ok (.aload_n 0, 1) := by decide +kernel
theorem dX11_signal_36 : decode cX11_signal 36 = .ok (.getfield 104, 3) := by decide +kernel
theorem dX11_signal_39 : decode cX11_signal 39 = .ok (.invokestatic 112, 3) := by decide +kernel
theorem dX11_signal_42 : decode cX11_signal 42 = .ok (.aload_n 0, 1) := by decide +kernel
theorem dX11_signal_43 : decode cX11_signal 43 = .ok (.getfield 85, 3) := by decide +kernel
theorem dX11_signal_46 : decode cX11_signal 46 = .ok (.getfield 383, 3) := by decide +kernel
theorem dX11_signal_49 : decode cX11_signal 49 = .ok (.iload_n 1, 1) := by decide +kernel
theorem dX11_signal_50 : decode cX11_signal 50 = .ok (.iaload, 1) := by decide +kernel
theorem dX11_signal_51 : decode cX11_signal 51 = .ok (.istore_n 3, 1) := by decide +kernel
theorem dX11_signal_52 : decode cX11_signal 52 = .ok (.aload_n 0, 1) := by decide +kernel
theorem dX11_signal_53 : decode cX11_signal 53 = .ok (.getfield 85, 3) := by decide +kernel
theorem dX11_signal_56 : decode cX11_signal 56 = .ok (.getfield 383, 3) := by decide +kernel
theorem dX11_signal_59 : decode cX11_signal 59 = .ok (.iload_n 1, 1) := by decide +kernel
theorem dX11_signal_60 : decode cX11_signal 60 = .ok (.iload_n 2, 1) := by decide +kernel
theorem dX11_signal_61 : decode cX11_signal 61 = .ok (.iastore, 1) := by decide +kernel
theorem dX11_signal_62 : decode cX11_signal 62 = .ok (.iload_n 3, 1) := by decide +kernel
theorem dX11_signal_63 : decode cX11_signal 63 = .ok (.ireturn, 1) := by decide +kernel
theorem dX11_signal_17 : decode cX11_signal 17 = .ok (.iload_n 2, 1) := by decide +kernel
theorem dX11_signal_18 : decode cX11_signal 18 = .ok (.iconst 0, 1) := by decide +kernel
theorem dX11_signal_19 : decode cX11_signal 19 = .ok (.bipush 100, 2) := by decide +kernel
theorem dX11_signal_21 : decode cX11_signal 21 = .ok (.invokestatic 133, 3) := by decide +kernel
theorem dX11_signal_24 : decode cX11_signal 24 = .ok (.ifCond .eq 7, 3) := by decide +kernel
theorem dX11_signal_27 : decode cX11_signal 27 = .ok (.iconst 1, 1) := by decide +kernel
theorem dX11_signal_28 : decode cX11_signal 28 = .ok (.goto 4, 3) := by decide +kernel
theorem dX11_fault_0 : decode cX11_fault 0 = .ok (.iload_n 1, 1) := by decide +kernel
theorem dX11_fault_1 : decode cX11_fault 1 = .ok (.iconst 0, 1) := by decide +kernel
theorem dX11_fault_2 : decode cX11_fault 2 = .ok (.aload_n 0, 1) := by decide +kernel
theorem dX11_fault_3 : decode cX11_fault 3 = .ok (.getfield 85, 3) := by decide +kernel
theorem dX11_fault_6 : decode cX11_fault 6 = .ok (.getfield 261, 3) := by decide +kernel
theorem dX11_fault_9 : decode cX11_fault 9 = .ok (.iconst 1, 1) := by decide +kernel
theorem dX11_fault_10 : decode cX11_fault 10 = .ok (.isub, 1) := by decide +kernel
theorem dX11_fault_11 : decode cX11_fault 11 = .ok (.invokestatic 133, 3) := by decide +kernel
theorem dX11_fault_14 : decode cX11_fault 14 = .ok (.invokestatic 100, 3) := by decide +kernel
theorem dX11_fault_17 : decode cX11_fault 17 = .ok (.aload_n 0, 1) := by decide +kernel
theorem dX11_fault_18 : decode cX11_fault 18 = .ok (.getfield 104, 3) := by decide +kernel
theorem dX11_fault_21 : decode cX11_fault 21 = .ok (.invokestatic 112, 3) := by decide +kernel
theorem dX11_fault_24 : decode cX11_fault 24 = .ok (.aload_n 0, 1) := by decide +kernel
theorem dX11_fault_25 : decode cX11_fault 25 = .ok (.getfield 85, 3) := by decide +kernel
theorem dX11_fault_28 : decode cX11_fault 28 = .ok (.getfield 386, 3) := by decide +kernel
theorem dX11_fault_31 : decode cX11_fault 31 = .ok (.iload_n 1, 1) := by decide +kernel
theorem dX11_fault_32 : decode cX11_fault 32 = .ok (.baload, 1) := by decide +kernel
theorem dX11_fault_33 : decode cX11_fault 33 = .ok (.istore_n 3, 1) := by decide +kernel
theorem dX11_fault_34 : decode cX11_fault 34 = .ok (.aload_n 0, 1) := by decide +kernel
theorem dX11_fault_35 : decode cX11_fault 35 = .ok (.getfield 85, 3) := by decide +kernel
theorem dX11_fault_38 : decode cX11_fault 38 = .ok (.getfield 386, 3) := by decide +kernel
theorem dX11_fault_41 : decode cX11_fault 41 = .ok (.iload_n 1, 1) := by decide +kernel
theorem dX11_fault_42 : decode cX11_fault 42 = .ok (.iload_n 2, 1) := by decide +kernel
theorem dX11_fault_43 : decode cX11_fault 43 = .ok (.bastore, 1) := by decide +kernel
theorem dX11_fault_44 : decode cX11_fault 44 = .ok (.iload_n 3, 1) := by decide +kernel
theorem dX11_fault_45 : decode cX11_fault 45 = .ok (.ireturn, 1) := by decide +kernel
theorem dX11_disable_0 : decode cX11_disable 0 = .ok (.iload_n 1, 1) := by decide +kernel
theorem dX11_disable_1 : decode cX11_disable 1 = .ok (.iconst 0, 1) := by decide +kernel
theorem dX11_disable_2 : decode cX11_disable 2 = .ok (.aload_n 0, 1) := by decide +kernel
theorem dX11_disable_3 : decode cX11_disable 3 = .ok (.getfield 85, 3) := by decide +kernel
theorem dX11_disable_6 : decode cX11_disable 6 = .ok (.getfield 261, 3) := by decide +kernel
theorem dX11_disable_9 : decode cX11_disable 9 = .ok (.iconst 1, 1) := by decide +kernel
theorem dX11_disable_10 : decode cX11_disable 10 = .ok (.isub, 1) := by decide +kernel
theorem dX11_disable_11 : decode cX11_disable 11 = .ok (.invokestatic 133, 3) := by decide +kernel
theorem dX11_disable_14 : decode cX11_disable 14 = .ok (.ifCond .eq 17, 3) := by decide +kernel
theorem dX11_disable_31 : decode cX11_disable 31 = .ok (.iconst 0, 1) := by decide +kernel
theorem dX11_disable_32 : decode cX11_disable 32 = .ok (.invokestatic 100, 3) := by decide +kernel
theorem dX11_disable_35 : decode cX11_disable 35 = .ok (.aload_n 0, 1) := by decide +kernel
theorem dX11_disable_36 : decode cX11_disable 36 = .ok (.getfield 104, 3) := by decide +kernel
theorem dX11_disable_39 : decode cX11_disable 39 = .ok (.invokestatic 112, 3) := by decide +kernel
theorem dX11_disable_42 : decode cX11_disable 42 = .ok (.aload_n 0, 1) := by decide +kernel
theorem dX11_disable_43 : decode cX11_disable 43 = .ok (.getfield 85, 3) := by decide +kernel
theorem dX11_disable_46 : decode cX11_disable 46 = .ok (.getfield 390, 3) := by decide +kernel
theorem dX11_disable_49 : decode cX11_disable 49 = .ok (.iload_n 1, 1) := by decide +kernel
theorem dX11_disable_50 : decode cX11_disable 50 = .ok (.iaload, 1) := by decide +kernel
theorem dX11_disable_51 : decode cX11_disable 51 = .ok (.istore_n 3, 1) := by decide +kernel
theorem dX11_disable_52 : decode cX11_disable 52 = .ok (.aload_n 0, 1) := by decide +kernel
theorem dX11_disable_53 : decode cX11_disable 53 = .ok (.getfield 85, 3) := by decide +kernel
theorem dX11_disable_56 : decode cX11_disable 56 = .ok (.getfield 390, 3) := by decide +kernel
theorem dX11_disable_59 : decode cX11_disable 59 = .ok (.iload_n 1, 1) := by decide +kernel
theorem dX11_disable_60 : decode cX11_disable 60 = .ok (.iload_n 2, 1) := by decide +kernel
theorem dX11_disable_61 : decode cX11_disable 61 = .ok (.iastore, 1) := by decide +kernel
theorem dX11_disable_62 : decode cX11_disable 62 = .ok (.iload_n 3, 1) := by decide +kernel
theorem dX11_disable_63 : decode cX11_disable 63 = .ok (.ireturn, 1) := by decide +kernel
theorem dX11_disable_17 : decode cX11_disable 17 = .ok (.iload_n 2, 1) := by decide +kernel
theorem dX11_disable_18 : decode cX11_disable 18 = .ok (.iconst 0, 1) := by decide +kernel
theorem dX11_disable_19 : decode cX11_disable 19 = .ok (.ldc 237, 2) := by decide +kernel
theorem dX11_disable_21 : decode cX11_disable 21 = .ok (.invokestatic 133, 3) := by decide +kernel
theorem dX11_disable_24 : decode cX11_disable 24 = .ok (.ifCond .eq 7, 3) := by decide +kernel
theorem dX11_disable_27 : decode cX11_disable 27 = .ok (.iconst 1, 1) := by decide +kernel
theorem dX11_disable_28 : decode cX11_disable 28 = .ok (.goto 4, 3) := by decide +kernel
theorem dX11_attend_0 : decode cX11_attend 0 = .ok (.iload_n 1, 1) := by decide +kernel
theorem dX11_attend_1 : decode cX11_attend 1 = .ok (.iconst 0, 1) := by decide +kernel
theorem dX11_attend_2 : decode cX11_attend 2 = .ok (.iconst 1, 1) := by decide +kernel
theorem dX11_attend_3 : decode cX11_attend 3 = .ok (.invokestatic 133, 3) := by decide +kernel
theorem dX11_attend_6 : decode cX11_attend 6 = .ok (.invokestatic 100, 3) := by decide +kernel
theorem dX11_attend_9 : decode cX11_attend 9 = .ok (.aload_n 0, 1) := by decide +kernel
theorem dX11_attend_10 : decode cX11_attend 10 = .ok (.getfield 104, 3) := by decide +kernel
theorem dX11_attend_13 : decode cX11_attend 13 = .ok (.invokestatic 112, 3) := by decide +kernel
theorem dX11_attend_16 : decode cX11_attend 16 = .ok (.iload_n 1, 1) := by decide +kernel
theorem dX11_attend_17 : decode cX11_attend 17 = .ok (.ifCond .ne 17, 3) := by decide +kernel
theorem dX11_attend_34 : decode cX11_attend 34 = .ok (.aload_n 0, 1) := by decide +kernel
theorem dX11_attend_35 : decode cX11_attend 35 = .ok (.getfield 85, 3) := by decide +kernel
theorem dX11_attend_38 : decode cX11_attend 38 = .ok (.invokevirtual 396, 3) := by decide +kernel
theorem dX11_attend_41 : decode cX11_attend 41 = .ok (.ireturn, 1) := by decide +kernel
theorem dX11_attend_20 : decode cX11_attend 20 = .ok (.aload_n 0, 1) := by decide +kernel
theorem dX11_attend_21 : decode cX11_attend 21 = .ok (.getfield 85, 3) := by decide +kernel
theorem dX11_attend_24 : decode cX11_attend 24 = .ok (.aload_n 0, 1) := by decide +kernel
theorem dX11_attend_25 : decode cX11_attend 25 = .ok (.getfield 312, 3) := by decide +kernel
theorem dX11_attend_28 : decode cX11_attend 28 = .ok (.invokevirtual 393, 3) := by decide +kernel
theorem dX11_attend_31 : decode cX11_attend 31 = .ok (.goto 10, 3) := by decide +kernel
theorem dX11_reset_0 : decode cX11_reset 0 = .ok (.aload_n 0, 1) := by decide +kernel
theorem dX11_reset_1 : decode cX11_reset 1 = .ok (.getfield 104, 3) := by decide +kernel
theorem dX11_reset_4 : decode cX11_reset 4 = .ok (.invokestatic 112, 3) := by decide +kernel
theorem dX11_reset_7 : decode cX11_reset 7 = .ok (.aload_n 0, 1) := by decide +kernel
theorem dX11_reset_8 : decode cX11_reset 8 = .ok (.getfield 85, 3) := by decide +kernel
theorem dX11_reset_11 : decode cX11_reset 11 = .ok (.aload_n 0, 1) := by decide +kernel
theorem dX11_reset_12 : decode cX11_reset 12 = .ok (.getfield 312, 3) := by decide +kernel
theorem dX11_reset_15 : decode cX11_reset 15 = .ok (.invokevirtual 399, 3) := by decide +kernel
theorem dX11_reset_18 : decode cX11_reset 18 = .ok (.ireturn, 1) := by decide +kernel
theorem dX11_act_0 : decode cX11_act 0 = .ok (.aload_n 0, 1) := by decide +kernel
theorem dX11_act_1 : decode cX11_act 1 = .ok (.getfield 85, 3) := by decide +kernel
theorem dX11_act_4 : decode cX11_act 4 = .ok (.iload_n 1, 1) := by decide +kernel
theorem dX11_act_5 : decode cX11_act 5 = .ok (.invokevirtual 402, 3) := by decide +kernel
theorem dX11_act_8 : decode cX11_act 8 = .ok (.ifCond .eq 16, 3) := by decide +kernel
theorem dX11_act_24 : decode cX11_act 24 = .ok (.iconst 0, 1) := by decide +kernel
theorem dX11_act_25 : decode cX11_act 25 = .ok (.invokestatic 100, 3) := by decide +kernel
theorem dX11_act_28 : decode cX11_act 28 = .ok (.aload_n 0, 1) := by decide +kernel
theorem dX11_act_29 : decode cX11_act 29 = .ok (.getfield 104, 3) := by decide +kernel
theorem dX11_act_32 : decode cX11_act 32 = .ok (.invokestatic 112, 3) := by decide +kernel
theorem dX11_act_35 : decode cX11_act 35 = .ok (.aload_n 0, 1) := by decide +kernel
theorem dX11_act_36 : decode cX11_act 36 = .ok (.getfield 85, 3) := by decide +kernel
theorem dX11_act_39 : decode cX11_act 39 = .ok (.iload_n 1, 1) := by decide +kernel
theorem dX11_act_40 : decode cX11_act 40 = .ok (.iload_n 2, 1) := by decide +kernel
theorem dX11_act_41 : decode cX11_act 41 = .ok (.invokevirtual 405, 3) := by decide +kernel
theorem dX11_act_44 : decode cX11_act 44 = .ok (.ireturn, 1) := by decide +kernel
theorem dX11_act_11 : decode cX11_act 11 = .ok (.iload_n 2, 1) := by decide +kernel
theorem dX11_act_12 : decode cX11_act 12 = .ok (.iconst 0, 1) := by decide +kernel
theorem dX11_act_13 : decode cX11_act 13 = .ok (.iconst 5, 1) := by decide +kernel
theorem dX11_act_14 : decode cX11_act 14 = .ok (.invokestatic 133, 3) := by decide +kernel
theorem dX11_act_17 : decode cX11_act 17 = .ok (.ifCond .eq 7, 3) := by decide +kernel
theorem dX11_act_20 : decode cX11_act 20 = .ok (.iconst 1, 1) := by decide +kernel
theorem dX11_act_21 : decode cX11_act 21 = .ok (.goto 4, 3) := by decide +kernel
theorem dX11_zone_0 : decode cX11_zone 0 = .ok (.aload_n 0, 1) := by decide +kernel
theorem dX11_zone_1 : decode cX11_zone 1 = .ok (.getfield 85, 3) := by decide +kernel
theorem dX11_zone_4 : decode cX11_zone 4 = .ok (.iload_n 1, 1) := by decide +kernel
theorem dX11_zone_5 : decode cX11_zone 5 = .ok (.invokevirtual 408, 3) := by decide +kernel
theorem dX11_zone_8 : decode cX11_zone 8 = .ok (.ifCond .eq 16, 3) := by decide +kernel
theorem dX11_zone_24 : decode cX11_zone 24 = .ok (.iconst 0, 1) := by decide +kernel
theorem dX11_zone_25 : decode cX11_zone 25 = .ok (.invokestatic 100, 3) := by decide +kernel
theorem dX11_zone_28 : decode cX11_zone 28 = .ok (.aload_n 0, 1) := by decide +kernel
theorem dX11_zone_29 : decode cX11_zone 29 = .ok (.getfield 104, 3) := by decide +kernel
theorem dX11_zone_32 : decode cX11_zone 32 = .ok (.invokestatic 112, 3) := by decide +kernel
theorem dX11_zone_35 : decode cX11_zone 35 = .ok (.aload_n 0, 1) := by decide +kernel
theorem dX11_zone_36 : decode cX11_zone 36 = .ok (.getfield 85, 3) := by decide +kernel
theorem dX11_zone_39 : decode cX11_zone 39 = .ok (.iload_n 1, 1) := by decide +kernel
theorem dX11_zone_40 : decode cX11_zone 40 = .ok (.iload_n 2, 1) := by decide +kernel
theorem dX11_zone_41 : decode cX11_zone 41 = .ok (.aload_n 0, 1) := by decide +kernel
theorem dX11_zone_42 : decode cX11_zone 42 = .ok (.getfield 312, 3) := by decide +kernel
theorem dX11_zone_45 : decode cX11_zone 45 = .ok (.invokevirtual 411, 3) := by decide +kernel
theorem dX11_zone_48 : decode cX11_zone 48 = .ok (.ireturn, 1) := by decide +kernel
theorem dX11_zone_11 : decode cX11_zone 11 = .ok (.iload_n 2, 1) := by decide +kernel
theorem dX11_zone_12 : decode cX11_zone 12 = .ok (.iconst 0, 1) := by decide +kernel
theorem dX11_zone_13 : decode cX11_zone 13 = .ok (.iconst 3, 1) := by decide +kernel
theorem dX11_zone_14 : decode cX11_zone 14 = .ok (.invokestatic 133, 3) := by decide +kernel
theorem dX11_zone_17 : decode cX11_zone 17 = .ok (.ifCond .eq 7, 3) := by decide +kernel
theorem dX11_zone_20 : decode cX11_zone 20 = .ok (.iconst 1, 1) := by decide +kernel
theorem dX11_zone_21 : decode cX11_zone 21 = .ok (.goto 4, 3) := by decide +kernel
theorem dX11_event_0 : decode cX11_event 0 = .ok (.iload_n 1, 1) := by decide +kernel
theorem dX11_event_1 : decode cX11_event 1 = .ok (.iconst 0, 1) := by decide +kernel
theorem dX11_event_2 : decode cX11_event 2 = .ok (.aload_n 0, 1) := by decide +kernel
theorem dX11_event_3 : decode cX11_event 3 = .ok (.getfield 85, 3) := by decide +kernel
theorem dX11_event_6 : decode cX11_event 6 = .ok (.invokevirtual 414, 3) := by decide +kernel
theorem dX11_event_9 : decode cX11_event 9 = .ok (.iconst 1, 1) := by decide +kernel
theorem dX11_event_10 : decode cX11_event 10 = .ok (.isub, 1) := by decide +kernel
theorem dX11_event_11 : decode cX11_event 11 = .ok (.invokestatic 133, 3) := by decide +kernel
theorem dX11_event_14 : decode cX11_event 14 = .ok (.ifCond .eq 16, 3) := by decide +kernel
theorem dX11_event_30 : decode cX11_event 30 = .ok (.iconst 0, 1) := by decide +kernel
theorem dX11_event_31 : decode cX11_event 31 = .ok (.invokestatic 100, 3) := by decide +kernel
theorem dX11_event_34 : decode cX11_event 34 = .ok (.aload_n 0, 1) := by decide +kernel
theorem dX11_event_35 : decode cX11_event 35 = .ok (.getfield 104, 3) := by decide +kernel
theorem dX11_event_38 : decode cX11_event 38 = .ok (.invokestatic 112, 3) := by decide +kernel
theorem dX11_event_41 : decode cX11_event 41 = .ok (.aload_n 0, 1) := by decide +kernel
theorem dX11_event_42 : decode cX11_event 42 = .ok (.getfield 85, 3) := by decide +kernel
theorem dX11_event_45 : decode cX11_event 45 = .ok (.iload_n 1, 1) := by decide +kernel
theorem dX11_event_46 : decode cX11_event 46 = .ok (.iload_n 2, 1) := by decide +kernel
theorem dX11_event_47 : decode cX11_event 47 = .ok (.invokevirtual 417, 3) := by decide +kernel
theorem dX11_event_50 : decode cX11_event 50 = .ok (.ireturn, 1) := by decide +kernel
theorem dX11_event_17 : decode cX11_event 17 = .ok (.iload_n 2, 1) := by decide +kernel
theorem dX11_event_18 : decode cX11_event 18 = .ok (.iconst 0, 1) := by decide +kernel
theorem dX11_event_19 : decode cX11_event 19 = .ok (.iconst 2, 1) := by decide +kernel
theorem dX11_event_20 : decode cX11_event 20 = .ok (.invokestatic 133, 3) := by decide +kernel
theorem dX11_event_23 : decode cX11_event 23 = .ok (.ifCond .eq 7, 3) := by decide +kernel
theorem dX11_event_26 : decode cX11_event 26 = .ok (.iconst 1, 1) := by decide +kernel
theorem dX11_event_27 : decode cX11_event 27 = .ok (.goto 4, 3) := by decide +kernel
theorem dX11_block_0 : decode cX11_block 0 = .ok (.iload_n 1, 1) := by decide +kernel
theorem dX11_block_1 : decode cX11_block 1 = .ok (.iconst 0, 1) := by decide +kernel
theorem dX11_block_2 : decode cX11_block 2 = .ok (.bipush 25, 2) := by decide +kernel
theorem dX11_block_4 : decode cX11_block 4 = .ok (.invokestatic 133, 3) := by decide +kernel
theorem dX11_block_7 : decode cX11_block 7 = .ok (.invokestatic 100, 3) := by decide +kernel
theorem dX11_block_10 : decode cX11_block 10 = .ok (.aload_n 0, 1) := by decide +kernel
theorem dX11_block_11 : decode cX11_block 11 = .ok (.getfield 104, 3) := by decide +kernel
theorem dX11_block_14 : decode cX11_block 14 = .ok (.ifCond .eq 19, 3) := by decide +kernel
theorem dX11_block_33 : decode cX11_block 33 = .ok (.iconst 0, 1) := by decide +kernel
theorem dX11_block_34 : decode cX11_block 34 = .ok (.invokestatic 112, 3) := by decide +kernel
theorem dX11_block_37 : decode cX11_block 37 = .ok (.aload_n 0, 1) := by decide +kernel
theorem dX11_block_38 : decode cX11_block 38 = .ok (.getfield 67, 3) := by decide +kernel
theorem dX11_block_41 : decode cX11_block 41 = .ok (.iload_n 1, 1) := by decide +kernel
theorem dX11_block_42 : decode cX11_block 42 = .ok (.invokevirtual 423, 3) := by decide +kernel
theorem dX11_block_45 : decode cX11_block 45 = .ok (.ireturn, 1) := by decide +kernel
theorem dX11_block_17 : decode cX11_block 17 = .ok (.aload_n 0, 1) := by decide +kernel
theorem dX11_block_18 : decode cX11_block 18 = .ok (.getfield 67, 3) := by decide +kernel
theorem dX11_block_21 : decode cX11_block 21 = .ok (.getfield 420, 3) := by decide +kernel
theorem dX11_block_24 : decode cX11_block 24 = .ok (.bipush 40, 2) := by decide +kernel
theorem dX11_block_26 : decode cX11_block 26 = .ok (.if_icmp .ge 7, 3) := by decide +kernel
theorem dX11_block_29 : decode cX11_block 29 = .ok (.iconst 1, 1) := by decide +kernel
theorem dX11_block_30 : decode cX11_block 30 = .ok (.goto 4, 3) := by decide +kernel
theorem dX11_isBlock_0 : decode cX11_isBlock 0 = .ok (.iload_n 1, 1) := by decide +kernel
theorem dX11_isBlock_1 : decode cX11_isBlock 1 = .ok (.iconst 0, 1) := by decide +kernel
theorem dX11_isBlock_2 : decode cX11_isBlock 2 = .ok (.aload_n 0, 1) := by decide +kernel
theorem dX11_isBlock_3 : decode cX11_isBlock 3 = .ok (.getfield 67, 3) := by decide +kernel
theorem dX11_isBlock_6 : decode cX11_isBlock 6 = .ok (.getfield 420, 3) := by decide +kernel
theorem dX11_isBlock_9 : decode cX11_isBlock 9 = .ok (.iconst 1, 1) := by decide +kernel
theorem dX11_isBlock_10 : decode cX11_isBlock 10 = .ok (.isub, 1) := by decide +kernel
theorem dX11_isBlock_11 : decode cX11_isBlock 11 = .ok (.invokestatic 133, 3) := by decide +kernel
theorem dX11_isBlock_14 : decode cX11_isBlock 14 = .ok (.ireturn, 1) := by decide +kernel
theorem dX11_wire_0 : decode cX11_wire 0 = .ok (.aload_n 0, 1) := by decide +kernel
theorem dX11_wire_1 : decode cX11_wire 1 = .ok (.iload_n 1, 1) := by decide +kernel
theorem dX11_wire_2 : decode cX11_wire 2 = .ok (.invokevirtual 426, 3) := by decide +kernel
theorem dX11_wire_5 : decode cX11_wire 5 = .ok (.ifCond .eq 29, 3) := by decide +kernel
theorem dX11_wire_34 : decode cX11_wire 34 = .ok (.iconst 0, 1) := by decide +kernel
theorem dX11_wire_35 : decode cX11_wire 35 = .ok (.invokestatic 100, 3) := by decide +kernel
theorem dX11_wire_38 : decode cX11_wire 38 = .ok (.aload_n 0, 1) := by decide +kernel
theorem dX11_wire_39 : decode cX11_wire 39 = .ok (.getfield 104, 3) := by decide +kernel
theorem dX11_wire_42 : decode cX11_wire 42 = .ok (.invokestatic 112, 3) := by decide +kernel
theorem dX11_wire_45 : decode cX11_wire 45 = .ok (.aload_n 0, 1) := by decide +kernel
theorem dX11_wire_46 : decode cX11_wire 46 = .ok (.getfield 67, 3) := by decide +kernel
theorem dX11_wire_49 : decode cX11_wire 49 = .ok (.iload_n 1, 1) := by decide +kernel
theorem dX11_wire_50 : decode cX11_wire 50 = .ok (.iload_n 2, 1) := by decide +kernel
theorem dX11_wire_51 : decode cX11_wire 51 = .ok (.iload_n 3, 1) := by decide +kernel
theorem dX11_wire_52 : decode cX11_wire 52 = .ok (.invokevirtual 429, 3) := by decide +kernel
theorem dX11_wire_55 : decode cX11_wire 55 = .ok (.ireturn, 1) := by decide +kernel
theorem dX11_wire_8 : decode cX11_wire 8 = .ok (.iload_n 2, 1) := by decide +kernel
theorem dX11_wire_9 : decode cX11_wire 9 = .ok (.iconst 0, 1) := by decide +kernel
theorem dX11_wire_10 : decode cX11_wire 10 = .ok (.iconst 2, 1) := by decide +kernel
theorem dX11_wire_11 : decode cX11_wire 11 = .ok (.invokestatic 133, 3) := by decide +kernel
theorem dX11_wire_14 : decode cX11_wire 14 = .ok (.ifCond .eq 20, 3) := by decide +kernel
theorem dX11_wire_17 : decode cX11_wire 17 = .ok (.iload_n 3, 1) := by decide +kernel
theorem dX11_wire_18 : decode cX11_wire 18 = .ok (.iconst (-1), 1) := by decide +kernel
theorem dX11_wire_19 : decode cX11_wire 19 = .ok (.if_icmp .eq 11, 3) := by decide +kernel
theorem dX11_wire_30 : decode cX11_wire 30 = .ok (.iconst 1, 1) := by decide +kernel
theorem dX11_wire_31 : decode cX11_wire 31 = .ok (.goto 4, 3) := by decide +kernel
theorem dX11_wire_22 : decode cX11_wire 22 = .ok (.aload_n 0, 1) := by decide +kernel
theorem dX11_wire_23 : decode cX11_wire 23 = .ok (.iload_n 3, 1) := by decide +kernel
theorem dX11_wire_24 : decode cX11_wire 24 = .ok (.invokevirtual 426, 3) := by decide +kernel
theorem dX11_wire_27 : decode cX11_wire 27 = .ok (.ifCond .eq 7, 3) := by decide +kernel
theorem dX11_numbers_0 : decode cX11_numbers 0 = .ok (.aload_n 0, 1) := by decide +kernel
theorem dX11_numbers_1 : decode cX11_numbers 1 = .ok (.iload_n 1, 1) := by decide +kernel
theorem dX11_numbers_2 : decode cX11_numbers 2 = .ok (.invokevirtual 426, 3) := by decide +kernel
theorem dX11_numbers_5 : decode cX11_numbers 5 = .ok (.invokestatic 100, 3) := by decide +kernel
theorem dX11_numbers_8 : decode cX11_numbers 8 = .ok (.aload_n 0, 1) := by decide +kernel
theorem dX11_numbers_9 : decode cX11_numbers 9 = .ok (.getfield 104, 3) := by decide +kernel
theorem dX11_numbers_12 : decode cX11_numbers 12 = .ok (.invokestatic 112, 3) := by decide +kernel
theorem dX11_numbers_15 : decode cX11_numbers 15 = .ok (.aload_n 0, 1) := by decide +kernel
theorem dX11_numbers_16 : decode cX11_numbers 16 = .ok (.getfield 67, 3) := by decide +kernel
theorem dX11_numbers_19 : decode cX11_numbers 19 = .ok (.getfield 432, 3) := by decide +kernel
theorem dX11_numbers_22 : decode cX11_numbers 22 = .ok (.iload_n 1, 1) := by decide +kernel
theorem dX11_numbers_23 : decode cX11_numbers 23 = .ok (.iload_n 2, 1) := by decide +kernel
theorem dX11_numbers_24 : decode cX11_numbers 24 = .ok (.iastore, 1) := by decide +kernel
theorem dX11_numbers_25 : decode cX11_numbers 25 = .ok (.aload_n 0, 1) := by decide +kernel
theorem dX11_numbers_26 : decode cX11_numbers 26 = .ok (.getfield 67, 3) := by decide +kernel
theorem dX11_numbers_29 : decode cX11_numbers 29 = .ok (.getfield 435, 3) := by decide +kernel
theorem dX11_numbers_32 : decode cX11_numbers 32 = .ok (.iload_n 1, 1) := by decide +kernel
theorem dX11_numbers_33 : decode cX11_numbers 33 = .ok (.iload_n 3, 1) := by decide +kernel
theorem dX11_numbers_34 : decode cX11_numbers 34 = .ok (.iastore, 1) := by decide +kernel
theorem dX11_numbers_35 : decode cX11_numbers 35 = .ok (.return_, 1) := by decide +kernel
theorem dX11_row_0 : decode cX11_row 0 = .ok (.aload_n 0, 1) := by decide +kernel
theorem dX11_row_1 : decode cX11_row 1 = .ok (.iload_n 1, 1) := by decide +kernel
theorem dX11_row_2 : decode cX11_row 2 = .ok (.invokevirtual 426, 3) := by decide +kernel
theorem dX11_row_5 : decode cX11_row 5 = .ok (.ifCond .eq 17, 3) := by decide +kernel
theorem dX11_row_22 : decode cX11_row 22 = .ok (.iconst 0, 1) := by decide +kernel
theorem dX11_row_23 : decode cX11_row 23 = .ok (.invokestatic 100, 3) := by decide +kernel
theorem dX11_row_26 : decode cX11_row 26 = .ok (.aload_n 0, 1) := by decide +kernel
theorem dX11_row_27 : decode cX11_row 27 = .ok (.getfield 104, 3) := by decide +kernel
theorem dX11_row_30 : decode cX11_row 30 = .ok (.ifCond .eq 21, 3) := by decide +kernel
theorem dX11_row_51 : decode cX11_row 51 = .ok (.iconst 0, 1) := by decide +kernel
theorem dX11_row_52 : decode cX11_row 52 = .ok (.invokestatic 112, 3) := by decide +kernel
theorem dX11_row_55 : decode cX11_row 55 = .ok (.aload_n 0, 1) := by decide +kernel
theorem dX11_row_56 : decode cX11_row 56 = .ok (.getfield 67, 3) := by decide +kernel
theorem dX11_row_59 : decode cX11_row 59 = .ok (.getfield 441, 3) := by decide +kernel
theorem dX11_row_62 : decode cX11_row 62 = .ok (.iload_n 1, 1) := by decide +kernel
theorem dX11_row_63 : decode cX11_row 63 = .ok (.aaload, 1) := by decide +kernel
theorem dX11_row_64 : decode cX11_row 64 = .ok (.iload_n 2, 1) := by decide +kernel
theorem dX11_row_65 : decode cX11_row 65 = .ok (.iaload, 1) := by decide +kernel
theorem dX11_row_66 : decode cX11_row 66 = .ok (.istore 4, 2) := by decide +kernel
theorem dX11_row_68 : decode cX11_row 68 = .ok (.aload_n 0, 1) := by decide +kernel
theorem dX11_row_69 : decode cX11_row 69 = .ok (.getfield 67, 3) := by decide +kernel
theorem dX11_row_72 : decode cX11_row 72 = .ok (.getfield 441, 3) := by decide +kernel
theorem dX11_row_75 : decode cX11_row 75 = .ok (.iload_n 1, 1) := by decide +kernel
theorem dX11_row_76 : decode cX11_row 76 = .ok (.aaload, 1) := by decide +kernel
theorem dX11_row_77 : decode cX11_row 77 = .ok (.iload_n 2, 1) := by decide +kernel
theorem dX11_row_78 : decode cX11_row 78 = .ok (.iload_n 3, 1) := by decide +kernel
theorem dX11_row_79 : decode cX11_row 79 = .ok (.iastore, 1) := by decide +kernel
theorem dX11_row_80 : decode cX11_row 80 = .ok (.iload 4, 2) := by decide +kernel
theorem dX11_row_82 : decode cX11_row 82 = .ok (.ireturn, 1) := by decide +kernel
theorem dX11_row_33 : decode cX11_row 33 = .ok (.aload_n 0, 1) := by decide +kernel
theorem dX11_row_34 : decode cX11_row 34 = .ok (.getfield 67, 3) := by decide +kernel
theorem dX11_row_37 : decode cX11_row 37 = .ok (.getfield 438, 3) := by decide +kernel
theorem dX11_row_40 : decode cX11_row 40 = .ok (.iload_n 1, 1) := by decide +kernel
theorem dX11_row_41 : decode cX11_row 41 = .ok (.iaload, 1) := by decide +kernel
theorem dX11_row_42 : decode cX11_row 42 = .ok (.bipush 15, 2) := by decide +kernel
theorem dX11_row_44 : decode cX11_row 44 = .ok (.if_icmp .ne 7, 3) := by decide +kernel
theorem dX11_row_47 : decode cX11_row 47 = .ok (.iconst 1, 1) := by decide +kernel
theorem dX11_row_48 : decode cX11_row 48 = .ok (.goto 4, 3) := by decide +kernel
theorem dX11_row_8 : decode cX11_row 8 = .ok (.iload_n 2, 1) := by decide +kernel
theorem dX11_row_9 : decode cX11_row 9 = .ok (.iconst 0, 1) := by decide +kernel
theorem dX11_row_10 : decode cX11_row 10 = .ok (.bipush 7, 2) := by decide +kernel
theorem dX11_row_12 : decode cX11_row 12 = .ok (.invokestatic 133, 3) := by decide +kernel
theorem dX11_row_15 : decode cX11_row 15 = .ok (.ifCond .eq 7, 3) := by decide +kernel
theorem dX11_row_18 : decode cX11_row 18 = .ok (.iconst 1, 1) := by decide +kernel
theorem dX11_row_19 : decode cX11_row 19 = .ok (.goto 4, 3) := by decide +kernel
theorem dX11_safe_0 : decode cX11_safe 0 = .ok (.aload_n 0, 1) := by decide +kernel
theorem dX11_safe_1 : decode cX11_safe 1 = .ok (.iload_n 1, 1) := by decide +kernel
theorem dX11_safe_2 : decode cX11_safe 2 = .ok (.invokevirtual 426, 3) := by decide +kernel
theorem dX11_safe_5 : decode cX11_safe 5 = .ok (.invokestatic 100, 3) := by decide +kernel
theorem dX11_safe_8 : decode cX11_safe 8 = .ok (.aload_n 0, 1) := by decide +kernel
theorem dX11_safe_9 : decode cX11_safe 9 = .ok (.getfield 104, 3) := by decide +kernel
theorem dX11_safe_12 : decode cX11_safe 12 = .ok (.invokestatic 112, 3) := by decide +kernel
theorem dX11_safe_15 : decode cX11_safe 15 = .ok (.aload_n 0, 1) := by decide +kernel
theorem dX11_safe_16 : decode cX11_safe 16 = .ok (.getfield 67, 3) := by decide +kernel
theorem dX11_safe_19 : decode cX11_safe 19 = .ok (.getfield 445, 3) := by decide +kernel
theorem dX11_safe_22 : decode cX11_safe 22 = .ok (.iload_n 1, 1) := by decide +kernel
theorem dX11_safe_23 : decode cX11_safe 23 = .ok (.iaload, 1) := by decide +kernel
theorem dX11_safe_24 : decode cX11_safe 24 = .ok (.istore_n 3, 1) := by decide +kernel
theorem dX11_safe_25 : decode cX11_safe 25 = .ok (.aload_n 0, 1) := by decide +kernel
theorem dX11_safe_26 : decode cX11_safe 26 = .ok (.getfield 67, 3) := by decide +kernel
theorem dX11_safe_29 : decode cX11_safe 29 = .ok (.getfield 445, 3) := by decide +kernel
theorem dX11_safe_32 : decode cX11_safe 32 = .ok (.iload_n 1, 1) := by decide +kernel
theorem dX11_safe_33 : decode cX11_safe 33 = .ok (.iload_n 2, 1) := by decide +kernel
theorem dX11_safe_34 : decode cX11_safe 34 = .ok (.iastore, 1) := by decide +kernel
theorem dX11_safe_35 : decode cX11_safe 35 = .ok (.iload_n 3, 1) := by decide +kernel
theorem dX11_safe_36 : decode cX11_safe 36 = .ok (.ireturn, 1) := by decide +kernel
theorem dX11_hand_0 : decode cX11_hand 0 = .ok (.aload_n 0, 1) := by decide +kernel
theorem dX11_hand_1 : decode cX11_hand 1 = .ok (.iload_n 1, 1) := by decide +kernel
theorem dX11_hand_2 : decode cX11_hand 2 = .ok (.invokevirtual 426, 3) := by decide +kernel
theorem dX11_hand_5 : decode cX11_hand 5 = .ok (.invokestatic 100, 3) := by decide +kernel
theorem dX11_hand_8 : decode cX11_hand 8 = .ok (.aload_n 0, 1) := by decide +kernel
theorem dX11_hand_9 : decode cX11_hand 9 = .ok (.getfield 104, 3) := by decide +kernel
theorem dX11_hand_12 : decode cX11_hand 12 = .ok (.invokestatic 112, 3) := by decide +kernel
theorem dX11_hand_15 : decode cX11_hand 15 = .ok (.aload_n 0, 1) := by decide +kernel
theorem dX11_hand_16 : decode cX11_hand 16 = .ok (.getfield 67, 3) := by decide +kernel
theorem dX11_hand_19 : decode cX11_hand 19 = .ok (.getfield 448, 3) := by decide +kernel
theorem dX11_hand_22 : decode cX11_hand 22 = .ok (.iload_n 1, 1) := by decide +kernel
theorem dX11_hand_23 : decode cX11_hand 23 = .ok (.baload, 1) := by decide +kernel
theorem dX11_hand_24 : decode cX11_hand 24 = .ok (.istore 4, 2) := by decide +kernel
theorem dX11_hand_26 : decode cX11_hand 26 = .ok (.aload_n 0, 1) := by decide +kernel
theorem dX11_hand_27 : decode cX11_hand 27 = .ok (.getfield 67, 3) := by decide +kernel
theorem dX11_hand_30 : decode cX11_hand 30 = .ok (.getfield 448, 3) := by decide +kernel
theorem dX11_hand_33 : decode cX11_hand 33 = .ok (.iload_n 1, 1) := by decide +kernel
theorem dX11_hand_34 : decode cX11_hand 34 = .ok (.iload_n 2, 1) := by decide +kernel
theorem dX11_hand_35 : decode cX11_hand 35 = .ok (.bastore, 1) := by decide +kernel
theorem dX11_hand_36 : decode cX11_hand 36 = .ok (.aload_n 0, 1) := by decide +kernel
theorem dX11_hand_37 : decode cX11_hand 37 = .ok (.getfield 67, 3) := by decide +kernel
theorem dX11_hand_40 : decode cX11_hand 40 = .ok (.getfield 451, 3) := by decide +kernel
theorem dX11_hand_43 : decode cX11_hand 43 = .ok (.iload_n 1, 1) := by decide +kernel
theorem dX11_hand_44 : decode cX11_hand 44 = .ok (.iload_n 3, 1) := by decide +kernel
theorem dX11_hand_45 : decode cX11_hand 45 = .ok (.iastore, 1) := by decide +kernel
theorem dX11_hand_46 : decode cX11_hand 46 = .ok (.iload 4, 2) := by decide +kernel
theorem dX11_hand_48 : decode cX11_hand 48 = .ok (.ireturn, 1) := by decide +kernel
theorem dX11_bind_0 : decode cX11_bind 0 = .ok (.aload_n 0, 1) := by decide +kernel
theorem dX11_bind_1 : decode cX11_bind 1 = .ok (.iload_n 1, 1) := by decide +kernel
theorem dX11_bind_2 : decode cX11_bind 2 = .ok (.invokevirtual 426, 3) := by decide +kernel
theorem dX11_bind_5 : decode cX11_bind 5 = .ok (.ifCond .eq 17, 3) := by decide +kernel
theorem dX11_bind_22 : decode cX11_bind 22 = .ok (.iconst 0, 1) := by decide +kernel
theorem dX11_bind_23 : decode cX11_bind 23 = .ok (.invokestatic 100, 3) := by decide +kernel
theorem dX11_bind_26 : decode cX11_bind 26 = .ok (.aload_n 0, 1) := by decide +kernel
theorem dX11_bind_27 : decode cX11_bind 27 = .ok (.getfield 104, 3) := by decide +kernel
theorem dX11_bind_30 : decode cX11_bind 30 = .ok (.invokestatic 112, 3) := by decide +kernel
theorem dX11_bind_33 : decode cX11_bind 33 = .ok (.aload_n 0, 1) := by decide +kernel
theorem dX11_bind_34 : decode cX11_bind 34 = .ok (.getfield 67, 3) := by decide +kernel
theorem dX11_bind_37 : decode cX11_bind 37 = .ok (.getfield 454, 3) := by decide +kernel
theorem dX11_bind_40 : decode cX11_bind 40 = .ok (.iload_n 1, 1) := by decide +kernel
theorem dX11_bind_41 : decode cX11_bind 41 = .ok (.iaload, 1) := by decide +kernel
theorem dX11_bind_42 : decode cX11_bind 42 = .ok (.istore_n 3, 1) := by decide +kernel
theorem dX11_bind_43 : decode cX11_bind 43 = .ok (.aload_n 0, 1) := by decide +kernel
theorem dX11_bind_44 : decode cX11_bind 44 = .ok (.getfield 67, 3) := by decide +kernel
theorem dX11_bind_47 : decode cX11_bind 47 = .ok (.getfield 454, 3) := by decide +kernel
theorem dX11_bind_50 : decode cX11_bind 50 = .ok (.iload_n 1, 1) := by decide +kernel
theorem dX11_bind_51 : decode cX11_bind 51 = .ok (.iload_n 2, 1) := by decide +kernel
theorem dX11_bind_52 : decode cX11_bind 52 = .ok (.iastore, 1) := by decide +kernel
theorem dX11_bind_53 : decode cX11_bind 53 = .ok (.iload_n 3, 1) := by decide +kernel
theorem dX11_bind_54 : decode cX11_bind 54 = .ok (.ireturn, 1) := by decide +kernel
theorem dX11_bind_8 : decode cX11_bind 8 = .ok (.iload_n 2, 1) := by decide +kernel
theorem dX11_bind_9 : decode cX11_bind 9 = .ok (.iconst (-1), 1) := by decide +kernel
theorem dX11_bind_10 : decode cX11_bind 10 = .ok (.bipush 9, 2) := by decide +kernel
theorem dX11_bind_12 : decode cX11_bind 12 = .ok (.invokestatic 133, 3) := by decide +kernel
theorem dX11_bind_15 : decode cX11_bind 15 = .ok (.ifCond .eq 7, 3) := by decide +kernel
theorem dX11_bind_18 : decode cX11_bind 18 = .ok (.iconst 1, 1) := by decide +kernel
theorem dX11_bind_19 : decode cX11_bind 19 = .ok (.goto 4, 3) := by decide +kernel
theorem dX11_point_0 : decode cX11_point 0 = .ok (.iload_n 1, 1) := by decide +kernel
theorem dX11_point_1 : decode cX11_point 1 = .ok (.iconst 4, 1) := by decide +kernel
theorem dX11_point_2 : decode cX11_point 2 = .ok (.bipush 9, 2) := by decide +kernel
theorem dX11_point_4 : decode cX11_point 4 = .ok (.invokestatic 133, 3) := by decide +kernel
theorem dX11_point_7 : decode cX11_point 7 = .ok (.invokestatic 100, 3) := by decide +kernel
theorem dX11_point_10 : decode cX11_point 10 = .ok (.aload_n 0, 1) := by decide +kernel
theorem dX11_point_11 : decode cX11_point 11 = .ok (.getfield 104, 3) := by decide +kernel
theorem dX11_point_14 : decode cX11_point 14 = .ok (.invokestatic 112, 3) := by decide +kernel
theorem dX11_point_17 : decode cX11_point 17 = .ok (.aload_n 0, 1) := by decide +kernel
theorem dX11_point_18 : decode cX11_point 18 = .ok (.getfield 67, 3) := by decide +kernel
theorem dX11_point_21 : decode cX11_point 21 = .ok (.getfield 457, 3) := by decide +kernel
theorem dX11_point_24 : decode cX11_point 24 = .ok (.iload_n 1, 1) := by decide +kernel
theorem dX11_point_25 : decode cX11_point 25 = .ok (.iaload, 1) := by decide +kernel
theorem dX11_point_26 : decode cX11_point 26 = .ok (.istore_n 3, 1) := by decide +kernel
theorem dX11_point_27 : decode cX11_point 27 = .ok (.aload_n 0, 1) := by decide +kernel
theorem dX11_point_28 : decode cX11_point 28 = .ok (.getfield 67, 3) := by decide +kernel
theorem dX11_point_31 : decode cX11_point 31 = .ok (.getfield 457, 3) := by decide +kernel
theorem dX11_point_34 : decode cX11_point 34 = .ok (.iload_n 1, 1) := by decide +kernel
theorem dX11_point_35 : decode cX11_point 35 = .ok (.iload_n 2, 1) := by decide +kernel
theorem dX11_point_36 : decode cX11_point 36 = .ok (.iastore, 1) := by decide +kernel
theorem dX11_point_37 : decode cX11_point 37 = .ok (.iload_n 3, 1) := by decide +kernel
theorem dX11_point_38 : decode cX11_point 38 = .ok (.ireturn, 1) := by decide +kernel
theorem dX11_pointAt_0 : decode cX11_pointAt 0 = .ok (.iload_n 1, 1) := by decide +kernel
theorem dX11_pointAt_1 : decode cX11_pointAt 1 = .ok (.iconst 0, 1) := by decide +kernel
theorem dX11_pointAt_2 : decode cX11_pointAt 2 = .ok (.bipush 9, 2) := by decide +kernel
theorem dX11_pointAt_4 : decode cX11_pointAt 4 = .ok (.invokestatic 133, 3) := by decide +kernel
theorem dX11_pointAt_7 : decode cX11_pointAt 7 = .ok (.invokestatic 100, 3) := by decide +kernel
theorem dX11_pointAt_10 : decode cX11_pointAt 10 = .ok (.aload_n 0, 1) := by decide +kernel
theorem dX11_pointAt_11 : decode cX11_pointAt 11 = .ok (.getfield 104, 3) := by decide +kernel
theorem dX11_pointAt_14 : decode cX11_pointAt 14 = .ok (.invokestatic 112, 3) := by decide +kernel
theorem dX11_pointAt_17 : decode cX11_pointAt 17 = .ok (.aload_n 0, 1) := by decide +kernel
theorem dX11_pointAt_18 : decode cX11_pointAt 18 = .ok (.getfield 67, 3) := by decide +kernel
theorem dX11_pointAt_21 : decode cX11_pointAt 21 = .ok (.getfield 457, 3) := by decide +kernel
theorem dX11_pointAt_24 : decode cX11_pointAt 24 = .ok (.iload_n 1, 1) := by decide +kernel
theorem dX11_pointAt_25 : decode cX11_pointAt 25 = .ok (.iaload, 1) := by decide +kernel
theorem dX11_pointAt_26 : decode cX11_pointAt 26 = .ok (.ireturn, 1) := by decide +kernel
theorem dX11_order_0 : decode cX11_order 0 = .ok (.aload_n 0, 1) := by decide +kernel
theorem dX11_order_1 : decode cX11_order 1 = .ok (.getfield 104, 3) := by decide +kernel
theorem dX11_order_4 : decode cX11_order 4 = .ok (.invokestatic 112, 3) := by decide +kernel
theorem dX11_order_7 : decode cX11_order 7 = .ok (.aload_n 0, 1) := by decide +kernel
theorem dX11_order_8 : decode cX11_order 8 = .ok (.getfield 67, 3) := by decide +kernel
theorem dX11_order_11 : decode cX11_order 11 = .ok (.invokevirtual 459, 3) := by decide +kernel
theorem dX11_order_14 : decode cX11_order 14 = .ok (.aload_n 0, 1) := by decide +kernel
theorem dX11_order_15 : decode cX11_order 15 = .ok (.getfield 67, 3) := by decide +kernel
theorem dX11_order_18 : decode cX11_order 18 = .ok (.getfield 462, 3) := by decide +kernel
theorem dX11_order_21 : decode cX11_order 21 = .ok (.ireturn, 1) := by decide +kernel
theorem dX11_out_0 : decode cX11_out 0 = .ok (.aload_n 0, 1) := by decide +kernel
theorem dX11_out_1 : decode cX11_out 1 = .ok (.iload_n 1, 1) := by decide +kernel
theorem dX11_out_2 : decode cX11_out 2 = .ok (.invokevirtual 426, 3) := by decide +kernel
theorem dX11_out_5 : decode cX11_out 5 = .ok (.ifCond .eq 16, 3) := by decide +kernel
theorem dX11_out_21 : decode cX11_out 21 = .ok (.iconst 0, 1) := by decide +kernel
theorem dX11_out_22 : decode cX11_out 22 = .ok (.invokestatic 100, 3) := by decide +kernel
theorem dX11_out_25 : decode cX11_out 25 = .ok (.aload_n 0, 1) := by decide +kernel
theorem dX11_out_26 : decode cX11_out 26 = .ok (.getfield 104, 3) := by decide +kernel
theorem dX11_out_29 : decode cX11_out 29 = .ok (.invokestatic 112, 3) := by decide +kernel
theorem dX11_out_32 : decode cX11_out 32 = .ok (.aload_n 0, 1) := by decide +kernel
theorem dX11_out_33 : decode cX11_out 33 = .ok (.getfield 67, 3) := by decide +kernel
theorem dX11_out_36 : decode cX11_out 36 = .ok (.iload_n 1, 1) := by decide +kernel
theorem dX11_out_37 : decode cX11_out 37 = .ok (.iload_n 2, 1) := by decide +kernel
theorem dX11_out_38 : decode cX11_out 38 = .ok (.invokevirtual 465, 3) := by decide +kernel
theorem dX11_out_41 : decode cX11_out 41 = .ok (.ireturn, 1) := by decide +kernel
theorem dX11_out_8 : decode cX11_out 8 = .ok (.iload_n 2, 1) := by decide +kernel
theorem dX11_out_9 : decode cX11_out 9 = .ok (.iconst 0, 1) := by decide +kernel
theorem dX11_out_10 : decode cX11_out 10 = .ok (.iconst 3, 1) := by decide +kernel
theorem dX11_out_11 : decode cX11_out 11 = .ok (.invokestatic 133, 3) := by decide +kernel
theorem dX11_out_14 : decode cX11_out 14 = .ok (.ifCond .eq 7, 3) := by decide +kernel
theorem dX11_out_17 : decode cX11_out 17 = .ok (.iconst 1, 1) := by decide +kernel
theorem dX11_out_18 : decode cX11_out 18 = .ok (.goto 4, 3) := by decide +kernel
theorem dX11_failed_0 : decode cX11_failed 0 = .ok (.iload_n 1, 1) := by decide +kernel
theorem dX11_failed_1 : decode cX11_failed 1 = .ok (.iconst 0, 1) := by decide +kernel
theorem dX11_failed_2 : decode cX11_failed 2 = .ok (.iconst 3, 1) := by decide +kernel
theorem dX11_failed_3 : decode cX11_failed 3 = .ok (.invokestatic 133, 3) := by decide +kernel
theorem dX11_failed_6 : decode cX11_failed 6 = .ok (.invokestatic 100, 3) := by decide +kernel
theorem dX11_failed_9 : decode cX11_failed 9 = .ok (.aload_n 0, 1) := by decide +kernel
theorem dX11_failed_10 : decode cX11_failed 10 = .ok (.getfield 104, 3) := by decide +kernel
theorem dX11_failed_13 : decode cX11_failed 13 = .ok (.invokestatic 112, 3) := by decide +kernel
theorem dX11_failed_16 : decode cX11_failed 16 = .ok (.aload_n 0, 1) := by decide +kernel
theorem dX11_failed_17 : decode cX11_failed 17 = .ok (.getfield 67, 3) := by decide +kernel
theorem dX11_failed_20 : decode cX11_failed 20 = .ok (.getfield 468, 3) := by decide +kernel
theorem dX11_failed_23 : decode cX11_failed 23 = .ok (.iload_n 1, 1) := by decide +kernel
theorem dX11_failed_24 : decode cX11_failed 24 = .ok (.iaload, 1) := by decide +kernel
theorem dX11_failed_25 : decode cX11_failed 25 = .ok (.ireturn, 1) := by decide +kernel
theorem dX11_isStation_0 : decode cX11_isStation 0 = .ok (.iload_n 0, 1) := by decide +kernel
theorem dX11_isStation_1 : decode cX11_isStation 1 = .ok (.iconst 0, 1) := by decide +kernel
theorem dX11_isStation_2 : decode cX11_isStation 2 = .ok (.bipush 7, 2) := by decide +kernel
theorem dX11_isStation_4 : decode cX11_isStation 4 = .ok (.invokestatic 133, 3) := by decide +kernel
theorem dX11_isStation_7 : decode cX11_isStation 7 = .ok (.ireturn, 1) := by decide +kernel
theorem dX11_address_0 : decode cX11_address 0 = .ok (.iload_n 1, 1) := by decide +kernel
theorem dX11_address_1 : decode cX11_address 1 = .ok (.invokestatic 471, 3) := by decide +kernel
theorem dX11_address_4 : decode cX11_address 4 = .ok (.ifCond .eq 18, 3) := by decide +kernel
theorem dX11_address_22 : decode cX11_address 22 = .ok (.iconst 0, 1) := by decide +kernel
theorem dX11_address_23 : decode cX11_address 23 = .ok (.invokestatic 100, 3) := by decide +kernel
theorem dX11_address_26 : decode cX11_address 26 = .ok (.aload_n 0, 1) := by decide +kernel
theorem dX11_address_27 : decode cX11_address 27 = .ok (.getfield 104, 3) := by decide +kernel
theorem dX11_address_30 : decode cX11_address 30 = .ok (.invokestatic 112, 3) := by decide +kernel
theorem dX11_address_33 : decode cX11_address 33 = .ok (.aload_n 0, 1) := by decide +kernel
theorem dX11_address_34 : decode cX11_address 34 = .ok (.getfield 76, 3) := by decide +kernel
theorem dX11_address_37 : decode cX11_address 37 = .ok (.iload_n 1, 1) := by decide +kernel
theorem dX11_address_38 : decode cX11_address 38 = .ok (.iload_n 2, 1) := by decide +kernel
theorem dX11_address_39 : decode cX11_address 39 = .ok (.invokevirtual 475, 3) := by decide +kernel
theorem dX11_address_42 : decode cX11_address 42 = .ok (.ireturn, 1) := by decide +kernel
theorem dX11_address_7 : decode cX11_address 7 = .ok (.iload_n 2, 1) := by decide +kernel
theorem dX11_address_8 : decode cX11_address 8 = .ok (.iconst 0, 1) := by decide +kernel
theorem dX11_address_9 : decode cX11_address 9 = .ok (.ldc_w 474, 3) := by decide +kernel
theorem dX11_address_12 : decode cX11_address 12 = .ok (.invokestatic 133, 3) := by decide +kernel
theorem dX11_address_15 : decode cX11_address 15 = .ok (.ifCond .eq 7, 3) := by decide +kernel
theorem dX11_address_18 : decode cX11_address 18 = .ok (.iconst 1, 1) := by decide +kernel
theorem dX11_address_19 : decode cX11_address 19 = .ok (.goto 4, 3) := by decide +kernel
theorem dX11_listen_0 : decode cX11_listen 0 = .ok (.iload_n 1, 1) := by decide +kernel
theorem dX11_listen_1 : decode cX11_listen 1 = .ok (.invokestatic 471, 3) := by decide +kernel
theorem dX11_listen_4 : decode cX11_listen 4 = .ok (.ifCond .eq 18, 3) := by decide +kernel
theorem dX11_listen_22 : decode cX11_listen 22 = .ok (.iconst 0, 1) := by decide +kernel
theorem dX11_listen_23 : decode cX11_listen 23 = .ok (.invokestatic 100, 3) := by decide +kernel
theorem dX11_listen_26 : decode cX11_listen 26 = .ok (.aload_n 0, 1) := by decide +kernel
theorem dX11_listen_27 : decode cX11_listen 27 = .ok (.getfield 104, 3) := by decide +kernel
theorem dX11_listen_30 : decode cX11_listen 30 = .ok (.invokestatic 112, 3) := by decide +kernel
theorem dX11_listen_33 : decode cX11_listen 33 = .ok (.aload_n 0, 1) := by decide +kernel
theorem dX11_listen_34 : decode cX11_listen 34 = .ok (.getfield 76, 3) := by decide +kernel
theorem dX11_listen_37 : decode cX11_listen 37 = .ok (.iload_n 1, 1) := by decide +kernel
theorem dX11_listen_38 : decode cX11_listen 38 = .ok (.iload_n 2, 1) := by decide +kernel
theorem dX11_listen_39 : decode cX11_listen 39 = .ok (.iload_n 3, 1) := by decide +kernel
theorem dX11_listen_40 : decode cX11_listen 40 = .ok (.invokevirtual 478, 3) := by decide +kernel
theorem dX11_listen_43 : decode cX11_listen 43 = .ok (.ireturn, 1) := by decide +kernel
theorem dX11_listen_7 : decode cX11_listen 7 = .ok (.iload_n 2, 1) := by decide +kernel
theorem dX11_listen_8 : decode cX11_listen 8 = .ok (.iconst 0, 1) := by decide +kernel
theorem dX11_listen_9 : decode cX11_listen 9 = .ok (.sipush 255, 3) := by decide +kernel
theorem dX11_listen_12 : decode cX11_listen 12 = .ok (.invokestatic 133, 3) := by decide +kernel
theorem dX11_listen_15 : decode cX11_listen 15 = .ok (.ifCond .eq 7, 3) := by decide +kernel
theorem dX11_listen_18 : decode cX11_listen 18 = .ok (.iconst 1, 1) := by decide +kernel
theorem dX11_listen_19 : decode cX11_listen 19 = .ok (.goto 4, 3) := by decide +kernel
theorem dX11_busy_0 : decode cX11_busy 0 = .ok (.iload_n 1, 1) := by decide +kernel
theorem dX11_busy_1 : decode cX11_busy 1 = .ok (.invokestatic 471, 3) := by decide +kernel
theorem dX11_busy_4 : decode cX11_busy 4 = .ok (.invokestatic 100, 3) := by decide +kernel
theorem dX11_busy_7 : decode cX11_busy 7 = .ok (.aload_n 0, 1) := by decide +kernel
theorem dX11_busy_8 : decode cX11_busy 8 = .ok (.getfield 104, 3) := by decide +kernel
theorem dX11_busy_11 : decode cX11_busy 11 = .ok (.invokestatic 112, 3) := by decide +kernel
theorem dX11_busy_14 : decode cX11_busy 14 = .ok (.aload_n 0, 1) := by decide +kernel
theorem dX11_busy_15 : decode cX11_busy 15 = .ok (.getfield 76, 3) := by decide +kernel
theorem dX11_busy_18 : decode cX11_busy 18 = .ok (.iload_n 1, 1) := by decide +kernel
theorem dX11_busy_19 : decode cX11_busy 19 = .ok (.iload_n 2, 1) := by decide +kernel
theorem dX11_busy_20 : decode cX11_busy 20 = .ok (.invokevirtual 481, 3) := by decide +kernel
theorem dX11_busy_23 : decode cX11_busy 23 = .ok (.ireturn, 1) := by decide +kernel
theorem dX11_send_0 : decode cX11_send 0 = .ok (.iload_n 1, 1) := by decide +kernel
theorem dX11_send_1 : decode cX11_send 1 = .ok (.invokestatic 471, 3) := by decide +kernel
theorem dX11_send_4 : decode cX11_send 4 = .ok (.ifCond .eq 38, 3) := by decide +kernel
theorem dX11_send_42 : decode cX11_send 42 = .ok (.iconst 0, 1) := by decide +kernel
theorem dX11_send_43 : decode cX11_send 43 = .ok (.invokestatic 100, 3) := by decide +kernel
theorem dX11_send_46 : decode cX11_send 46 = .ok (.iload 5, 2) := by decide +kernel
theorem dX11_send_48 : decode cX11_send 48 = .ok (.iconst 1, 1) := by decide +kernel
theorem dX11_send_49 : decode cX11_send 49 = .ok (.bipush 14, 2) := by decide +kernel
theorem dX11_send_51 : decode cX11_send 51 = .ok (.invokestatic 133, 3) := by decide +kernel
theorem dX11_send_54 : decode cX11_send 54 = .ok (.ifCond .eq 19, 3) := by decide +kernel
theorem dX11_send_73 : decode cX11_send 73 = .ok (.iconst 0, 1) := by decide +kernel
theorem dX11_send_74 : decode cX11_send 74 = .ok (.invokestatic 100, 3) := by decide +kernel
theorem dX11_send_77 : decode cX11_send 77 = .ok (.aload_n 0, 1) := by decide +kernel
theorem dX11_send_78 : decode cX11_send 78 = .ok (.getfield 104, 3) := by decide +kernel
theorem dX11_send_81 : decode cX11_send 81 = .ok (.ifCond .eq 18, 3) := by decide +kernel
theorem dX11_send_99 : decode cX11_send 99 = .ok (.iconst 0, 1) := by decide +kernel
theorem dX11_send_100 : decode cX11_send 100 = .ok (.invokestatic 112, 3) := by decide +kernel
theorem dX11_send_103 : decode cX11_send 103 = .ok (.aload_n 0, 1) := by decide +kernel
theorem dX11_send_104 : decode cX11_send 104 = .ok (.getfield 76, 3) := by decide +kernel
theorem dX11_send_107 : decode cX11_send 107 = .ok (.iload_n 1, 1) := by decide +kernel
theorem dX11_send_108 : decode cX11_send 108 = .ok (.iload_n 2, 1) := by decide +kernel
theorem dX11_send_109 : decode cX11_send 109 = .ok (.iload_n 3, 1) := by decide +kernel
theorem dX11_send_110 : decode cX11_send 110 = .ok (.iload 4, 2) := by decide +kernel
theorem dX11_send_112 : decode cX11_send 112 = .ok (.iload 5, 2) := by decide +kernel
theorem dX11_send_114 : decode cX11_send 114 = .ok (.iload 6, 2) := by decide +kernel
theorem dX11_send_116 : decode cX11_send 116 = .ok (.invokevirtual 487, 3) := by decide +kernel
theorem dX11_send_119 : decode cX11_send 119 = .ok (.ireturn, 1) := by decide +kernel
theorem dX11_send_84 : decode cX11_send 84 = .ok (.aload_n 0, 1) := by decide +kernel
theorem dX11_send_85 : decode cX11_send 85 = .ok (.getfield 76, 3) := by decide +kernel
theorem dX11_send_88 : decode cX11_send 88 = .ok (.iload_n 1, 1) := by decide +kernel
theorem dX11_send_89 : decode cX11_send 89 = .ok (.invokevirtual 484, 3) := by decide +kernel
theorem dX11_send_92 : decode cX11_send 92 = .ok (.ifCond .eq 7, 3) := by decide +kernel
theorem dX11_send_95 : decode cX11_send 95 = .ok (.iconst 1, 1) := by decide +kernel
theorem dX11_send_96 : decode cX11_send 96 = .ok (.goto 4, 3) := by decide +kernel
theorem dX11_send_57 : decode cX11_send 57 = .ok (.iload 6, 2) := by decide +kernel
theorem dX11_send_59 : decode cX11_send 59 = .ok (.iconst 0, 1) := by decide +kernel
theorem dX11_send_60 : decode cX11_send 60 = .ok (.sipush 255, 3) := by decide +kernel
theorem dX11_send_63 : decode cX11_send 63 = .ok (.invokestatic 133, 3) := by decide +kernel
theorem dX11_send_66 : decode cX11_send 66 = .ok (.ifCond .eq 7, 3) := by decide +kernel
theorem dX11_send_69 : decode cX11_send 69 = .ok (.iconst 1, 1) := by decide +kernel
theorem dX11_send_70 : decode cX11_send 70 = .ok (.goto 4, 3) := by decide +kernel
theorem dX11_send_7 : decode cX11_send 7 = .ok (.iload_n 2, 1) := by decide +kernel
theorem dX11_send_8 : decode cX11_send 8 = .ok (.iconst 0, 1) := by decide +kernel
theorem dX11_send_9 : decode cX11_send 9 = .ok (.iconst 3, 1) := by decide +kernel
theorem dX11_send_10 : decode cX11_send 10 = .ok (.invokestatic 133, 3) := by decide +kernel
theorem dX11_send_13 : decode cX11_send 13 = .ok (.ifCond .eq 29, 3) := by decide +kernel
theorem dX11_send_16 : decode cX11_send 16 = .ok (.iload_n 3, 1) := by decide +kernel
theorem dX11_send_17 : decode cX11_send 17 = .ok (.iconst 0, 1) := by decide +kernel
theorem dX11_send_18 : decode cX11_send 18 = .ok (.iload 4, 2) := by decide +kernel
theorem dX11_send_20 : decode cX11_send 20 = .ok (.ifCond .eq 9, 3) := by decide +kernel
theorem dX11_send_29 : decode cX11_send 29 = .ok (.ldc_w 474, 3) := by decide +kernel
theorem dX11_send_32 : decode cX11_send 32 = .ok (.invokestatic 133, 3) := by decide +kernel
theorem dX11_send_35 : decode cX11_send 35 = .ok (.ifCond .eq 7, 3) := by decide +kernel
theorem dX11_send_38 : decode cX11_send 38 = .ok (.iconst 1, 1) := by decide +kernel
theorem dX11_send_39 : decode cX11_send 39 = .ok (.goto 4, 3) := by decide +kernel
theorem dX11_send_23 : decode cX11_send 23 = .ok (.sipush 255, 3) := by decide +kernel
theorem dX11_send_26 : decode cX11_send 26 = .ok (.goto 6, 3) := by decide +kernel
theorem zl_X11_267 : zm_L zk_E RX11 267 yX11_isPortal (.code yX11_isPortal cX11_isPortal 2 (some .boolean)) 1 ∧ Cond.instanceMethod yX11_isPortal ∈ zk_E.2.2.1 ∧ Cond.selects yX11_isPortal.cls yX11_isPortal yX11_isPortal ∈ zk_E.2.2.1 := ⟨⟨zk_b8 43 (by decide +kernel) rfl, zk_b1 1 (by decide +kernel) rfl, zk_b8 40 (by decide +kernel) rfl, by decide +kernel, by decide +kernel, by decide +kernel⟩, zk_b8 42 (by decide +kernel) rfl, zk_s4 (q := (yX11_isPortal, 13)) 12 (by decide +kernel)⟩
theorem zl_X11_270 : zm_L zk_E RX11 270 yX0_factOf (.code yX0_factOf cX0_factOf 3 (some .int)) 2 ∧ Cond.instanceMethod yX0_factOf ∈ zk_E.2.2.1 ∧ Cond.selects yX0_factOf.cls yX0_factOf yX0_factOf ∈ zk_E.2.2.1 := ⟨⟨zk_b8 47 (by decide +kernel) rfl, zk_b1 7 (by decide +kernel) rfl, zk_b8 44 (by decide +kernel) rfl, by decide +kernel, by decide +kernel, by decide +kernel⟩, zk_b8 45 (by decide +kernel) rfl, zk_b8 46 (by decide +kernel) rfl⟩
theorem zl_X11_276 : zm_L zk_E RX11 276 yX10_addPerson (.code yX10_addPerson cX10_addPerson 4 (some .int)) 2 ∧ Cond.instanceMethod yX10_addPerson ∈ zk_E.2.2.1 ∧ Cond.selects yX10_addPerson.cls yX10_addPerson yX10_addPerson ∈ zk_E.2.2.1 := ⟨⟨zk_b8 58 (by decide +kernel) rfl, zk_b1 6 (by decide +kernel) rfl, zk_b8 55 (by decide +kernel) rfl, by decide +kernel, by decide +kernel, by decide +kernel⟩, zk_b8 56 (by decide +kernel) rfl, zk_b8 57 (by decide +kernel) rfl⟩
theorem zl_X11_273 : zm_FN zk_E RX11 273 10 7 := ⟨RX10, TX10, 11, "TowerHouse", rfl, zk_i10, by decide, zk_n2 30 (by decide +kernel) rfl⟩
theorem zl_X11_279 : zm_L zk_E RX11 279 yX11_isPerson (.code yX11_isPerson cX11_isPerson 2 (some .boolean)) 1 ∧ Cond.instanceMethod yX11_isPerson ∈ zk_E.2.2.1 ∧ Cond.selects yX11_isPerson.cls yX11_isPerson yX11_isPerson ∈ zk_E.2.2.1 := ⟨⟨zk_b8 70 (by decide +kernel) rfl, zk_b1 1 (by decide +kernel) rfl, zk_b8 67 (by decide +kernel) rfl, by decide +kernel, by decide +kernel, by decide +kernel⟩, zk_b8 69 (by decide +kernel) rfl, zk_s4 (q := (yX11_isPerson, 13)) 13 (by decide +kernel)⟩
theorem zl_X11_285 : zm_L zk_E RX11 285 yX0_addCard (.code yX0_addCard cX0_addCard 4 (some .int)) 2 ∧ Cond.instanceMethod yX0_addCard ∈ zk_E.2.2.1 ∧ Cond.selects yX0_addCard.cls yX0_addCard yX0_addCard ∈ zk_E.2.2.1 := ⟨⟨zk_b8 74 (by decide +kernel) rfl, zk_b1 7 (by decide +kernel) rfl, zk_b8 71 (by decide +kernel) rfl, by decide +kernel, by decide +kernel, by decide +kernel⟩, zk_b8 72 (by decide +kernel) rfl, zk_b8 73 (by decide +kernel) rfl⟩
theorem zl_X11_282 : zm_FN zk_E RX11 282 0 8 := ⟨RX0, TX0, 19, "TowerHouse", rfl, zk_i0, by decide, zk_n2 74 (by decide +kernel) rfl⟩
theorem zl_X11_291 : zm_L zk_E RX11 291 yX0_addRight (.code yX0_addRight cX0_addRight 7 (some .int)) 5 ∧ Cond.instanceMethod yX0_addRight ∈ zk_E.2.2.1 ∧ Cond.selects yX0_addRight.cls yX0_addRight yX0_addRight ∈ zk_E.2.2.1 := ⟨⟨zk_b8 85 (by decide +kernel) rfl, zk_b1 7 (by decide +kernel) rfl, zk_b8 82 (by decide +kernel) rfl, by decide +kernel, by decide +kernel, by decide +kernel⟩, zk_b8 83 (by decide +kernel) rfl, zk_b8 84 (by decide +kernel) rfl⟩
theorem zl_X11_288 : zm_FN zk_E RX11 288 0 10 := ⟨RX0, TX0, 19, "TowerHouse", rfl, zk_i0, by decide, zk_n2 77 (by decide +kernel) rfl⟩
theorem zl_X11_295 : zm_L zk_E RX11 295 yX0_tellEnd (.code yX0_tellEnd cX0_tellEnd 3 (some .int)) 2 ∧ Cond.instanceMethod yX0_tellEnd ∈ zk_E.2.2.1 ∧ Cond.selects yX0_tellEnd.cls yX0_tellEnd yX0_tellEnd ∈ zk_E.2.2.1 := ⟨⟨zk_b8 96 (by decide +kernel) rfl, zk_b1 7 (by decide +kernel) rfl, zk_b8 93 (by decide +kernel) rfl, by decide +kernel, by decide +kernel, by decide +kernel⟩, zk_b8 94 (by decide +kernel) rfl, zk_b8 95 (by decide +kernel) rfl⟩
theorem zl_X11_298 : zm_L zk_E RX11 298 yX11_isCard (.code yX11_isCard cX11_isCard 2 (some .boolean)) 1 ∧ Cond.instanceMethod yX11_isCard ∈ zk_E.2.2.1 ∧ Cond.selects yX11_isCard.cls yX11_isCard yX11_isCard ∈ zk_E.2.2.1 := ⟨⟨zk_b8 115 (by decide +kernel) rfl, zk_b1 1 (by decide +kernel) rfl, zk_b8 112 (by decide +kernel) rfl, by decide +kernel, by decide +kernel, by decide +kernel⟩, zk_b8 114 (by decide +kernel) rfl, zk_s5 (q := (yX11_isCard, 13)) 0 (by decide +kernel)⟩
theorem zl_X11_301 : zm_L zk_E RX11 301 yX0_tellLost (.code yX0_tellLost cX0_tellLost 3 (some .int)) 2 ∧ Cond.instanceMethod yX0_tellLost ∈ zk_E.2.2.1 ∧ Cond.selects yX0_tellLost.cls yX0_tellLost yX0_tellLost ∈ zk_E.2.2.1 := ⟨⟨zk_b8 119 (by decide +kernel) rfl, zk_b1 7 (by decide +kernel) rfl, zk_b8 116 (by decide +kernel) rfl, by decide +kernel, by decide +kernel, by decide +kernel⟩, zk_b8 117 (by decide +kernel) rfl, zk_b8 118 (by decide +kernel) rfl⟩
theorem zl_X11_304 : zm_L zk_E RX11 304 yX0_setTwo (.code yX0_setTwo cX0_setTwo 4 (some .boolean)) 2 ∧ Cond.instanceMethod yX0_setTwo ∈ zk_E.2.2.1 ∧ Cond.selects yX0_setTwo.cls yX0_setTwo yX0_setTwo ∈ zk_E.2.2.1 := ⟨⟨zk_b8 130 (by decide +kernel) rfl, zk_b1 7 (by decide +kernel) rfl, zk_b8 127 (by decide +kernel) rfl, by decide +kernel, by decide +kernel, by decide +kernel⟩, zk_b8 128 (by decide +kernel) rfl, zk_b8 129 (by decide +kernel) rfl⟩
theorem zl_X11_308 : zm_L zk_E RX11 308 yX0_setAirlock (.code yX0_setAirlock cX0_setAirlock 5 (some .boolean)) 3 ∧ Cond.instanceMethod yX0_setAirlock ∈ zk_E.2.2.1 ∧ Cond.selects yX0_setAirlock.cls yX0_setAirlock yX0_setAirlock ∈ zk_E.2.2.1 := ⟨⟨zk_b8 142 (by decide +kernel) rfl, zk_b1 7 (by decide +kernel) rfl, zk_b8 139 (by decide +kernel) rfl, by decide +kernel, by decide +kernel, by decide +kernel⟩, zk_b8 140 (by decide +kernel) rfl, zk_b8 141 (by decide +kernel) rfl⟩
theorem zl_X11_312 : zm_F zk_E RX11 312 11 12 := ⟨RX11, TX11, 13, rfl, zk_i11, by decide, zk_b3 238 (by decide +kernel) rfl⟩
theorem zl_X11_315 : zm_L zk_E RX11 315 yX0_setOpen (.code yX0_setOpen cX0_setOpen 5 (some .int)) 3 ∧ Cond.instanceMethod yX0_setOpen ∈ zk_E.2.2.1 ∧ Cond.selects yX0_setOpen.cls yX0_setOpen yX0_setOpen ∈ zk_E.2.2.1 := ⟨⟨zk_b8 162 (by decide +kernel) rfl, zk_b1 7 (by decide +kernel) rfl, zk_b8 159 (by decide +kernel) rfl, by decide +kernel, by decide +kernel, by decide +kernel⟩, zk_b8 160 (by decide +kernel) rfl, zk_b8 161 (by decide +kernel) rfl⟩
theorem zl_X11_322 : zm_L zk_E RX11 322 yX0_joinAgain (.code yX0_joinAgain cX0_joinAgain 6 (some .int)) 2 ∧ Cond.instanceMethod yX0_joinAgain ∈ zk_E.2.2.1 ∧ Cond.selects yX0_joinAgain.cls yX0_joinAgain yX0_joinAgain ∈ zk_E.2.2.1 := ⟨⟨zk_b8 181 (by decide +kernel) rfl, zk_b1 7 (by decide +kernel) rfl, zk_b8 178 (by decide +kernel) rfl, by decide +kernel, by decide +kernel, by decide +kernel⟩, zk_b8 179 (by decide +kernel) rfl, zk_b8 180 (by decide +kernel) rfl⟩
theorem zl_X11_319 : zm_L zk_E RX11 319 yX0_goOff (.code yX0_goOff cX0_goOff 2 (some .int)) 1 ∧ Cond.instanceMethod yX0_goOff ∈ zk_E.2.2.1 ∧ Cond.selects yX0_goOff.cls yX0_goOff yX0_goOff ∈ zk_E.2.2.1 := ⟨⟨zk_b8 173 (by decide +kernel) rfl, zk_b1 7 (by decide +kernel) rfl, zk_b8 170 (by decide +kernel) rfl, by decide +kernel, by decide +kernel, by decide +kernel⟩, zk_b8 171 (by decide +kernel) rfl, zk_b8 172 (by decide +kernel) rfl⟩
theorem zl_X11_617 : zm_L zk_E RX11 617 yX4_isKindDone (.code yX4_isKindDone cX4_isKindDone 3 (some .boolean)) 1 ∧ Cond.instanceMethod yX4_isKindDone ∈ zk_E.2.2.1 ∧ Cond.selects yX4_isKindDone.cls yX4_isKindDone yX4_isKindDone ∈ zk_E.2.2.1 := ⟨⟨zk_b9 11 (by decide +kernel) rfl, zk_b1 11 (by decide +kernel) rfl, zk_b9 8 (by decide +kernel) rfl, by decide +kernel, by decide +kernel, by decide +kernel⟩, zk_b9 9 (by decide +kernel) rfl, zk_b9 10 (by decide +kernel) rfl⟩
theorem zl_X11_331 : zm_L zk_E RX11 331 yX11_isReleased (.code yX11_isReleased cX11_isReleased 1 (some .boolean)) 0 ∧ Cond.instanceMethod yX11_isReleased ∈ zk_E.2.2.1 ∧ Cond.selects yX11_isReleased.cls yX11_isReleased yX11_isReleased ∈ zk_E.2.2.1 := ⟨⟨zk_b9 7 (by decide +kernel) rfl, zk_b1 1 (by decide +kernel) rfl, zk_b9 4 (by decide +kernel) rfl, by decide +kernel, by decide +kernel, by decide +kernel⟩, zk_b9 6 (by decide +kernel) rfl, zk_s5 (q := (yX11_isReleased, 13)) 11 (by decide +kernel)⟩
theorem zl_X11_334 : zm_L zk_E RX11 334 yX0_setMoment (.code yX0_setMoment cX0_setMoment 3 none) 2 ∧ Cond.instanceMethod yX0_setMoment ∈ zk_E.2.2.1 ∧ Cond.selects yX0_setMoment.cls yX0_setMoment yX0_setMoment ∈ zk_E.2.2.1 := ⟨⟨zk_b9 15 (by decide +kernel) rfl, zk_b1 7 (by decide +kernel) rfl, zk_b9 12 (by decide +kernel) rfl, by decide +kernel, by decide +kernel, by decide +kernel⟩, zk_b9 13 (by decide +kernel) rfl, zk_b9 14 (by decide +kernel) rfl⟩
theorem zl_X11_338 : zm_L zk_E RX11 338 yX0_askOne (.code yX0_askOne cX0_askOne 5 (some .int)) 3 ∧ Cond.instanceMethod yX0_askOne ∈ zk_E.2.2.1 ∧ Cond.selects yX0_askOne.cls yX0_askOne yX0_askOne ∈ zk_E.2.2.1 := ⟨⟨zk_b9 19 (by decide +kernel) rfl, zk_b1 7 (by decide +kernel) rfl, zk_b9 16 (by decide +kernel) rfl, by decide +kernel, by decide +kernel, by decide +kernel⟩, zk_b9 17 (by decide +kernel) rfl, zk_b9 18 (by decide +kernel) rfl⟩
theorem zl_X11_328 : zm_L zk_E RX11 328 yX0_hasRoomForRows (.code yX0_hasRoomForRows cX0_hasRoomForRows 3 (some .boolean)) 2 ∧ Cond.instanceMethod yX0_hasRoomForRows ∈ zk_E.2.2.1 ∧ Cond.selects yX0_hasRoomForRows.cls yX0_hasRoomForRows yX0_hasRoomForRows ∈ zk_E.2.2.1 := ⟨⟨zk_b9 3 (by decide +kernel) rfl, zk_b1 7 (by decide +kernel) rfl, zk_b9 0 (by decide +kernel) rfl, by decide +kernel, by decide +kernel, by decide +kernel⟩, zk_b9 1 (by decide +kernel) rfl, zk_b9 2 (by decide +kernel) rfl⟩
theorem zl_X11_325 : zm_L zk_E RX11 325 yX0_isRoomOf (.code yX0_isRoomOf cX0_isRoomOf 3 (some .boolean)) 2 ∧ Cond.instanceMethod yX0_isRoomOf ∈ zk_E.2.2.1 ∧ Cond.selects yX0_isRoomOf.cls yX0_isRoomOf yX0_isRoomOf ∈ zk_E.2.2.1 := ⟨⟨zk_b8 239 (by decide +kernel) rfl, zk_b1 7 (by decide +kernel) rfl, zk_b8 236 (by decide +kernel) rfl, by decide +kernel, by decide +kernel, by decide +kernel⟩, zk_b8 237 (by decide +kernel) rfl, zk_b8 238 (by decide +kernel) rfl⟩
theorem zl_X11_342 : zm_L zk_E RX11 342 yX0_askTwo (.code yX0_askTwo cX0_askTwo 6 (some .int)) 4 ∧ Cond.instanceMethod yX0_askTwo ∈ zk_E.2.2.1 ∧ Cond.selects yX0_askTwo.cls yX0_askTwo yX0_askTwo ∈ zk_E.2.2.1 := ⟨⟨zk_b9 50 (by decide +kernel) rfl, zk_b1 7 (by decide +kernel) rfl, zk_b9 47 (by decide +kernel) rfl, by decide +kernel, by decide +kernel, by decide +kernel⟩, zk_b9 48 (by decide +kernel) rfl, zk_b9 49 (by decide +kernel) rfl⟩
theorem zl_X11_345 : zm_L zk_E RX11 345 yX10_personFact (.code yX10_personFact cX10_personFact 3 (some .int)) 2 ∧ Cond.instanceMethod yX10_personFact ∈ zk_E.2.2.1 ∧ Cond.selects yX10_personFact.cls yX10_personFact yX10_personFact ∈ zk_E.2.2.1 := ⟨⟨zk_b9 61 (by decide +kernel) rfl, zk_b1 6 (by decide +kernel) rfl, zk_b9 58 (by decide +kernel) rfl, by decide +kernel, by decide +kernel, by decide +kernel⟩, zk_b9 59 (by decide +kernel) rfl, zk_b9 60 (by decide +kernel) rfl⟩
theorem zl_X11_348 : zm_L zk_E RX11 348 yX10_countInZone (.code yX10_countInZone cX10_countInZone 4 (some .int)) 1 ∧ Cond.instanceMethod yX10_countInZone ∈ zk_E.2.2.1 ∧ Cond.selects yX10_countInZone.cls yX10_countInZone yX10_countInZone ∈ zk_E.2.2.1 := ⟨⟨zk_b9 72 (by decide +kernel) rfl, zk_b1 6 (by decide +kernel) rfl, zk_b9 69 (by decide +kernel) rfl, by decide +kernel, by decide +kernel, by decide +kernel⟩, zk_b9 70 (by decide +kernel) rfl, zk_b9 71 (by decide +kernel) rfl⟩
theorem zl_X11_357 : zm_L zk_E RX11 357 yX0_againstFact (.code yX0_againstFact cX0_againstFact 3 (some .int)) 2 ∧ Cond.instanceMethod yX0_againstFact ∈ zk_E.2.2.1 ∧ Cond.selects yX0_againstFact.cls yX0_againstFact yX0_againstFact ∈ zk_E.2.2.1 := ⟨⟨zk_b9 90 (by decide +kernel) rfl, zk_b1 7 (by decide +kernel) rfl, zk_b9 87 (by decide +kernel) rfl, by decide +kernel, by decide +kernel, by decide +kernel⟩, zk_b9 88 (by decide +kernel) rfl, zk_b9 89 (by decide +kernel) rfl⟩
theorem zl_X11_354 : zm_FN zk_E RX11 354 0 15 := ⟨RX0, TX0, 19, "TowerHouse", rfl, zk_i0, by decide, zk_n2 83 (by decide +kernel) rfl⟩
theorem zl_X11_351 : zm_L zk_E RX11 351 yX0_keptAgainst (.code yX0_keptAgainst cX0_keptAgainst 1 (some .int)) 0 ∧ Cond.instanceMethod yX0_keptAgainst ∈ zk_E.2.2.1 ∧ Cond.selects yX0_keptAgainst.cls yX0_keptAgainst yX0_keptAgainst ∈ zk_E.2.2.1 := ⟨⟨zk_b9 85 (by decide +kernel) rfl, zk_b1 7 (by decide +kernel) rfl, zk_b9 82 (by decide +kernel) rfl, by decide +kernel, by decide +kernel, by decide +kernel⟩, zk_b9 83 (by decide +kernel) rfl, zk_b9 84 (by decide +kernel) rfl⟩
theorem zl_X11_361 : zm_L zk_E RX11 361 yX5_append (.code yX5_append cX5_append 2 (some .int)) 1 ∧ Cond.instanceMethod yX5_append ∈ zk_E.2.2.1 ∧ Cond.selects yX5_append.cls yX5_append yX5_append ∈ zk_E.2.2.1 := ⟨⟨zk_b9 101 (by decide +kernel) rfl, zk_b1 8 (by decide +kernel) rfl, zk_b9 98 (by decide +kernel) rfl, by decide +kernel, by decide +kernel, by decide +kernel⟩, zk_b9 99 (by decide +kernel) rfl, zk_b9 100 (by decide +kernel) rfl⟩
theorem zl_X11_360 : zm_FN zk_E RX11 360 5 1 := ⟨RX5, TX5, 13, "TowerHouse", rfl, zk_i5, by decide, zk_n2 135 (by decide +kernel) rfl⟩
theorem zl_X11_620 : zm_L zk_E RX11 620 yX11_isSentenceNumber (.code yX11_isSentenceNumber cX11_isSentenceNumber 1 (some .boolean)) 1 ∧ Cond.static yX11_isSentenceNumber ∈ zk_E.2.2.1 := ⟨⟨zk_b9 114 (by decide +kernel) rfl, zk_b1 1 (by decide +kernel) rfl, zk_b9 112 (by decide +kernel) rfl, by decide +kernel, by decide +kernel, by decide +kernel⟩, zk_b9 113 (by decide +kernel) rfl⟩
theorem zl_X11_367 : zm_L zk_E RX11 367 yX5_writeSentence (.code yX5_writeSentence cX5_writeSentence 7 (some .int)) 5 ∧ Cond.instanceMethod yX5_writeSentence ∈ zk_E.2.2.1 ∧ Cond.selects yX5_writeSentence.cls yX5_writeSentence yX5_writeSentence ∈ zk_E.2.2.1 := ⟨⟨zk_b9 118 (by decide +kernel) rfl, zk_b1 8 (by decide +kernel) rfl, zk_b9 115 (by decide +kernel) rfl, by decide +kernel, by decide +kernel, by decide +kernel⟩, zk_b9 116 (by decide +kernel) rfl, zk_b9 117 (by decide +kernel) rfl⟩
theorem zl_X11_363 : zm_L zk_E RX11 363 yX11_areSentenceNumbers (.code yX11_areSentenceNumbers cX11_areSentenceNumbers 6 (some .boolean)) 5 ∧ Cond.static yX11_areSentenceNumbers ∈ zk_E.2.2.1 := ⟨⟨zk_b9 111 (by decide +kernel) rfl, zk_b1 1 (by decide +kernel) rfl, zk_b9 109 (by decide +kernel) rfl, by decide +kernel, by decide +kernel, by decide +kernel⟩, zk_b9 110 (by decide +kernel) rfl⟩
theorem zl_X11_370 : zm_L zk_E RX11 370 yX5_readSentences (.code yX5_readSentences cX5_readSentences 3 (some .boolean)) 1 ∧ Cond.instanceMethod yX5_readSentences ∈ zk_E.2.2.1 ∧ Cond.selects yX5_readSentences.cls yX5_readSentences yX5_readSentences ∈ zk_E.2.2.1 := ⟨⟨zk_b9 160 (by decide +kernel) rfl, zk_b1 8 (by decide +kernel) rfl, zk_b9 157 (by decide +kernel) rfl, by decide +kernel, by decide +kernel, by decide +kernel⟩, zk_b9 158 (by decide +kernel) rfl, zk_b9 159 (by decide +kernel) rfl⟩
theorem zl_X11_376 : zm_L zk_E RX11 376 yX4_takeTables (.code yX4_takeTables cX4_takeTables 3 none) 1 ∧ Cond.instanceMethod yX4_takeTables ∈ zk_E.2.2.1 ∧ Cond.selects yX4_takeTables.cls yX4_takeTables yX4_takeTables ∈ zk_E.2.2.1 := ⟨⟨zk_b9 231 (by decide +kernel) rfl, zk_b1 11 (by decide +kernel) rfl, zk_b9 228 (by decide +kernel) rfl, by decide +kernel, by decide +kernel, by decide +kernel⟩, zk_b9 229 (by decide +kernel) rfl, zk_b9 230 (by decide +kernel) rfl⟩
theorem zl_X11_380 : zm_FN zk_E RX11 380 4 9 := ⟨RX4, TX4, 19, "TowerHouse", rfl, zk_i4, by decide, zk_n3 116 (by decide +kernel) rfl⟩
theorem zl_X11_373 : zm_FN zk_E RX11 373 5 4 := ⟨RX5, TX5, 13, "TowerHouse", rfl, zk_i5, by decide, zk_n2 139 (by decide +kernel) rfl⟩
theorem zl_X11_383 : zm_FN zk_E RX11 383 4 3 := ⟨RX4, TX4, 19, "TowerHouse", rfl, zk_i4, by decide, zk_n3 107 (by decide +kernel) rfl⟩
theorem zl_X11_386 : zm_FN zk_E RX11 386 4 4 := ⟨RX4, TX4, 19, "TowerHouse", rfl, zk_i4, by decide, zk_n3 109 (by decide +kernel) rfl⟩
theorem zl_X11_390 : zm_FN zk_E RX11 390 4 5 := ⟨RX4, TX4, 19, "TowerHouse", rfl, zk_i4, by decide, zk_n3 111 (by decide +kernel) rfl⟩
theorem zl_X11_396 : zm_L zk_E RX11 396 yX4_confirmActs (.code yX4_confirmActs cX4_confirmActs 3 (some .int)) 0 ∧ Cond.instanceMethod yX4_confirmActs ∈ zk_E.2.2.1 ∧ Cond.selects yX4_confirmActs.cls yX4_confirmActs yX4_confirmActs ∈ zk_E.2.2.1 := ⟨⟨zk_b10 32 (by decide +kernel) rfl, zk_b1 11 (by decide +kernel) rfl, zk_b10 29 (by decide +kernel) rfl, by decide +kernel, by decide +kernel, by decide +kernel⟩, zk_b10 30 (by decide +kernel) rfl, zk_b10 31 (by decide +kernel) rfl⟩
theorem zl_X11_393 : zm_L zk_E RX11 393 yX4_lookAtActs (.code yX4_lookAtActs cX4_lookAtActs 4 (some .int)) 1 ∧ Cond.instanceMethod yX4_lookAtActs ∈ zk_E.2.2.1 ∧ Cond.selects yX4_lookAtActs.cls yX4_lookAtActs yX4_lookAtActs ∈ zk_E.2.2.1 := ⟨⟨zk_b10 28 (by decide +kernel) rfl, zk_b1 11 (by decide +kernel) rfl, zk_b10 25 (by decide +kernel) rfl, by decide +kernel, by decide +kernel, by decide +kernel⟩, zk_b10 26 (by decide +kernel) rfl, zk_b10 27 (by decide +kernel) rfl⟩
theorem zl_X11_399 : zm_L zk_E RX11 399 yX4_resetLatched (.code yX4_resetLatched cX4_resetLatched 5 (some .int)) 1 ∧ Cond.instanceMethod yX4_resetLatched ∈ zk_E.2.2.1 ∧ Cond.selects yX4_resetLatched.cls yX4_resetLatched yX4_resetLatched ∈ zk_E.2.2.1 := ⟨⟨zk_b10 43 (by decide +kernel) rfl, zk_b1 11 (by decide +kernel) rfl, zk_b10 40 (by decide +kernel) rfl, by decide +kernel, by decide +kernel, by decide +kernel⟩, zk_b10 41 (by decide +kernel) rfl, zk_b10 42 (by decide +kernel) rfl⟩
theorem zl_X11_402 : zm_L zk_E RX11 402 yX4_isAct (.code yX4_isAct cX4_isAct 2 (some .boolean)) 1 ∧ Cond.instanceMethod yX4_isAct ∈ zk_E.2.2.1 ∧ Cond.selects yX4_isAct.cls yX4_isAct yX4_isAct ∈ zk_E.2.2.1 := ⟨⟨zk_b10 103 (by decide +kernel) rfl, zk_b1 11 (by decide +kernel) rfl, zk_b10 100 (by decide +kernel) rfl, by decide +kernel, by decide +kernel, by decide +kernel⟩, zk_b10 101 (by decide +kernel) rfl, zk_b10 102 (by decide +kernel) rfl⟩
theorem zl_X11_405 : zm_L zk_E RX11 405 yX4_actFact (.code yX4_actFact cX4_actFact 3 (some .int)) 2 ∧ Cond.instanceMethod yX4_actFact ∈ zk_E.2.2.1 ∧ Cond.selects yX4_actFact.cls yX4_actFact yX4_actFact ∈ zk_E.2.2.1 := ⟨⟨zk_b10 107 (by decide +kernel) rfl, zk_b1 11 (by decide +kernel) rfl, zk_b10 104 (by decide +kernel) rfl, by decide +kernel, by decide +kernel, by decide +kernel⟩, zk_b10 105 (by decide +kernel) rfl, zk_b10 106 (by decide +kernel) rfl⟩
theorem zl_X11_408 : zm_L zk_E RX11 408 yX4_isZone (.code yX4_isZone cX4_isZone 2 (some .boolean)) 1 ∧ Cond.instanceMethod yX4_isZone ∈ zk_E.2.2.1 ∧ Cond.selects yX4_isZone.cls yX4_isZone yX4_isZone ∈ zk_E.2.2.1 := ⟨⟨zk_b10 63 (by decide +kernel) rfl, zk_b1 11 (by decide +kernel) rfl, zk_b10 115 (by decide +kernel) rfl, by decide +kernel, by decide +kernel, by decide +kernel⟩, zk_b10 61 (by decide +kernel) rfl, zk_b10 62 (by decide +kernel) rfl⟩
theorem zl_X11_411 : zm_L zk_E RX11 411 yX4_zoneFact (.code yX4_zoneFact cX4_zoneFact 5 (some .int)) 3 ∧ Cond.instanceMethod yX4_zoneFact ∈ zk_E.2.2.1 ∧ Cond.selects yX4_zoneFact.cls yX4_zoneFact yX4_zoneFact ∈ zk_E.2.2.1 := ⟨⟨zk_b10 119 (by decide +kernel) rfl, zk_b1 11 (by decide +kernel) rfl, zk_b10 116 (by decide +kernel) rfl, by decide +kernel, by decide +kernel, by decide +kernel⟩, zk_b10 117 (by decide +kernel) rfl, zk_b10 118 (by decide +kernel) rfl⟩
theorem zl_X11_414 : zm_L zk_E RX11 414 yX4_keptEvents (.code yX4_keptEvents cX4_keptEvents 1 (some .int)) 0 ∧ Cond.instanceMethod yX4_keptEvents ∈ zk_E.2.2.1 ∧ Cond.selects yX4_keptEvents.cls yX4_keptEvents yX4_keptEvents ∈ zk_E.2.2.1 := ⟨⟨zk_b10 130 (by decide +kernel) rfl, zk_b1 11 (by decide +kernel) rfl, zk_b10 127 (by decide +kernel) rfl, by decide +kernel, by decide +kernel, by decide +kernel⟩, zk_b10 128 (by decide +kernel) rfl, zk_b10 129 (by decide +kernel) rfl⟩
theorem zl_X11_417 : zm_L zk_E RX11 417 yX4_eventFact (.code yX4_eventFact cX4_eventFact 3 (some .int)) 2 ∧ Cond.instanceMethod yX4_eventFact ∈ zk_E.2.2.1 ∧ Cond.selects yX4_eventFact.cls yX4_eventFact yX4_eventFact ∈ zk_E.2.2.1 := ⟨⟨zk_b10 135 (by decide +kernel) rfl, zk_b1 11 (by decide +kernel) rfl, zk_b10 132 (by decide +kernel) rfl, by decide +kernel, by decide +kernel, by decide +kernel⟩, zk_b10 133 (by decide +kernel) rfl, zk_b10 134 (by decide +kernel) rfl⟩
theorem zl_X11_423 : zm_L zk_E RX11 423 yX9_addBlock (.code yX9_addBlock cX9_addBlock 2 (some .int)) 1 ∧ Cond.instanceMethod yX9_addBlock ∈ zk_E.2.2.1 ∧ Cond.selects yX9_addBlock.cls yX9_addBlock yX9_addBlock ∈ zk_E.2.2.1 := ⟨⟨zk_b10 146 (by decide +kernel) rfl, zk_b1 9 (by decide +kernel) rfl, zk_b10 143 (by decide +kernel) rfl, by decide +kernel, by decide +kernel, by decide +kernel⟩, zk_b10 144 (by decide +kernel) rfl, zk_b10 145 (by decide +kernel) rfl⟩
theorem zl_X11_420 : zm_FN zk_E RX11 420 9 0 := ⟨RX9, TX9, 20, "TowerHouse", rfl, zk_i9, by decide, zk_n2 187 (by decide +kernel) rfl⟩
theorem zl_X11_426 : zm_L zk_E RX11 426 yX11_isBlock (.code yX11_isBlock cX11_isBlock 2 (some .boolean)) 1 ∧ Cond.instanceMethod yX11_isBlock ∈ zk_E.2.2.1 ∧ Cond.selects yX11_isBlock.cls yX11_isBlock yX11_isBlock ∈ zk_E.2.2.1 := ⟨⟨zk_b10 158 (by decide +kernel) rfl, zk_b1 1 (by decide +kernel) rfl, zk_b10 155 (by decide +kernel) rfl, by decide +kernel, by decide +kernel, by decide +kernel⟩, zk_b10 157 (by decide +kernel) rfl, zk_s7 (q := (yX11_isBlock, 13)) 12 (by decide +kernel)⟩
theorem zl_X11_429 : zm_L zk_E RX11 429 yX9_setInput (.code yX9_setInput cX9_setInput 5 (some .int)) 3 ∧ Cond.instanceMethod yX9_setInput ∈ zk_E.2.2.1 ∧ Cond.selects yX9_setInput.cls yX9_setInput yX9_setInput ∈ zk_E.2.2.1 := ⟨⟨zk_b10 162 (by decide +kernel) rfl, zk_b1 9 (by decide +kernel) rfl, zk_b10 159 (by decide +kernel) rfl, by decide +kernel, by decide +kernel, by decide +kernel⟩, zk_b10 160 (by decide +kernel) rfl, zk_b10 161 (by decide +kernel) rfl⟩
theorem zl_X11_432 : zm_FN zk_E RX11 432 9 2 := ⟨RX9, TX9, 20, "TowerHouse", rfl, zk_i9, by decide, zk_n2 191 (by decide +kernel) rfl⟩
theorem zl_X11_435 : zm_FN zk_E RX11 435 9 3 := ⟨RX9, TX9, 20, "TowerHouse", rfl, zk_i9, by decide, zk_n2 193 (by decide +kernel) rfl⟩
theorem zl_X11_441 : zm_FN zk_E RX11 441 9 8 := ⟨RX9, TX9, 20, "TowerHouse", rfl, zk_i9, by decide, zk_n2 201 (by decide +kernel) rfl⟩
theorem zl_X11_438 : zm_FN zk_E RX11 438 9 1 := ⟨RX9, TX9, 20, "TowerHouse", rfl, zk_i9, by decide, zk_n2 189 (by decide +kernel) rfl⟩
theorem zl_X11_445 : zm_FN zk_E RX11 445 9 4 := ⟨RX9, TX9, 20, "TowerHouse", rfl, zk_i9, by decide, zk_n2 195 (by decide +kernel) rfl⟩
theorem zl_X11_448 : zm_FN zk_E RX11 448 9 9 := ⟨RX9, TX9, 20, "TowerHouse", rfl, zk_i9, by decide, zk_n2 203 (by decide +kernel) rfl⟩
theorem zl_X11_451 : zm_FN zk_E RX11 451 9 10 := ⟨RX9, TX9, 20, "TowerHouse", rfl, zk_i9, by decide, zk_n2 205 (by decide +kernel) rfl⟩
theorem zl_X11_454 : zm_FN zk_E RX11 454 9 11 := ⟨RX9, TX9, 20, "TowerHouse", rfl, zk_i9, by decide, zk_n2 207 (by decide +kernel) rfl⟩
theorem zl_X11_457 : zm_FN zk_E RX11 457 9 12 := ⟨RX9, TX9, 20, "TowerHouse", rfl, zk_i9, by decide, zk_n2 211 (by decide +kernel) rfl⟩
theorem zl_X11_459 : zm_L zk_E RX11 459 yX9_sortBlocks (.code yX9_sortBlocks cX9_sortBlocks 3 none) 0 ∧ Cond.instanceMethod yX9_sortBlocks ∈ zk_E.2.2.1 ∧ Cond.selects yX9_sortBlocks.cls yX9_sortBlocks yX9_sortBlocks ∈ zk_E.2.2.1 := ⟨⟨zk_b10 222 (by decide +kernel) rfl, zk_b1 9 (by decide +kernel) rfl, zk_b10 219 (by decide +kernel) rfl, by decide +kernel, by decide +kernel, by decide +kernel⟩, zk_b10 220 (by decide +kernel) rfl, zk_b10 221 (by decide +kernel) rfl⟩
theorem zl_X11_462 : zm_FN zk_E RX11 462 9 14 := ⟨RX9, TX9, 20, "TowerHouse", rfl, zk_i9, by decide, zk_n2 214 (by decide +kernel) rfl⟩
theorem zl_X11_465 : zm_L zk_E RX11 465 yX9_blockFact (.code yX9_blockFact cX9_blockFact 3 (some .int)) 2 ∧ Cond.instanceMethod yX9_blockFact ∈ zk_E.2.2.1 ∧ Cond.selects yX9_blockFact.cls yX9_blockFact yX9_blockFact ∈ zk_E.2.2.1 := ⟨⟨zk_b11 7 (by decide +kernel) rfl, zk_b1 9 (by decide +kernel) rfl, zk_b11 4 (by decide +kernel) rfl, by decide +kernel, by decide +kernel, by decide +kernel⟩, zk_b11 5 (by decide +kernel) rfl, zk_b11 6 (by decide +kernel) rfl⟩
theorem zl_X11_468 : zm_FN zk_E RX11 468 9 17 := ⟨RX9, TX9, 20, "TowerHouse", rfl, zk_i9, by decide, zk_n2 218 (by decide +kernel) rfl⟩
theorem zl_X11_471 : zm_L zk_E RX11 471 yX11_isStation (.code yX11_isStation cX11_isStation 1 (some .boolean)) 1 ∧ Cond.static yX11_isStation ∈ zk_E.2.2.1 := ⟨⟨zk_b11 25 (by decide +kernel) rfl, zk_b1 1 (by decide +kernel) rfl, zk_b11 23 (by decide +kernel) rfl, by decide +kernel, by decide +kernel, by decide +kernel⟩, zk_b11 24 (by decide +kernel) rfl⟩
theorem zl_X11_475 : zm_L zk_E RX11 475 yX1_setAddress (.code yX1_setAddress cX1_setAddress 4 (some .int)) 2 ∧ Cond.instanceMethod yX1_setAddress ∈ zk_E.2.2.1 ∧ Cond.selects yX1_setAddress.cls yX1_setAddress yX1_setAddress ∈ zk_E.2.2.1 := ⟨⟨zk_b11 30 (by decide +kernel) rfl, zk_b1 10 (by decide +kernel) rfl, zk_b11 27 (by decide +kernel) rfl, by decide +kernel, by decide +kernel, by decide +kernel⟩, zk_b11 28 (by decide +kernel) rfl, zk_b11 29 (by decide +kernel) rfl⟩
theorem zl_X11_474 : Cond.constant RX11 474 (65535 : Int32) ∈ zk_E.2.2.1 := zk_b11 26 (by decide +kernel) rfl
theorem zl_X11_478 : zm_L zk_E RX11 478 yX1_setListening (.code yX1_setListening cX1_setListening 5 (some .boolean)) 3 ∧ Cond.instanceMethod yX1_setListening ∈ zk_E.2.2.1 ∧ Cond.selects yX1_setListening.cls yX1_setListening yX1_setListening ∈ zk_E.2.2.1 := ⟨⟨zk_b11 41 (by decide +kernel) rfl, zk_b1 10 (by decide +kernel) rfl, zk_b11 38 (by decide +kernel) rfl, by decide +kernel, by decide +kernel, by decide +kernel⟩, zk_b11 39 (by decide +kernel) rfl, zk_b11 40 (by decide +kernel) rfl⟩
theorem zl_X11_481 : zm_L zk_E RX11 481 yX1_setBusy (.code yX1_setBusy cX1_setBusy 4 (some .boolean)) 2 ∧ Cond.instanceMethod yX1_setBusy ∈ zk_E.2.2.1 ∧ Cond.selects yX1_setBusy.cls yX1_setBusy yX1_setBusy ∈ zk_E.2.2.1 := ⟨⟨zk_b11 52 (by decide +kernel) rfl, zk_b1 10 (by decide +kernel) rfl, zk_b11 49 (by decide +kernel) rfl, by decide +kernel, by decide +kernel, by decide +kernel⟩, zk_b11 50 (by decide +kernel) rfl, zk_b11 51 (by decide +kernel) rfl⟩
theorem zl_X11_487 : zm_L zk_E RX11 487 yX1_enqueue (.code yX1_enqueue cX1_enqueue 10 (some .int)) 6 ∧ Cond.instanceMethod yX1_enqueue ∈ zk_E.2.2.1 ∧ Cond.selects yX1_enqueue.cls yX1_enqueue yX1_enqueue ∈ zk_E.2.2.1 := ⟨⟨zk_b10 91 (by decide +kernel) rfl, zk_b1 10 (by decide +kernel) rfl, zk_b11 61 (by decide +kernel) rfl, by decide +kernel, by decide +kernel, by decide +kernel⟩, zk_b10 89 (by decide +kernel) rfl, zk_b10 90 (by decide +kernel) rfl⟩
theorem zl_X11_484 : zm_L zk_E RX11 484 yX1_hasRoomInQueue (.code yX1_hasRoomInQueue cX1_hasRoomInQueue 2 (some .boolean)) 1 ∧ Cond.instanceMethod yX1_hasRoomInQueue ∈ zk_E.2.2.1 ∧ Cond.selects yX1_hasRoomInQueue.cls yX1_hasRoomInQueue yX1_hasRoomInQueue ∈ zk_E.2.2.1 := ⟨⟨zk_b10 87 (by decide +kernel) rfl, zk_b1 10 (by decide +kernel) rfl, zk_b11 60 (by decide +kernel) rfl, by decide +kernel, by decide +kernel, by decide +kernel⟩, zk_b10 85 (by decide +kernel) rfl, zk_b10 86 (by decide +kernel) rfl⟩
set_option maxHeartbeats 4000000 in
set_option maxRecDepth 100000 in
theorem zt_X11_isPortal {l : Launch} {V : zm_V} {N : Nat} {S : zm_S} {out : (Int32 × zm_S)} {d : Nat} {a0 : Nat} {i1 : Int32} (hd : 2 ≤ d) (h : zf_X11_isPortal N a0 i1 S = some out) : zm_Met l zk_E V yX11_isPortal (.code yX11_isPortal cX11_isPortal 2 (some .boolean)) d [.ref a0, .int i1] S 0 0 (zo_i out) zo_x := by
  refine zm_of (by decide +kernel) (Nat.le_of_ble_eq_true rfl) ?_
  intro p e R s m args below meth c hRR hX hr hxt
  have hR : R.frames = d ∧ R.locals = 64 * d := by rw [hRR]; exact ⟨rfl, rfl⟩
  have hX : zm_X p R s m args meth c RX11 "isPortal" cX11_isPortal 2 zk_E V 0 0 := hX
  unfold zf_X11_isPortal at h
  refine zw_sub (lv' := [(0, .ref a0), (1, .int i1)]) (List.forall_mem_cons.mpr ⟨rfl, (List.forall_mem_cons.mpr ⟨rfl, zs_nil⟩)⟩) ?_
  refine zw_iload_n hX dX11_isPortal_0 rfl ?_
  refine zw_iconst (v := (0 : Int32)) hX dX11_isPortal_1 (by decide) ?_
  refine zw_aload_n hX dX11_isPortal_2 rfl ?_
  obtain ⟨b1, g, h⟩ := zb_some h
  refine zw_getr hX zl_X11_53 dX11_isPortal_3 g ?_
  obtain ⟨v2, g, h⟩ := zb_some h
  refine zw_getNi hX zl_X11_264 dX11_isPortal_6 g ?_
  refine zw_iconst (v := (1 : Int32)) hX dX11_isPortal_9 (by decide) ?_
  refine zw_isub hX dX11_isPortal_10 ?_
  obtain ⟨r4, g, h⟩ := zb_some h
  refine zc_Si (as := [.int i1, .int (0 : Int32), .int (v2 - (1 : Int32))]) hX (zt_X11_isWithin (d := d - 1) (by omega) g) zl_X11_133 dX11_isPortal_11 ⟨rfl, rfl, Nat.le_of_ble_eq_true rfl⟩ ⟨by omega, by omega⟩ ?_
  by_cases cz : r4.1 = 0 ∨ r4.1 = 1
  · rw [if_pos cz] at h
    obtain rfl := Option.some.inj h
    exact zw_iret hX hr dX11_isPortal_14 (zn_z cz) ⟨rfl, rfl⟩
  · rw [if_neg cz] at h
    cases h
set_option maxHeartbeats 4000000 in
set_option maxRecDepth 100000 in
theorem zt_X11_portal_J22 {p : Program} {l : Launch} {e : Env} {R : Room} {s : State} {m : MethodId} {args : Array Value} {below : List Frame} {meth : Method} {c : Code} {V : zm_V} {mc ms d rc rs : Nat} (hlt : l.stackTraces = false) (hxt : ∀ x ∈ c.exceptionTable.toList, False) (hX : zm_X p R s m args meth c RX11 "portal" cX11_portal 3 zk_E V mc ms) (hr : meth.sig.returnType = (some .int)) (hR : R.frames = d ∧ R.locals = 64 * d) (hd : 7 ≤ d) {N : Nat} {a0 : Nat} {i1 : Int32} {i2 : Int32} {t0 : Int32} {out : ((Int32 ⊕ String) × zm_S)} (hc : 2 ≤ rc ∧ 12 ≤ rs) {S : zm_S} (h : zf_X11_portal_J22 N a0 i1 i2 t0 S = some out) : zw p l e R s m args below meth c (vx_MQ below (zm_Qc zk_E V (zq_i out)) (zm_XC zk_E V (zq_x out)) args s mc ms (fun q => V.2.2.2.1 ≤ q)) 3 zk_E V mc ms 22 [(0, .ref a0), (1, .int i1), (2, .int i2)] [.int t0] S rc rs := by
  unfold zf_X11_portal_J22 at h
  obtain ⟨r, g, h⟩ := zb_some h
  refine zc_S (as := [.int t0]) hX (zt_X11_needArgument hlt (d := d - 1) (by omega) g) zl_X11_100 dX11_portal_22 ⟨rfl, rfl, Nat.le_of_ble_eq_true rfl⟩ ⟨by omega, by omega⟩ ⟨by omega, by omega⟩ ?_ ?_
  · rintro _ S4 ⟨⟨u3, rfl⟩, rfl⟩
    try dsimp only at h
    refine zw_aload_n hX dX11_portal_25 rfl ?_
    obtain ⟨v5, g, h⟩ := zb_some h
    refine zw_geti hX zl_X11_104 dX11_portal_26 g ?_
    obtain ⟨r, g, h⟩ := zb_some h
    refine zc_S (as := [.int v5]) hX (zt_X11_needState hlt (d := d - 1) (by omega) g) zl_X11_112 dX11_portal_29 ⟨rfl, rfl, Nat.le_of_ble_eq_true rfl⟩ ⟨by omega, by omega⟩ ⟨by omega, by omega⟩ ?_ ?_
    · rintro _ S7 ⟨⟨u6, rfl⟩, rfl⟩
      try dsimp only at h
      refine zw_aload_n hX dX11_portal_32 rfl ?_
      obtain ⟨b8, g, h⟩ := zb_some h
      refine zw_getr hX zl_X11_53 dX11_portal_33 g ?_
      refine zw_iload_n hX dX11_portal_36 rfl ?_
      refine zw_iload_n hX dX11_portal_37 rfl ?_
      obtain ⟨_, gi, h⟩ := zb_some h
      obtain ⟨r10, g, h⟩ := zb_some h
      refine zc_Vi (as := [.int i1, .int i2]) hX gi (zt_X0_factOf (d := d - 1) (by omega) g) zl_X11_270 rfl dX11_portal_38 ⟨rfl, rfl, Nat.le_of_ble_eq_true rfl⟩ ⟨by omega, by omega⟩ ?_
      obtain rfl := Option.some.inj h
      exact zw_iret hX hr dX11_portal_41 rfl ⟨_, rfl, rfl⟩
    · rintro X S9 rfl
      obtain rfl := Option.some.inj h
      exact zx_out hX hxt rfl
  · rintro X S9 rfl
    obtain rfl := Option.some.inj h
    exact zx_out hX hxt rfl
set_option maxHeartbeats 4000000 in
set_option maxRecDepth 100000 in
theorem zt_X11_portal_J21 {p : Program} {l : Launch} {e : Env} {R : Room} {s : State} {m : MethodId} {args : Array Value} {below : List Frame} {meth : Method} {c : Code} {V : zm_V} {mc ms d rc rs : Nat} (hlt : l.stackTraces = false) (hxt : ∀ x ∈ c.exceptionTable.toList, False) (hX : zm_X p R s m args meth c RX11 "portal" cX11_portal 3 zk_E V mc ms) (hr : meth.sig.returnType = (some .int)) (hR : R.frames = d ∧ R.locals = 64 * d) (hd : 7 ≤ d) {N : Nat} {a0 : Nat} {i1 : Int32} {i2 : Int32} {out : ((Int32 ⊕ String) × zm_S)} (hc : 2 ≤ rc ∧ 12 ≤ rs) {S : zm_S} (h : zf_X11_portal_J21 N a0 i1 i2 S = some out) : zw p l e R s m args below meth c (vx_MQ below (zm_Qc zk_E V (zq_i out)) (zm_XC zk_E V (zq_x out)) args s mc ms (fun q => V.2.2.2.1 ≤ q)) 3 zk_E V mc ms 21 [(0, .ref a0), (1, .int i1), (2, .int i2)] [] S rc rs := by
  unfold zf_X11_portal_J21 at h
  refine zw_iconst (v := (0 : Int32)) hX dX11_portal_21 (by decide) ?_
  refine zw_sub (lv' := [(0, .ref a0), (1, .int i1), (2, .int i2)]) (List.forall_mem_cons.mpr ⟨rfl, (List.forall_mem_cons.mpr ⟨rfl, (List.forall_mem_cons.mpr ⟨rfl, zs_nil⟩)⟩)⟩) ?_
  exact zt_X11_portal_J22 hlt hxt hX hr hR hd ⟨by omega, by omega⟩ h
set_option maxHeartbeats 4000000 in
set_option maxRecDepth 100000 in
theorem zt_X11_portal {l : Launch} {V : zm_V} (hlt : l.stackTraces = false) {N : Nat} {S : zm_S} {out : ((Int32 ⊕ String) × zm_S)} {d : Nat} {a0 : Nat} {i1 : Int32} {i2 : Int32} (hd : 7 ≤ d) (h : zf_X11_portal N a0 i1 i2 S = some out) : zm_Met l zk_E V yX11_portal (.code yX11_portal cX11_portal 3 (some .int)) d [.ref a0, .int i1, .int i2] S 2 12 (zq_i out) (zq_x out) := by
  refine zm_of (by decide +kernel) (Nat.le_of_ble_eq_true rfl) ?_
  intro p e R s m args below meth c hRR hX hr hxt
  have hR : R.frames = d ∧ R.locals = 64 * d := by rw [hRR]; exact ⟨rfl, rfl⟩
  have hX : zm_X p R s m args meth c RX11 "portal" cX11_portal 3 zk_E V 2 12 := hX
  unfold zf_X11_portal at h
  refine zw_sub (lv' := [(0, .ref a0), (1, .int i1), (2, .int i2)]) (List.forall_mem_cons.mpr ⟨rfl, (List.forall_mem_cons.mpr ⟨rfl, (List.forall_mem_cons.mpr ⟨rfl, zs_nil⟩)⟩)⟩) ?_
  refine zw_aload_n hX dX11_portal_0 rfl ?_
  refine zw_iload_n hX dX11_portal_1 rfl ?_
  obtain ⟨_, gi, h⟩ := zb_some h
  obtain ⟨r2, g, h⟩ := zb_some h
  refine zc_Vi (as := [.int i1]) hX gi (zt_X11_isPortal (d := d - 1) (by omega) g) zl_X11_267 rfl dX11_portal_2 ⟨rfl, rfl, Nat.le_of_ble_eq_true rfl⟩ ⟨by omega, by omega⟩ ?_
  refine zw_if_eq (tgt := 21) hX dX11_portal_5 (by decide) (fun c5 => ?_) (fun c5 => ?_)
  · rw [if_pos c5] at h
    refine zw_sub (lv' := [(0, .ref a0), (1, .int i1), (2, .int i2)]) (List.forall_mem_cons.mpr ⟨rfl, (List.forall_mem_cons.mpr ⟨rfl, (List.forall_mem_cons.mpr ⟨rfl, zs_nil⟩)⟩)⟩) ?_
    exact zt_X11_portal_J21 hlt hxt hX hr hR hd ⟨by omega, by omega⟩ h
  · rw [if_neg c5] at h
    refine zw_iload_n hX dX11_portal_8 rfl ?_
    refine zw_iconst (v := (0 : Int32)) hX dX11_portal_9 (by decide) ?_
    refine zw_iconst (v := (5 : Int32)) hX dX11_portal_10 (by decide) ?_
    obtain ⟨r12, g, h⟩ := zb_some h
    refine zc_Si (as := [.int i2, .int (0 : Int32), .int (5 : Int32)]) hX (zt_X11_isWithin (d := d - 1) (by omega) g) zl_X11_133 dX11_portal_11 ⟨rfl, rfl, Nat.le_of_ble_eq_true rfl⟩ ⟨by omega, by omega⟩ ?_
    refine zw_if_eq (tgt := 21) hX dX11_portal_14 (by decide) (fun c14 => ?_) (fun c14 => ?_)
    · rw [if_pos c14] at h
      refine zw_sub (lv' := [(0, .ref a0), (1, .int i1), (2, .int i2)]) (List.forall_mem_cons.mpr ⟨rfl, (List.forall_mem_cons.mpr ⟨rfl, (List.forall_mem_cons.mpr ⟨rfl, zs_nil⟩)⟩)⟩) ?_
      exact zt_X11_portal_J21 hlt hxt hX hr hR hd ⟨by omega, by omega⟩ h
    · rw [if_neg c14] at h
      refine zw_iconst (v := (1 : Int32)) hX dX11_portal_17 (by decide) ?_
      refine zw_goto (tgt := 22) hX dX11_portal_18 (by decide) ?_
      refine zw_sub (lv' := [(0, .ref a0), (1, .int i1), (2, .int i2)]) (List.forall_mem_cons.mpr ⟨rfl, (List.forall_mem_cons.mpr ⟨rfl, (List.forall_mem_cons.mpr ⟨rfl, zs_nil⟩)⟩)⟩) ?_
      exact zt_X11_portal_J22 hlt hxt hX hr hR hd ⟨by omega, by omega⟩ h
set_option maxHeartbeats 4000000 in
set_option maxRecDepth 100000 in
theorem zt_X11_person_J51 {p : Program} {l : Launch} {e : Env} {R : Room} {s : State} {m : MethodId} {args : Array Value} {below : List Frame} {meth : Method} {c : Code} {V : zm_V} {mc ms d rc rs : Nat} (hlt : l.stackTraces = false) (hxt : ∀ x ∈ c.exceptionTable.toList, False) (hX : zm_X p R s m args meth c RX11 "person" cX11_person 3 zk_E V mc ms) (hr : meth.sig.returnType = (some .int)) (hR : R.frames = d ∧ R.locals = 64 * d) (hd : 7 ≤ d) {N : Nat} {a0 : Nat} {i1 : Int32} {i2 : Int32} {t0 : Int32} {out : ((Int32 ⊕ String) × zm_S)} (hc : 1 ≤ rc ∧ 6 ≤ rs) {S : zm_S} (h : zf_X11_person_J51 N a0 i1 i2 t0 S = some out) : zw p l e R s m args below meth c (vx_MQ below (zm_Qc zk_E V (zq_i out)) (zm_XC zk_E V (zq_x out)) args s mc ms (fun q => V.2.2.2.1 ≤ q)) 3 zk_E V mc ms 51 [(0, .ref a0), (1, .int i1), (2, .int i2)] [.int t0] S rc rs := by
  unfold zf_X11_person_J51 at h
  obtain ⟨r, g, h⟩ := zb_some h
  refine zc_S (as := [.int t0]) hX (zt_X11_needState hlt (d := d - 1) (by omega) g) zl_X11_112 dX11_person_51 ⟨rfl, rfl, Nat.le_of_ble_eq_true rfl⟩ ⟨by omega, by omega⟩ ⟨by omega, by omega⟩ ?_ ?_
  · rintro _ S7 ⟨⟨u6, rfl⟩, rfl⟩
    try dsimp only at h
    refine zw_aload_n hX dX11_person_54 rfl ?_
    obtain ⟨b8, g, h⟩ := zb_some h
    refine zw_getr hX zl_X11_44 dX11_person_55 g ?_
    refine zw_iload_n hX dX11_person_58 rfl ?_
    refine zw_iload_n hX dX11_person_59 rfl ?_
    obtain ⟨_, gi, h⟩ := zb_some h
    obtain ⟨r10, g, h⟩ := zb_some h
    refine zc_Vi (as := [.int i1, .int i2]) hX gi (zt_X10_addPerson (d := d - 1) (by omega) g) zl_X11_276 rfl dX11_person_60 ⟨rfl, rfl, Nat.le_of_ble_eq_true rfl⟩ ⟨by omega, by omega⟩ ?_
    obtain rfl := Option.some.inj h
    exact zw_iret hX hr dX11_person_63 rfl ⟨_, rfl, rfl⟩
  · rintro X S9 rfl
    obtain rfl := Option.some.inj h
    exact zx_out hX hxt rfl
set_option maxHeartbeats 4000000 in
set_option maxRecDepth 100000 in
theorem zt_X11_person_J50 {p : Program} {l : Launch} {e : Env} {R : Room} {s : State} {m : MethodId} {args : Array Value} {below : List Frame} {meth : Method} {c : Code} {V : zm_V} {mc ms d rc rs : Nat} (hlt : l.stackTraces = false) (hxt : ∀ x ∈ c.exceptionTable.toList, False) (hX : zm_X p R s m args meth c RX11 "person" cX11_person 3 zk_E V mc ms) (hr : meth.sig.returnType = (some .int)) (hR : R.frames = d ∧ R.locals = 64 * d) (hd : 7 ≤ d) {N : Nat} {a0 : Nat} {i1 : Int32} {i2 : Int32} {out : ((Int32 ⊕ String) × zm_S)} (hc : 1 ≤ rc ∧ 6 ≤ rs) {S : zm_S} (h : zf_X11_person_J50 N a0 i1 i2 S = some out) : zw p l e R s m args below meth c (vx_MQ below (zm_Qc zk_E V (zq_i out)) (zm_XC zk_E V (zq_x out)) args s mc ms (fun q => V.2.2.2.1 ≤ q)) 3 zk_E V mc ms 50 [(0, .ref a0), (1, .int i1), (2, .int i2)] [] S rc rs := by
  unfold zf_X11_person_J50 at h
  refine zw_iconst (v := (0 : Int32)) hX dX11_person_50 (by decide) ?_
  refine zw_sub (lv' := [(0, .ref a0), (1, .int i1), (2, .int i2)]) (List.forall_mem_cons.mpr ⟨rfl, (List.forall_mem_cons.mpr ⟨rfl, (List.forall_mem_cons.mpr ⟨rfl, zs_nil⟩)⟩)⟩) ?_
  exact zt_X11_person_J51 hlt hxt hX hr hR hd ⟨by omega, by omega⟩ h
set_option maxHeartbeats 4000000 in
set_option maxRecDepth 100000 in
theorem zt_X11_person_J24 {p : Program} {l : Launch} {e : Env} {R : Room} {s : State} {m : MethodId} {args : Array Value} {below : List Frame} {meth : Method} {c : Code} {V : zm_V} {mc ms d rc rs : Nat} (hlt : l.stackTraces = false) (hxt : ∀ x ∈ c.exceptionTable.toList, False) (hX : zm_X p R s m args meth c RX11 "person" cX11_person 3 zk_E V mc ms) (hr : meth.sig.returnType = (some .int)) (hR : R.frames = d ∧ R.locals = 64 * d) (hd : 7 ≤ d) {N : Nat} {a0 : Nat} {i1 : Int32} {i2 : Int32} {t0 : Int32} {out : ((Int32 ⊕ String) × zm_S)} (hc : 2 ≤ rc ∧ 12 ≤ rs) {S : zm_S} (h : zf_X11_person_J24 N a0 i1 i2 t0 S = some out) : zw p l e R s m args below meth c (vx_MQ below (zm_Qc zk_E V (zq_i out)) (zm_XC zk_E V (zq_x out)) args s mc ms (fun q => V.2.2.2.1 ≤ q)) 3 zk_E V mc ms 24 [(0, .ref a0), (1, .int i1), (2, .int i2)] [.int t0] S rc rs := by
  unfold zf_X11_person_J24 at h
  obtain ⟨r, g, h⟩ := zb_some h
  refine zc_S (as := [.int t0]) hX (zt_X11_needArgument hlt (d := d - 1) (by omega) g) zl_X11_100 dX11_person_24 ⟨rfl, rfl, Nat.le_of_ble_eq_true rfl⟩ ⟨by omega, by omega⟩ ⟨by omega, by omega⟩ ?_ ?_
  · rintro _ S4 ⟨⟨u3, rfl⟩, rfl⟩
    try dsimp only at h
    refine zw_aload_n hX dX11_person_27 rfl ?_
    obtain ⟨v5, g, h⟩ := zb_some h
    refine zw_geti hX zl_X11_104 dX11_person_28 g ?_
    refine zw_if_eq (tgt := 50) hX dX11_person_31 (by decide) (fun c31 => ?_) (fun c31 => ?_)
    · rw [if_pos c31] at h
      refine zw_sub (lv' := [(0, .ref a0), (1, .int i1), (2, .int i2)]) (List.forall_mem_cons.mpr ⟨rfl, (List.forall_mem_cons.mpr ⟨rfl, (List.forall_mem_cons.mpr ⟨rfl, zs_nil⟩)⟩)⟩) ?_
      exact zt_X11_person_J50 hlt hxt hX hr hR hd ⟨by omega, by omega⟩ h
    · rw [if_neg c31] at h
      refine zw_aload_n hX dX11_person_34 rfl ?_
      obtain ⟨b11, g, h⟩ := zb_some h
      refine zw_getr hX zl_X11_44 dX11_person_35 g ?_
      obtain ⟨v12, g, h⟩ := zb_some h
      refine zw_getNi hX zl_X11_273 dX11_person_38 g ?_
      refine zw_bipush (v := (40 : Int32)) hX dX11_person_41 (by decide) ?_
      refine zw_icmp_ge (tgt := 50) hX dX11_person_43 (by decide) (fun c43 => ?_) (fun c43 => ?_)
      · rw [if_pos c43] at h
        refine zw_sub (lv' := [(0, .ref a0), (1, .int i1), (2, .int i2)]) (List.forall_mem_cons.mpr ⟨rfl, (List.forall_mem_cons.mpr ⟨rfl, (List.forall_mem_cons.mpr ⟨rfl, zs_nil⟩)⟩)⟩) ?_
        exact zt_X11_person_J50 hlt hxt hX hr hR hd ⟨by omega, by omega⟩ h
      · rw [if_neg c43] at h
        refine zw_iconst (v := (1 : Int32)) hX dX11_person_46 (by decide) ?_
        refine zw_goto (tgt := 51) hX dX11_person_47 (by decide) ?_
        refine zw_sub (lv' := [(0, .ref a0), (1, .int i1), (2, .int i2)]) (List.forall_mem_cons.mpr ⟨rfl, (List.forall_mem_cons.mpr ⟨rfl, (List.forall_mem_cons.mpr ⟨rfl, zs_nil⟩)⟩)⟩) ?_
        exact zt_X11_person_J51 hlt hxt hX hr hR hd ⟨by omega, by omega⟩ h
  · rintro X S9 rfl
    obtain rfl := Option.some.inj h
    exact zx_out hX hxt rfl
set_option maxHeartbeats 4000000 in
set_option maxRecDepth 100000 in
theorem zt_X11_person_J23 {p : Program} {l : Launch} {e : Env} {R : Room} {s : State} {m : MethodId} {args : Array Value} {below : List Frame} {meth : Method} {c : Code} {V : zm_V} {mc ms d rc rs : Nat} (hlt : l.stackTraces = false) (hxt : ∀ x ∈ c.exceptionTable.toList, False) (hX : zm_X p R s m args meth c RX11 "person" cX11_person 3 zk_E V mc ms) (hr : meth.sig.returnType = (some .int)) (hR : R.frames = d ∧ R.locals = 64 * d) (hd : 7 ≤ d) {N : Nat} {a0 : Nat} {i1 : Int32} {i2 : Int32} {out : ((Int32 ⊕ String) × zm_S)} (hc : 2 ≤ rc ∧ 12 ≤ rs) {S : zm_S} (h : zf_X11_person_J23 N a0 i1 i2 S = some out) : zw p l e R s m args below meth c (vx_MQ below (zm_Qc zk_E V (zq_i out)) (zm_XC zk_E V (zq_x out)) args s mc ms (fun q => V.2.2.2.1 ≤ q)) 3 zk_E V mc ms 23 [(0, .ref a0), (1, .int i1), (2, .int i2)] [] S rc rs := by
  unfold zf_X11_person_J23 at h
  refine zw_iconst (v := (0 : Int32)) hX dX11_person_23 (by decide) ?_
  refine zw_sub (lv' := [(0, .ref a0), (1, .int i1), (2, .int i2)]) (List.forall_mem_cons.mpr ⟨rfl, (List.forall_mem_cons.mpr ⟨rfl, (List.forall_mem_cons.mpr ⟨rfl, zs_nil⟩)⟩)⟩) ?_
  exact zt_X11_person_J24 hlt hxt hX hr hR hd ⟨by omega, by omega⟩ h
set_option maxHeartbeats 4000000 in
set_option maxRecDepth 100000 in
theorem zt_X11_person {l : Launch} {V : zm_V} (hlt : l.stackTraces = false) {N : Nat} {S : zm_S} {out : ((Int32 ⊕ String) × zm_S)} {d : Nat} {a0 : Nat} {i1 : Int32} {i2 : Int32} (hd : 7 ≤ d) (h : zf_X11_person N a0 i1 i2 S = some out) : zm_Met l zk_E V yX11_person (.code yX11_person cX11_person 3 (some .int)) d [.ref a0, .int i1, .int i2] S 2 12 (zq_i out) (zq_x out) := by
  refine zm_of (by decide +kernel) (Nat.le_of_ble_eq_true rfl) ?_
  intro p e R s m args below meth c hRR hX hr hxt
  have hR : R.frames = d ∧ R.locals = 64 * d := by rw [hRR]; exact ⟨rfl, rfl⟩
  have hX : zm_X p R s m args meth c RX11 "person" cX11_person 3 zk_E V 2 12 := hX
  unfold zf_X11_person at h
  refine zw_sub (lv' := [(0, .ref a0), (1, .int i1), (2, .int i2)]) (List.forall_mem_cons.mpr ⟨rfl, (List.forall_mem_cons.mpr ⟨rfl, (List.forall_mem_cons.mpr ⟨rfl, zs_nil⟩)⟩)⟩) ?_
  refine zw_iload_n hX dX11_person_0 rfl ?_
  refine zw_iconst (v := (0 : Int32)) hX dX11_person_1 (by decide) ?_
  refine zw_bipush (v := (9 : Int32)) hX dX11_person_2 (by decide) ?_
  obtain ⟨r2, g, h⟩ := zb_some h
  refine zc_Si (as := [.int i1, .int (0 : Int32), .int (9 : Int32)]) hX (zt_X11_isWithin (d := d - 1) (by omega) g) zl_X11_133 dX11_person_4 ⟨rfl, rfl, Nat.le_of_ble_eq_true rfl⟩ ⟨by omega, by omega⟩ ?_
  refine zw_if_eq (tgt := 23) hX dX11_person_7 (by decide) (fun c7 => ?_) (fun c7 => ?_)
  · rw [if_pos c7] at h
    refine zw_sub (lv' := [(0, .ref a0), (1, .int i1), (2, .int i2)]) (List.forall_mem_cons.mpr ⟨rfl, (List.forall_mem_cons.mpr ⟨rfl, (List.forall_mem_cons.mpr ⟨rfl, zs_nil⟩)⟩)⟩) ?_
    exact zt_X11_person_J23 hlt hxt hX hr hR hd ⟨by omega, by omega⟩ h
  · rw [if_neg c7] at h
    refine zw_iload_n hX dX11_person_10 rfl ?_
    refine zw_iconst (v := (1 : Int32)) hX dX11_person_11 (by decide) ?_
    refine zw_iconst (v := (5 : Int32)) hX dX11_person_12 (by decide) ?_
    obtain ⟨r14, g, h⟩ := zb_some h
    refine zc_Si (as := [.int i2, .int (1 : Int32), .int (5 : Int32)]) hX (zt_X11_isWithin (d := d - 1) (by omega) g) zl_X11_133 dX11_person_13 ⟨rfl, rfl, Nat.le_of_ble_eq_true rfl⟩ ⟨by omega, by omega⟩ ?_
    refine zw_if_eq (tgt := 23) hX dX11_person_16 (by decide) (fun c16 => ?_) (fun c16 => ?_)
    · rw [if_pos c16] at h
      refine zw_sub (lv' := [(0, .ref a0), (1, .int i1), (2, .int i2)]) (List.forall_mem_cons.mpr ⟨rfl, (List.forall_mem_cons.mpr ⟨rfl, (List.forall_mem_cons.mpr ⟨rfl, zs_nil⟩)⟩)⟩) ?_
      exact zt_X11_person_J23 hlt hxt hX hr hR hd ⟨by omega, by omega⟩ h
    · rw [if_neg c16] at h
      refine zw_iconst (v := (1 : Int32)) hX dX11_person_19 (by decide) ?_
      refine zw_goto (tgt := 24) hX dX11_person_20 (by decide) ?_
      refine zw_sub (lv' := [(0, .ref a0), (1, .int i1), (2, .int i2)]) (List.forall_mem_cons.mpr ⟨rfl, (List.forall_mem_cons.mpr ⟨rfl, (List.forall_mem_cons.mpr ⟨rfl, zs_nil⟩)⟩)⟩) ?_
      exact zt_X11_person_J24 hlt hxt hX hr hR hd ⟨by omega, by omega⟩ h
set_option maxHeartbeats 4000000 in
set_option maxRecDepth 100000 in
theorem zt_X11_isPerson {l : Launch} {V : zm_V} {N : Nat} {S : zm_S} {out : (Int32 × zm_S)} {d : Nat} {a0 : Nat} {i1 : Int32} (hd : 2 ≤ d) (h : zf_X11_isPerson N a0 i1 S = some out) : zm_Met l zk_E V yX11_isPerson (.code yX11_isPerson cX11_isPerson 2 (some .boolean)) d [.ref a0, .int i1] S 0 0 (zo_i out) zo_x := by
  refine zm_of (by decide +kernel) (Nat.le_of_ble_eq_true rfl) ?_
  intro p e R s m args below meth c hRR hX hr hxt
  have hR : R.frames = d ∧ R.locals = 64 * d := by rw [hRR]; exact ⟨rfl, rfl⟩
  have hX : zm_X p R s m args meth c RX11 "isPerson" cX11_isPerson 2 zk_E V 0 0 := hX
  unfold zf_X11_isPerson at h
  refine zw_sub (lv' := [(0, .ref a0), (1, .int i1)]) (List.forall_mem_cons.mpr ⟨rfl, (List.forall_mem_cons.mpr ⟨rfl, zs_nil⟩)⟩) ?_
  refine zw_iload_n hX dX11_isPerson_0 rfl ?_
  refine zw_iconst (v := (0 : Int32)) hX dX11_isPerson_1 (by decide) ?_
  refine zw_aload_n hX dX11_isPerson_2 rfl ?_
  obtain ⟨b1, g, h⟩ := zb_some h
  refine zw_getr hX zl_X11_44 dX11_isPerson_3 g ?_
  obtain ⟨v2, g, h⟩ := zb_some h
  refine zw_getNi hX zl_X11_273 dX11_isPerson_6 g ?_
  refine zw_iconst (v := (1 : Int32)) hX dX11_isPerson_9 (by decide) ?_
  refine zw_isub hX dX11_isPerson_10 ?_
  obtain ⟨r4, g, h⟩ := zb_some h
  refine zc_Si (as := [.int i1, .int (0 : Int32), .int (v2 - (1 : Int32))]) hX (zt_X11_isWithin (d := d - 1) (by omega) g) zl_X11_133 dX11_isPerson_11 ⟨rfl, rfl, Nat.le_of_ble_eq_true rfl⟩ ⟨by omega, by omega⟩ ?_
  by_cases cz : r4.1 = 0 ∨ r4.1 = 1
  · rw [if_pos cz] at h
    obtain rfl := Option.some.inj h
    exact zw_iret hX hr dX11_isPerson_14 (zn_z cz) ⟨rfl, rfl⟩
  · rw [if_neg cz] at h
    cases h
set_option maxHeartbeats 4000000 in
set_option maxRecDepth 100000 in
theorem zt_X11_card_J50 {p : Program} {l : Launch} {e : Env} {R : Room} {s : State} {m : MethodId} {args : Array Value} {below : List Frame} {meth : Method} {c : Code} {V : zm_V} {mc ms d rc rs : Nat} (hlt : l.stackTraces = false) (hxt : ∀ x ∈ c.exceptionTable.toList, False) (hX : zm_X p R s m args meth c RX11 "card" cX11_card 3 zk_E V mc ms) (hr : meth.sig.returnType = (some .int)) (hR : R.frames = d ∧ R.locals = 64 * d) (hd : 7 ≤ d) {N : Nat} {a0 : Nat} {i1 : Int32} {i2 : Int32} {t0 : Int32} {out : ((Int32 ⊕ String) × zm_S)} (hc : 1 ≤ rc ∧ 6 ≤ rs) {S : zm_S} (h : zf_X11_card_J50 N a0 i1 i2 t0 S = some out) : zw p l e R s m args below meth c (vx_MQ below (zm_Qc zk_E V (zq_i out)) (zm_XC zk_E V (zq_x out)) args s mc ms (fun q => V.2.2.2.1 ≤ q)) 3 zk_E V mc ms 50 [(0, .ref a0), (1, .int i1), (2, .int i2)] [.int t0] S rc rs := by
  unfold zf_X11_card_J50 at h
  obtain ⟨r, g, h⟩ := zb_some h
  refine zc_S (as := [.int t0]) hX (zt_X11_needState hlt (d := d - 1) (by omega) g) zl_X11_112 dX11_card_50 ⟨rfl, rfl, Nat.le_of_ble_eq_true rfl⟩ ⟨by omega, by omega⟩ ⟨by omega, by omega⟩ ?_ ?_
  · rintro _ S7 ⟨⟨u6, rfl⟩, rfl⟩
    try dsimp only at h
    refine zw_aload_n hX dX11_card_53 rfl ?_
    obtain ⟨b8, g, h⟩ := zb_some h
    refine zw_getr hX zl_X11_53 dX11_card_54 g ?_
    refine zw_iload_n hX dX11_card_57 rfl ?_
    refine zw_iload_n hX dX11_card_58 rfl ?_
    obtain ⟨_, gi, h⟩ := zb_some h
    obtain ⟨r10, g, h⟩ := zb_some h
    refine zc_Vi (as := [.int i1, .int i2]) hX gi (zt_X0_addCard (d := d - 1) (by omega) g) zl_X11_285 rfl dX11_card_59 ⟨rfl, rfl, Nat.le_of_ble_eq_true rfl⟩ ⟨by omega, by omega⟩ ?_
    obtain rfl := Option.some.inj h
    exact zw_iret hX hr dX11_card_62 rfl ⟨_, rfl, rfl⟩
  · rintro X S9 rfl
    obtain rfl := Option.some.inj h
    exact zx_out hX hxt rfl
set_option maxHeartbeats 4000000 in
set_option maxRecDepth 100000 in
theorem zt_X11_card_J49 {p : Program} {l : Launch} {e : Env} {R : Room} {s : State} {m : MethodId} {args : Array Value} {below : List Frame} {meth : Method} {c : Code} {V : zm_V} {mc ms d rc rs : Nat} (hlt : l.stackTraces = false) (hxt : ∀ x ∈ c.exceptionTable.toList, False) (hX : zm_X p R s m args meth c RX11 "card" cX11_card 3 zk_E V mc ms) (hr : meth.sig.returnType = (some .int)) (hR : R.frames = d ∧ R.locals = 64 * d) (hd : 7 ≤ d) {N : Nat} {a0 : Nat} {i1 : Int32} {i2 : Int32} {out : ((Int32 ⊕ String) × zm_S)} (hc : 1 ≤ rc ∧ 6 ≤ rs) {S : zm_S} (h : zf_X11_card_J49 N a0 i1 i2 S = some out) : zw p l e R s m args below meth c (vx_MQ below (zm_Qc zk_E V (zq_i out)) (zm_XC zk_E V (zq_x out)) args s mc ms (fun q => V.2.2.2.1 ≤ q)) 3 zk_E V mc ms 49 [(0, .ref a0), (1, .int i1), (2, .int i2)] [] S rc rs := by
  unfold zf_X11_card_J49 at h
  refine zw_iconst (v := (0 : Int32)) hX dX11_card_49 (by decide) ?_
  refine zw_sub (lv' := [(0, .ref a0), (1, .int i1), (2, .int i2)]) (List.forall_mem_cons.mpr ⟨rfl, (List.forall_mem_cons.mpr ⟨rfl, (List.forall_mem_cons.mpr ⟨rfl, zs_nil⟩)⟩)⟩) ?_
  exact zt_X11_card_J50 hlt hxt hX hr hR hd ⟨by omega, by omega⟩ h
set_option maxHeartbeats 4000000 in
set_option maxRecDepth 100000 in
theorem zt_X11_card_J23 {p : Program} {l : Launch} {e : Env} {R : Room} {s : State} {m : MethodId} {args : Array Value} {below : List Frame} {meth : Method} {c : Code} {V : zm_V} {mc ms d rc rs : Nat} (hlt : l.stackTraces = false) (hxt : ∀ x ∈ c.exceptionTable.toList, False) (hX : zm_X p R s m args meth c RX11 "card" cX11_card 3 zk_E V mc ms) (hr : meth.sig.returnType = (some .int)) (hR : R.frames = d ∧ R.locals = 64 * d) (hd : 7 ≤ d) {N : Nat} {a0 : Nat} {i1 : Int32} {i2 : Int32} {t0 : Int32} {out : ((Int32 ⊕ String) × zm_S)} (hc : 2 ≤ rc ∧ 12 ≤ rs) {S : zm_S} (h : zf_X11_card_J23 N a0 i1 i2 t0 S = some out) : zw p l e R s m args below meth c (vx_MQ below (zm_Qc zk_E V (zq_i out)) (zm_XC zk_E V (zq_x out)) args s mc ms (fun q => V.2.2.2.1 ≤ q)) 3 zk_E V mc ms 23 [(0, .ref a0), (1, .int i1), (2, .int i2)] [.int t0] S rc rs := by
  unfold zf_X11_card_J23 at h
  obtain ⟨r, g, h⟩ := zb_some h
  refine zc_S (as := [.int t0]) hX (zt_X11_needArgument hlt (d := d - 1) (by omega) g) zl_X11_100 dX11_card_23 ⟨rfl, rfl, Nat.le_of_ble_eq_true rfl⟩ ⟨by omega, by omega⟩ ⟨by omega, by omega⟩ ?_ ?_
  · rintro _ S4 ⟨⟨u3, rfl⟩, rfl⟩
    try dsimp only at h
    refine zw_aload_n hX dX11_card_26 rfl ?_
    obtain ⟨v5, g, h⟩ := zb_some h
    refine zw_geti hX zl_X11_104 dX11_card_27 g ?_
    refine zw_if_eq (tgt := 49) hX dX11_card_30 (by decide) (fun c30 => ?_) (fun c30 => ?_)
    · rw [if_pos c30] at h
      refine zw_sub (lv' := [(0, .ref a0), (1, .int i1), (2, .int i2)]) (List.forall_mem_cons.mpr ⟨rfl, (List.forall_mem_cons.mpr ⟨rfl, (List.forall_mem_cons.mpr ⟨rfl, zs_nil⟩)⟩)⟩) ?_
      exact zt_X11_card_J49 hlt hxt hX hr hR hd ⟨by omega, by omega⟩ h
    · rw [if_neg c30] at h
      refine zw_aload_n hX dX11_card_33 rfl ?_
      obtain ⟨b11, g, h⟩ := zb_some h
      refine zw_getr hX zl_X11_53 dX11_card_34 g ?_
      obtain ⟨v12, g, h⟩ := zb_some h
      refine zw_getNi hX zl_X11_282 dX11_card_37 g ?_
      refine zw_bipush (v := (60 : Int32)) hX dX11_card_40 (by decide) ?_
      refine zw_icmp_ge (tgt := 49) hX dX11_card_42 (by decide) (fun c42 => ?_) (fun c42 => ?_)
      · rw [if_pos c42] at h
        refine zw_sub (lv' := [(0, .ref a0), (1, .int i1), (2, .int i2)]) (List.forall_mem_cons.mpr ⟨rfl, (List.forall_mem_cons.mpr ⟨rfl, (List.forall_mem_cons.mpr ⟨rfl, zs_nil⟩)⟩)⟩) ?_
        exact zt_X11_card_J49 hlt hxt hX hr hR hd ⟨by omega, by omega⟩ h
      · rw [if_neg c42] at h
        refine zw_iconst (v := (1 : Int32)) hX dX11_card_45 (by decide) ?_
        refine zw_goto (tgt := 50) hX dX11_card_46 (by decide) ?_
        refine zw_sub (lv' := [(0, .ref a0), (1, .int i1), (2, .int i2)]) (List.forall_mem_cons.mpr ⟨rfl, (List.forall_mem_cons.mpr ⟨rfl, (List.forall_mem_cons.mpr ⟨rfl, zs_nil⟩)⟩)⟩) ?_
        exact zt_X11_card_J50 hlt hxt hX hr hR hd ⟨by omega, by omega⟩ h
  · rintro X S9 rfl
    obtain rfl := Option.some.inj h
    exact zx_out hX hxt rfl
set_option maxHeartbeats 4000000 in
set_option maxRecDepth 100000 in
theorem zt_X11_card_J22 {p : Program} {l : Launch} {e : Env} {R : Room} {s : State} {m : MethodId} {args : Array Value} {below : List Frame} {meth : Method} {c : Code} {V : zm_V} {mc ms d rc rs : Nat} (hlt : l.stackTraces = false) (hxt : ∀ x ∈ c.exceptionTable.toList, False) (hX : zm_X p R s m args meth c RX11 "card" cX11_card 3 zk_E V mc ms) (hr : meth.sig.returnType = (some .int)) (hR : R.frames = d ∧ R.locals = 64 * d) (hd : 7 ≤ d) {N : Nat} {a0 : Nat} {i1 : Int32} {i2 : Int32} {out : ((Int32 ⊕ String) × zm_S)} (hc : 2 ≤ rc ∧ 12 ≤ rs) {S : zm_S} (h : zf_X11_card_J22 N a0 i1 i2 S = some out) : zw p l e R s m args below meth c (vx_MQ below (zm_Qc zk_E V (zq_i out)) (zm_XC zk_E V (zq_x out)) args s mc ms (fun q => V.2.2.2.1 ≤ q)) 3 zk_E V mc ms 22 [(0, .ref a0), (1, .int i1), (2, .int i2)] [] S rc rs := by
  unfold zf_X11_card_J22 at h
  refine zw_iconst (v := (0 : Int32)) hX dX11_card_22 (by decide) ?_
  refine zw_sub (lv' := [(0, .ref a0), (1, .int i1), (2, .int i2)]) (List.forall_mem_cons.mpr ⟨rfl, (List.forall_mem_cons.mpr ⟨rfl, (List.forall_mem_cons.mpr ⟨rfl, zs_nil⟩)⟩)⟩) ?_
  exact zt_X11_card_J23 hlt hxt hX hr hR hd ⟨by omega, by omega⟩ h
set_option maxHeartbeats 4000000 in
set_option maxRecDepth 100000 in
theorem zt_X11_card {l : Launch} {V : zm_V} (hlt : l.stackTraces = false) {N : Nat} {S : zm_S} {out : ((Int32 ⊕ String) × zm_S)} {d : Nat} {a0 : Nat} {i1 : Int32} {i2 : Int32} (hd : 7 ≤ d) (h : zf_X11_card N a0 i1 i2 S = some out) : zm_Met l zk_E V yX11_card (.code yX11_card cX11_card 3 (some .int)) d [.ref a0, .int i1, .int i2] S 2 12 (zq_i out) (zq_x out) := by
  refine zm_of (by decide +kernel) (Nat.le_of_ble_eq_true rfl) ?_
  intro p e R s m args below meth c hRR hX hr hxt
  have hR : R.frames = d ∧ R.locals = 64 * d := by rw [hRR]; exact ⟨rfl, rfl⟩
  have hX : zm_X p R s m args meth c RX11 "card" cX11_card 3 zk_E V 2 12 := hX
  unfold zf_X11_card at h
  refine zw_sub (lv' := [(0, .ref a0), (1, .int i1), (2, .int i2)]) (List.forall_mem_cons.mpr ⟨rfl, (List.forall_mem_cons.mpr ⟨rfl, (List.forall_mem_cons.mpr ⟨rfl, zs_nil⟩)⟩)⟩) ?_
  refine zw_aload_n hX dX11_card_0 rfl ?_
  refine zw_iload_n hX dX11_card_1 rfl ?_
  obtain ⟨_, gi, h⟩ := zb_some h
  obtain ⟨r2, g, h⟩ := zb_some h
  refine zc_Vi (as := [.int i1]) hX gi (zt_X11_isPerson (d := d - 1) (by omega) g) zl_X11_279 rfl dX11_card_2 ⟨rfl, rfl, Nat.le_of_ble_eq_true rfl⟩ ⟨by omega, by omega⟩ ?_
  refine zw_if_eq (tgt := 22) hX dX11_card_5 (by decide) (fun c5 => ?_) (fun c5 => ?_)
  · rw [if_pos c5] at h
    refine zw_sub (lv' := [(0, .ref a0), (1, .int i1), (2, .int i2)]) (List.forall_mem_cons.mpr ⟨rfl, (List.forall_mem_cons.mpr ⟨rfl, (List.forall_mem_cons.mpr ⟨rfl, zs_nil⟩)⟩)⟩) ?_
    exact zt_X11_card_J22 hlt hxt hX hr hR hd ⟨by omega, by omega⟩ h
  · rw [if_neg c5] at h
    refine zw_iload_n hX dX11_card_8 rfl ?_
    refine zw_iconst (v := (0 : Int32)) hX dX11_card_9 (by decide) ?_
    refine zw_ldc (v := (1000000 : Int32)) hX dX11_card_10 zl_X11_237 ?_
    obtain ⟨r14, g, h⟩ := zb_some h
    refine zc_Si (as := [.int i2, .int (0 : Int32), .int (1000000 : Int32)]) hX (zt_X11_isWithin (d := d - 1) (by omega) g) zl_X11_133 dX11_card_12 ⟨rfl, rfl, Nat.le_of_ble_eq_true rfl⟩ ⟨by omega, by omega⟩ ?_
    refine zw_if_eq (tgt := 22) hX dX11_card_15 (by decide) (fun c15 => ?_) (fun c15 => ?_)
    · rw [if_pos c15] at h
      refine zw_sub (lv' := [(0, .ref a0), (1, .int i1), (2, .int i2)]) (List.forall_mem_cons.mpr ⟨rfl, (List.forall_mem_cons.mpr ⟨rfl, (List.forall_mem_cons.mpr ⟨rfl, zs_nil⟩)⟩)⟩) ?_
      exact zt_X11_card_J22 hlt hxt hX hr hR hd ⟨by omega, by omega⟩ h
    · rw [if_neg c15] at h
      refine zw_iconst (v := (1 : Int32)) hX dX11_card_18 (by decide) ?_
      refine zw_goto (tgt := 23) hX dX11_card_19 (by decide) ?_
      refine zw_sub (lv' := [(0, .ref a0), (1, .int i1), (2, .int i2)]) (List.forall_mem_cons.mpr ⟨rfl, (List.forall_mem_cons.mpr ⟨rfl, (List.forall_mem_cons.mpr ⟨rfl, zs_nil⟩)⟩)⟩) ?_
      exact zt_X11_card_J23 hlt hxt hX hr hR hd ⟨by omega, by omega⟩ h
set_option maxHeartbeats 4000000 in
set_option maxRecDepth 100000 in
theorem zt_X11_right_J94 {p : Program} {l : Launch} {e : Env} {R : Room} {s : State} {m : MethodId} {args : Array Value} {below : List Frame} {meth : Method} {c : Code} {V : zm_V} {mc ms d rc rs : Nat} (hlt : l.stackTraces = false) (hxt : ∀ x ∈ c.exceptionTable.toList, False) (hX : zm_X p R s m args meth c RX11 "right" cX11_right 6 zk_E V mc ms) (hr : meth.sig.returnType = (some .int)) (hR : R.frames = d ∧ R.locals = 64 * d) (hd : 7 ≤ d) {N : Nat} {a0 : Nat} {i1 : Int32} {i2 : Int32} {i3 : Int32} {i4 : Int32} {i5 : Int32} {t0 : Int32} {out : ((Int32 ⊕ String) × zm_S)} (hc : 1 ≤ rc ∧ 6 ≤ rs) {S : zm_S} (h : zf_X11_right_J94 N a0 i1 i2 i3 i4 i5 t0 S = some out) : zw p l e R s m args below meth c (vx_MQ below (zm_Qc zk_E V (zq_i out)) (zm_XC zk_E V (zq_x out)) args s mc ms (fun q => V.2.2.2.1 ≤ q)) 6 zk_E V mc ms 94 [(0, .ref a0), (1, .int i1), (2, .int i2), (3, .int i3), (4, .int i4), (5, .int i5)] [.int t0] S rc rs := by
  unfold zf_X11_right_J94 at h
  obtain ⟨r, g, h⟩ := zb_some h
  refine zc_S (as := [.int t0]) hX (zt_X11_needState hlt (d := d - 1) (by omega) g) zl_X11_112 dX11_right_94 ⟨rfl, rfl, Nat.le_of_ble_eq_true rfl⟩ ⟨by omega, by omega⟩ ⟨by omega, by omega⟩ ?_ ?_
  · rintro _ S11 ⟨⟨u10, rfl⟩, rfl⟩
    try dsimp only at h
    refine zw_aload_n hX dX11_right_97 rfl ?_
    obtain ⟨b12, g, h⟩ := zb_some h
    refine zw_getr hX zl_X11_53 dX11_right_98 g ?_
    refine zw_iload_n hX dX11_right_101 rfl ?_
    refine zw_iload_n hX dX11_right_102 rfl ?_
    refine zw_iload_n hX dX11_right_103 rfl ?_
    refine zw_iload hX dX11_right_104 rfl ?_
    refine zw_iload hX dX11_right_106 rfl ?_
    obtain ⟨_, gi, h⟩ := zb_some h
    obtain ⟨r14, g, h⟩ := zb_some h
    refine zc_Vi (as := [.int i1, .int i2, .int i3, .int i4, .int i5]) hX gi (zt_X0_addRight (d := d - 1) (by omega) g) zl_X11_291 rfl dX11_right_108 ⟨rfl, rfl, Nat.le_of_ble_eq_true rfl⟩ ⟨by omega, by omega⟩ ?_
    obtain rfl := Option.some.inj h
    exact zw_iret hX hr dX11_right_111 rfl ⟨_, rfl, rfl⟩
  · rintro X S9 rfl
    obtain rfl := Option.some.inj h
    exact zx_out hX hxt rfl
set_option maxHeartbeats 4000000 in
set_option maxRecDepth 100000 in
theorem zt_X11_right_J93 {p : Program} {l : Launch} {e : Env} {R : Room} {s : State} {m : MethodId} {args : Array Value} {below : List Frame} {meth : Method} {c : Code} {V : zm_V} {mc ms d rc rs : Nat} (hlt : l.stackTraces = false) (hxt : ∀ x ∈ c.exceptionTable.toList, False) (hX : zm_X p R s m args meth c RX11 "right" cX11_right 6 zk_E V mc ms) (hr : meth.sig.returnType = (some .int)) (hR : R.frames = d ∧ R.locals = 64 * d) (hd : 7 ≤ d) {N : Nat} {a0 : Nat} {i1 : Int32} {i2 : Int32} {i3 : Int32} {i4 : Int32} {i5 : Int32} {out : ((Int32 ⊕ String) × zm_S)} (hc : 1 ≤ rc ∧ 6 ≤ rs) {S : zm_S} (h : zf_X11_right_J93 N a0 i1 i2 i3 i4 i5 S = some out) : zw p l e R s m args below meth c (vx_MQ below (zm_Qc zk_E V (zq_i out)) (zm_XC zk_E V (zq_x out)) args s mc ms (fun q => V.2.2.2.1 ≤ q)) 6 zk_E V mc ms 93 [(0, .ref a0), (1, .int i1), (2, .int i2), (3, .int i3), (4, .int i4), (5, .int i5)] [] S rc rs := by
  unfold zf_X11_right_J93 at h
  refine zw_iconst (v := (0 : Int32)) hX dX11_right_93 (by decide) ?_
  refine zw_sub (lv' := [(0, .ref a0), (1, .int i1), (2, .int i2), (3, .int i3), (4, .int i4), (5, .int i5)]) (List.forall_mem_cons.mpr ⟨rfl, (List.forall_mem_cons.mpr ⟨rfl, (List.forall_mem_cons.mpr ⟨rfl, (List.forall_mem_cons.mpr ⟨rfl, (List.forall_mem_cons.mpr ⟨rfl, (List.forall_mem_cons.mpr ⟨rfl, zs_nil⟩)⟩)⟩)⟩)⟩)⟩) ?_
  exact zt_X11_right_J94 hlt hxt hX hr hR hd ⟨by omega, by omega⟩ h
set_option maxHeartbeats 4000000 in
set_option maxRecDepth 100000 in
theorem zt_X11_right_J67 {p : Program} {l : Launch} {e : Env} {R : Room} {s : State} {m : MethodId} {args : Array Value} {below : List Frame} {meth : Method} {c : Code} {V : zm_V} {mc ms d rc rs : Nat} (hlt : l.stackTraces = false) (hxt : ∀ x ∈ c.exceptionTable.toList, False) (hX : zm_X p R s m args meth c RX11 "right" cX11_right 6 zk_E V mc ms) (hr : meth.sig.returnType = (some .int)) (hR : R.frames = d ∧ R.locals = 64 * d) (hd : 7 ≤ d) {N : Nat} {a0 : Nat} {i1 : Int32} {i2 : Int32} {i3 : Int32} {i4 : Int32} {i5 : Int32} {t0 : Int32} {out : ((Int32 ⊕ String) × zm_S)} (hc : 2 ≤ rc ∧ 12 ≤ rs) {S : zm_S} (h : zf_X11_right_J67 N a0 i1 i2 i3 i4 i5 t0 S = some out) : zw p l e R s m args below meth c (vx_MQ below (zm_Qc zk_E V (zq_i out)) (zm_XC zk_E V (zq_x out)) args s mc ms (fun q => V.2.2.2.1 ≤ q)) 6 zk_E V mc ms 67 [(0, .ref a0), (1, .int i1), (2, .int i2), (3, .int i3), (4, .int i4), (5, .int i5)] [.int t0] S rc rs := by
  unfold zf_X11_right_J67 at h
  obtain ⟨r, g, h⟩ := zb_some h
  refine zc_S (as := [.int t0]) hX (zt_X11_needArgument hlt (d := d - 1) (by omega) g) zl_X11_100 dX11_right_67 ⟨rfl, rfl, Nat.le_of_ble_eq_true rfl⟩ ⟨by omega, by omega⟩ ⟨by omega, by omega⟩ ?_ ?_
  · rintro _ S8 ⟨⟨u7, rfl⟩, rfl⟩
    try dsimp only at h
    refine zw_aload_n hX dX11_right_70 rfl ?_
    obtain ⟨v9, g, h⟩ := zb_some h
    refine zw_geti hX zl_X11_104 dX11_right_71 g ?_
    refine zw_if_eq (tgt := 93) hX dX11_right_74 (by decide) (fun c74 => ?_) (fun c74 => ?_)
    · rw [if_pos c74] at h
      refine zw_sub (lv' := [(0, .ref a0), (1, .int i1), (2, .int i2), (3, .int i3), (4, .int i4), (5, .int i5)]) (List.forall_mem_cons.mpr ⟨rfl, (List.forall_mem_cons.mpr ⟨rfl, (List.forall_mem_cons.mpr ⟨rfl, (List.forall_mem_cons.mpr ⟨rfl, (List.forall_mem_cons.mpr ⟨rfl, (List.forall_mem_cons.mpr ⟨rfl, zs_nil⟩)⟩)⟩)⟩)⟩)⟩) ?_
      exact zt_X11_right_J93 hlt hxt hX hr hR hd ⟨by omega, by omega⟩ h
    · rw [if_neg c74] at h
      refine zw_aload_n hX dX11_right_77 rfl ?_
      obtain ⟨b15, g, h⟩ := zb_some h
      refine zw_getr hX zl_X11_53 dX11_right_78 g ?_
      obtain ⟨v16, g, h⟩ := zb_some h
      refine zw_getNi hX zl_X11_288 dX11_right_81 g ?_
      refine zw_bipush (v := (16 : Int32)) hX dX11_right_84 (by decide) ?_
      refine zw_icmp_ge (tgt := 93) hX dX11_right_86 (by decide) (fun c86 => ?_) (fun c86 => ?_)
      · rw [if_pos c86] at h
        refine zw_sub (lv' := [(0, .ref a0), (1, .int i1), (2, .int i2), (3, .int i3), (4, .int i4), (5, .int i5)]) (List.forall_mem_cons.mpr ⟨rfl, (List.forall_mem_cons.mpr ⟨rfl, (List.forall_mem_cons.mpr ⟨rfl, (List.forall_mem_cons.mpr ⟨rfl, (List.forall_mem_cons.mpr ⟨rfl, (List.forall_mem_cons.mpr ⟨rfl, zs_nil⟩)⟩)⟩)⟩)⟩)⟩) ?_
        exact zt_X11_right_J93 hlt hxt hX hr hR hd ⟨by omega, by omega⟩ h
      · rw [if_neg c86] at h
        refine zw_iconst (v := (1 : Int32)) hX dX11_right_89 (by decide) ?_
        refine zw_goto (tgt := 94) hX dX11_right_90 (by decide) ?_
        refine zw_sub (lv' := [(0, .ref a0), (1, .int i1), (2, .int i2), (3, .int i3), (4, .int i4), (5, .int i5)]) (List.forall_mem_cons.mpr ⟨rfl, (List.forall_mem_cons.mpr ⟨rfl, (List.forall_mem_cons.mpr ⟨rfl, (List.forall_mem_cons.mpr ⟨rfl, (List.forall_mem_cons.mpr ⟨rfl, (List.forall_mem_cons.mpr ⟨rfl, zs_nil⟩)⟩)⟩)⟩)⟩)⟩) ?_
        exact zt_X11_right_J94 hlt hxt hX hr hR hd ⟨by omega, by omega⟩ h
  · rintro X S9 rfl
    obtain rfl := Option.some.inj h
    exact zx_out hX hxt rfl
set_option maxHeartbeats 4000000 in
set_option maxRecDepth 100000 in
theorem zt_X11_right_J66 {p : Program} {l : Launch} {e : Env} {R : Room} {s : State} {m : MethodId} {args : Array Value} {below : List Frame} {meth : Method} {c : Code} {V : zm_V} {mc ms d rc rs : Nat} (hlt : l.stackTraces = false) (hxt : ∀ x ∈ c.exceptionTable.toList, False) (hX : zm_X p R s m args meth c RX11 "right" cX11_right 6 zk_E V mc ms) (hr : meth.sig.returnType = (some .int)) (hR : R.frames = d ∧ R.locals = 64 * d) (hd : 7 ≤ d) {N : Nat} {a0 : Nat} {i1 : Int32} {i2 : Int32} {i3 : Int32} {i4 : Int32} {i5 : Int32} {out : ((Int32 ⊕ String) × zm_S)} (hc : 2 ≤ rc ∧ 12 ≤ rs) {S : zm_S} (h : zf_X11_right_J66 N a0 i1 i2 i3 i4 i5 S = some out) : zw p l e R s m args below meth c (vx_MQ below (zm_Qc zk_E V (zq_i out)) (zm_XC zk_E V (zq_x out)) args s mc ms (fun q => V.2.2.2.1 ≤ q)) 6 zk_E V mc ms 66 [(0, .ref a0), (1, .int i1), (2, .int i2), (3, .int i3), (4, .int i4), (5, .int i5)] [] S rc rs := by
  unfold zf_X11_right_J66 at h
  refine zw_iconst (v := (0 : Int32)) hX dX11_right_66 (by decide) ?_
  refine zw_sub (lv' := [(0, .ref a0), (1, .int i1), (2, .int i2), (3, .int i3), (4, .int i4), (5, .int i5)]) (List.forall_mem_cons.mpr ⟨rfl, (List.forall_mem_cons.mpr ⟨rfl, (List.forall_mem_cons.mpr ⟨rfl, (List.forall_mem_cons.mpr ⟨rfl, (List.forall_mem_cons.mpr ⟨rfl, (List.forall_mem_cons.mpr ⟨rfl, zs_nil⟩)⟩)⟩)⟩)⟩)⟩) ?_
  exact zt_X11_right_J67 hlt hxt hX hr hR hd ⟨by omega, by omega⟩ h
set_option maxHeartbeats 4000000 in
set_option maxRecDepth 100000 in
theorem zt_X11_right_J36 {p : Program} {l : Launch} {e : Env} {R : Room} {s : State} {m : MethodId} {args : Array Value} {below : List Frame} {meth : Method} {c : Code} {V : zm_V} {mc ms d rc rs : Nat} (hlt : l.stackTraces = false) (hxt : ∀ x ∈ c.exceptionTable.toList, False) (hX : zm_X p R s m args meth c RX11 "right" cX11_right 6 zk_E V mc ms) (hr : meth.sig.returnType = (some .int)) (hR : R.frames = d ∧ R.locals = 64 * d) (hd : 7 ≤ d) {N : Nat} {a0 : Nat} {i1 : Int32} {i2 : Int32} {i3 : Int32} {i4 : Int32} {i5 : Int32} {t0 : Int32} {out : ((Int32 ⊕ String) × zm_S)} (hc : 3 ≤ rc ∧ 18 ≤ rs) {S : zm_S} (h : zf_X11_right_J36 N a0 i1 i2 i3 i4 i5 t0 S = some out) : zw p l e R s m args below meth c (vx_MQ below (zm_Qc zk_E V (zq_i out)) (zm_XC zk_E V (zq_x out)) args s mc ms (fun q => V.2.2.2.1 ≤ q)) 6 zk_E V mc ms 36 [(0, .ref a0), (1, .int i1), (2, .int i2), (3, .int i3), (4, .int i4), (5, .int i5)] [.int t0] S rc rs := by
  unfold zf_X11_right_J36 at h
  obtain ⟨r, g, h⟩ := zb_some h
  refine zc_S (as := [.int t0]) hX (zt_X11_needArgument hlt (d := d - 1) (by omega) g) zl_X11_100 dX11_right_36 ⟨rfl, rfl, Nat.le_of_ble_eq_true rfl⟩ ⟨by omega, by omega⟩ ⟨by omega, by omega⟩ ?_ ?_
  · rintro _ S4 ⟨⟨u3, rfl⟩, rfl⟩
    try dsimp only at h
    refine zw_iload_n hX dX11_right_39 rfl ?_
    refine zw_iconst (v := (0 : Int32)) hX dX11_right_40 (by decide) ?_
    refine zw_sipush (v := (1439 : Int32)) hX dX11_right_41 (by decide) ?_
    obtain ⟨r6, g, h⟩ := zb_some h
    refine zc_Si (as := [.int i3, .int (0 : Int32), .int (1439 : Int32)]) hX (zt_X11_isWithin (d := d - 1) (by omega) g) zl_X11_133 dX11_right_44 ⟨rfl, rfl, Nat.le_of_ble_eq_true rfl⟩ ⟨by omega, by omega⟩ ?_
    refine zw_if_eq (tgt := 66) hX dX11_right_47 (by decide) (fun c47 => ?_) (fun c47 => ?_)
    · rw [if_pos c47] at h
      refine zw_sub (lv' := [(0, .ref a0), (1, .int i1), (2, .int i2), (3, .int i3), (4, .int i4), (5, .int i5)]) (List.forall_mem_cons.mpr ⟨rfl, (List.forall_mem_cons.mpr ⟨rfl, (List.forall_mem_cons.mpr ⟨rfl, (List.forall_mem_cons.mpr ⟨rfl, (List.forall_mem_cons.mpr ⟨rfl, (List.forall_mem_cons.mpr ⟨rfl, zs_nil⟩)⟩)⟩)⟩)⟩)⟩) ?_
      exact zt_X11_right_J66 hlt hxt hX hr hR hd ⟨by omega, by omega⟩ h
    · rw [if_neg c47] at h
      refine zw_iload hX dX11_right_50 rfl ?_
      refine zw_iconst (v := (0 : Int32)) hX dX11_right_52 (by decide) ?_
      refine zw_sipush (v := (1439 : Int32)) hX dX11_right_53 (by decide) ?_
      obtain ⟨r18, g, h⟩ := zb_some h
      refine zc_Si (as := [.int i4, .int (0 : Int32), .int (1439 : Int32)]) hX (zt_X11_isWithin (d := d - 1) (by omega) g) zl_X11_133 dX11_right_56 ⟨rfl, rfl, Nat.le_of_ble_eq_true rfl⟩ ⟨by omega, by omega⟩ ?_
      refine zw_if_eq (tgt := 66) hX dX11_right_59 (by decide) (fun c59 => ?_) (fun c59 => ?_)
      · rw [if_pos c59] at h
        refine zw_sub (lv' := [(0, .ref a0), (1, .int i1), (2, .int i2), (3, .int i3), (4, .int i4), (5, .int i5)]) (List.forall_mem_cons.mpr ⟨rfl, (List.forall_mem_cons.mpr ⟨rfl, (List.forall_mem_cons.mpr ⟨rfl, (List.forall_mem_cons.mpr ⟨rfl, (List.forall_mem_cons.mpr ⟨rfl, (List.forall_mem_cons.mpr ⟨rfl, zs_nil⟩)⟩)⟩)⟩)⟩)⟩) ?_
        exact zt_X11_right_J66 hlt hxt hX hr hR hd ⟨by omega, by omega⟩ h
      · rw [if_neg c59] at h
        refine zw_iconst (v := (1 : Int32)) hX dX11_right_62 (by decide) ?_
        refine zw_goto (tgt := 67) hX dX11_right_63 (by decide) ?_
        refine zw_sub (lv' := [(0, .ref a0), (1, .int i1), (2, .int i2), (3, .int i3), (4, .int i4), (5, .int i5)]) (List.forall_mem_cons.mpr ⟨rfl, (List.forall_mem_cons.mpr ⟨rfl, (List.forall_mem_cons.mpr ⟨rfl, (List.forall_mem_cons.mpr ⟨rfl, (List.forall_mem_cons.mpr ⟨rfl, (List.forall_mem_cons.mpr ⟨rfl, zs_nil⟩)⟩)⟩)⟩)⟩)⟩) ?_
        exact zt_X11_right_J67 hlt hxt hX hr hR hd ⟨by omega, by omega⟩ h
  · rintro X S9 rfl
    obtain rfl := Option.some.inj h
    exact zx_out hX hxt rfl
set_option maxHeartbeats 4000000 in
set_option maxRecDepth 100000 in
theorem zt_X11_right_J35 {p : Program} {l : Launch} {e : Env} {R : Room} {s : State} {m : MethodId} {args : Array Value} {below : List Frame} {meth : Method} {c : Code} {V : zm_V} {mc ms d rc rs : Nat} (hlt : l.stackTraces = false) (hxt : ∀ x ∈ c.exceptionTable.toList, False) (hX : zm_X p R s m args meth c RX11 "right" cX11_right 6 zk_E V mc ms) (hr : meth.sig.returnType = (some .int)) (hR : R.frames = d ∧ R.locals = 64 * d) (hd : 7 ≤ d) {N : Nat} {a0 : Nat} {i1 : Int32} {i2 : Int32} {i3 : Int32} {i4 : Int32} {i5 : Int32} {out : ((Int32 ⊕ String) × zm_S)} (hc : 3 ≤ rc ∧ 18 ≤ rs) {S : zm_S} (h : zf_X11_right_J35 N a0 i1 i2 i3 i4 i5 S = some out) : zw p l e R s m args below meth c (vx_MQ below (zm_Qc zk_E V (zq_i out)) (zm_XC zk_E V (zq_x out)) args s mc ms (fun q => V.2.2.2.1 ≤ q)) 6 zk_E V mc ms 35 [(0, .ref a0), (1, .int i1), (2, .int i2), (3, .int i3), (4, .int i4), (5, .int i5)] [] S rc rs := by
  unfold zf_X11_right_J35 at h
  refine zw_iconst (v := (0 : Int32)) hX dX11_right_35 (by decide) ?_
  refine zw_sub (lv' := [(0, .ref a0), (1, .int i1), (2, .int i2), (3, .int i3), (4, .int i4), (5, .int i5)]) (List.forall_mem_cons.mpr ⟨rfl, (List.forall_mem_cons.mpr ⟨rfl, (List.forall_mem_cons.mpr ⟨rfl, (List.forall_mem_cons.mpr ⟨rfl, (List.forall_mem_cons.mpr ⟨rfl, (List.forall_mem_cons.mpr ⟨rfl, zs_nil⟩)⟩)⟩)⟩)⟩)⟩) ?_
  exact zt_X11_right_J36 hlt hxt hX hr hR hd ⟨by omega, by omega⟩ h
set_option maxHeartbeats 4000000 in
set_option maxRecDepth 100000 in
theorem zt_X11_right {l : Launch} {V : zm_V} (hlt : l.stackTraces = false) {N : Nat} {S : zm_S} {out : ((Int32 ⊕ String) × zm_S)} {d : Nat} {a0 : Nat} {i1 : Int32} {i2 : Int32} {i3 : Int32} {i4 : Int32} {i5 : Int32} (hd : 7 ≤ d) (h : zf_X11_right N a0 i1 i2 i3 i4 i5 S = some out) : zm_Met l zk_E V yX11_right (.code yX11_right cX11_right 6 (some .int)) d [.ref a0, .int i1, .int i2, .int i3, .int i4, .int i5] S 3 18 (zq_i out) (zq_x out) := by
  refine zm_of (by decide +kernel) (Nat.le_of_ble_eq_true rfl) ?_
  intro p e R s m args below meth c hRR hX hr hxt
  have hR : R.frames = d ∧ R.locals = 64 * d := by rw [hRR]; exact ⟨rfl, rfl⟩
  have hX : zm_X p R s m args meth c RX11 "right" cX11_right 6 zk_E V 3 18 := hX
  unfold zf_X11_right at h
  refine zw_sub (lv' := [(0, .ref a0), (1, .int i1), (2, .int i2), (3, .int i3), (4, .int i4), (5, .int i5)]) (List.forall_mem_cons.mpr ⟨rfl, (List.forall_mem_cons.mpr ⟨rfl, (List.forall_mem_cons.mpr ⟨rfl, (List.forall_mem_cons.mpr ⟨rfl, (List.forall_mem_cons.mpr ⟨rfl, (List.forall_mem_cons.mpr ⟨rfl, zs_nil⟩)⟩)⟩)⟩)⟩)⟩) ?_
  refine zw_iload_n hX dX11_right_0 rfl ?_
  refine zw_iconst (v := (0 : Int32)) hX dX11_right_1 (by decide) ?_
  refine zw_bipush (v := (9 : Int32)) hX dX11_right_2 (by decide) ?_
  obtain ⟨r2, g, h⟩ := zb_some h
  refine zc_Si (as := [.int i1, .int (0 : Int32), .int (9 : Int32)]) hX (zt_X11_isWithin (d := d - 1) (by omega) g) zl_X11_133 dX11_right_4 ⟨rfl, rfl, Nat.le_of_ble_eq_true rfl⟩ ⟨by omega, by omega⟩ ?_
  refine zw_if_eq (tgt := 35) hX dX11_right_7 (by decide) (fun c7 => ?_) (fun c7 => ?_)
  · rw [if_pos c7] at h
    refine zw_sub (lv' := [(0, .ref a0), (1, .int i1), (2, .int i2), (3, .int i3), (4, .int i4), (5, .int i5)]) (List.forall_mem_cons.mpr ⟨rfl, (List.forall_mem_cons.mpr ⟨rfl, (List.forall_mem_cons.mpr ⟨rfl, (List.forall_mem_cons.mpr ⟨rfl, (List.forall_mem_cons.mpr ⟨rfl, (List.forall_mem_cons.mpr ⟨rfl, zs_nil⟩)⟩)⟩)⟩)⟩)⟩) ?_
    exact zt_X11_right_J35 hlt hxt hX hr hR hd ⟨by omega, by omega⟩ h
  · rw [if_neg c7] at h
    refine zw_iload_n hX dX11_right_10 rfl ?_
    refine zw_iconst (v := (0 : Int32)) hX dX11_right_11 (by decide) ?_
    refine zw_bipush (v := (9 : Int32)) hX dX11_right_12 (by decide) ?_
    obtain ⟨r20, g, h⟩ := zb_some h
    refine zc_Si (as := [.int i2, .int (0 : Int32), .int (9 : Int32)]) hX (zt_X11_isWithin (d := d - 1) (by omega) g) zl_X11_133 dX11_right_14 ⟨rfl, rfl, Nat.le_of_ble_eq_true rfl⟩ ⟨by omega, by omega⟩ ?_
    refine zw_if_eq (tgt := 35) hX dX11_right_17 (by decide) (fun c17 => ?_) (fun c17 => ?_)
    · rw [if_pos c17] at h
      refine zw_sub (lv' := [(0, .ref a0), (1, .int i1), (2, .int i2), (3, .int i3), (4, .int i4), (5, .int i5)]) (List.forall_mem_cons.mpr ⟨rfl, (List.forall_mem_cons.mpr ⟨rfl, (List.forall_mem_cons.mpr ⟨rfl, (List.forall_mem_cons.mpr ⟨rfl, (List.forall_mem_cons.mpr ⟨rfl, (List.forall_mem_cons.mpr ⟨rfl, zs_nil⟩)⟩)⟩)⟩)⟩)⟩) ?_
      exact zt_X11_right_J35 hlt hxt hX hr hR hd ⟨by omega, by omega⟩ h
    · rw [if_neg c17] at h
      refine zw_iload hX dX11_right_20 rfl ?_
      refine zw_iconst (v := (0 : Int32)) hX dX11_right_22 (by decide) ?_
      refine zw_ldc (v := (1000000 : Int32)) hX dX11_right_23 zl_X11_237 ?_
      obtain ⟨r22, g, h⟩ := zb_some h
      refine zc_Si (as := [.int i5, .int (0 : Int32), .int (1000000 : Int32)]) hX (zt_X11_isWithin (d := d - 1) (by omega) g) zl_X11_133 dX11_right_25 ⟨rfl, rfl, Nat.le_of_ble_eq_true rfl⟩ ⟨by omega, by omega⟩ ?_
      refine zw_if_eq (tgt := 35) hX dX11_right_28 (by decide) (fun c28 => ?_) (fun c28 => ?_)
      · rw [if_pos c28] at h
        refine zw_sub (lv' := [(0, .ref a0), (1, .int i1), (2, .int i2), (3, .int i3), (4, .int i4), (5, .int i5)]) (List.forall_mem_cons.mpr ⟨rfl, (List.forall_mem_cons.mpr ⟨rfl, (List.forall_mem_cons.mpr ⟨rfl, (List.forall_mem_cons.mpr ⟨rfl, (List.forall_mem_cons.mpr ⟨rfl, (List.forall_mem_cons.mpr ⟨rfl, zs_nil⟩)⟩)⟩)⟩)⟩)⟩) ?_
        exact zt_X11_right_J35 hlt hxt hX hr hR hd ⟨by omega, by omega⟩ h
      · rw [if_neg c28] at h
        refine zw_iconst (v := (1 : Int32)) hX dX11_right_31 (by decide) ?_
        refine zw_goto (tgt := 36) hX dX11_right_32 (by decide) ?_
        refine zw_sub (lv' := [(0, .ref a0), (1, .int i1), (2, .int i2), (3, .int i3), (4, .int i4), (5, .int i5)]) (List.forall_mem_cons.mpr ⟨rfl, (List.forall_mem_cons.mpr ⟨rfl, (List.forall_mem_cons.mpr ⟨rfl, (List.forall_mem_cons.mpr ⟨rfl, (List.forall_mem_cons.mpr ⟨rfl, (List.forall_mem_cons.mpr ⟨rfl, zs_nil⟩)⟩)⟩)⟩)⟩)⟩) ?_
        exact zt_X11_right_J36 hlt hxt hX hr hR hd ⟨by omega, by omega⟩ h
set_option maxHeartbeats 4000000 in
set_option maxRecDepth 100000 in
theorem zt_X11_end_J32 {p : Program} {l : Launch} {e : Env} {R : Room} {s : State} {m : MethodId} {args : Array Value} {below : List Frame} {meth : Method} {c : Code} {V : zm_V} {mc ms d rc rs : Nat} (hlt : l.stackTraces = false) (hxt : ∀ x ∈ c.exceptionTable.toList, False) (hX : zm_X p R s m args meth c RX11 "end" cX11_end 3 zk_E V mc ms) (hr : meth.sig.returnType = (some .int)) (hR : R.frames = d ∧ R.locals = 64 * d) (hd : 7 ≤ d) {N : Nat} {a0 : Nat} {i1 : Int32} {i2 : Int32} {t0 : Int32} {out : ((Int32 ⊕ String) × zm_S)} (hc : 2 ≤ rc ∧ 12 ≤ rs) {S : zm_S} (h : zf_X11_end_J32 N a0 i1 i2 t0 S = some out) : zw p l e R s m args below meth c (vx_MQ below (zm_Qc zk_E V (zq_i out)) (zm_XC zk_E V (zq_x out)) args s mc ms (fun q => V.2.2.2.1 ≤ q)) 3 zk_E V mc ms 32 [(0, .ref a0), (1, .int i1), (2, .int i2)] [.int t0] S rc rs := by
  unfold zf_X11_end_J32 at h
  obtain ⟨r, g, h⟩ := zb_some h
  refine zc_S (as := [.int t0]) hX (zt_X11_needArgument hlt (d := d - 1) (by omega) g) zl_X11_100 dX11_end_32 ⟨rfl, rfl, Nat.le_of_ble_eq_true rfl⟩ ⟨by omega, by omega⟩ ⟨by omega, by omega⟩ ?_ ?_
  · rintro _ S6 ⟨⟨u5, rfl⟩, rfl⟩
    try dsimp only at h
    refine zw_aload_n hX dX11_end_35 rfl ?_
    obtain ⟨v7, g, h⟩ := zb_some h
    refine zw_geti hX zl_X11_104 dX11_end_36 g ?_
    obtain ⟨r, g, h⟩ := zb_some h
    refine zc_S (as := [.int v7]) hX (zt_X11_needState hlt (d := d - 1) (by omega) g) zl_X11_112 dX11_end_39 ⟨rfl, rfl, Nat.le_of_ble_eq_true rfl⟩ ⟨by omega, by omega⟩ ⟨by omega, by omega⟩ ?_ ?_
    · rintro _ S9 ⟨⟨u8, rfl⟩, rfl⟩
      try dsimp only at h
      refine zw_aload_n hX dX11_end_42 rfl ?_
      obtain ⟨b10, g, h⟩ := zb_some h
      refine zw_getr hX zl_X11_53 dX11_end_43 g ?_
      refine zw_iload_n hX dX11_end_46 rfl ?_
      refine zw_iload_n hX dX11_end_47 rfl ?_
      obtain ⟨_, gi, h⟩ := zb_some h
      obtain ⟨r12, g, h⟩ := zb_some h
      refine zc_Vi (as := [.int i1, .int i2]) hX gi (zt_X0_tellEnd (d := d - 1) (by omega) g) zl_X11_295 rfl dX11_end_48 ⟨rfl, rfl, Nat.le_of_ble_eq_true rfl⟩ ⟨by omega, by omega⟩ ?_
      obtain rfl := Option.some.inj h
      exact zw_iret hX hr dX11_end_51 rfl ⟨_, rfl, rfl⟩
    · rintro X S9 rfl
      obtain rfl := Option.some.inj h
      exact zx_out hX hxt rfl
  · rintro X S9 rfl
    obtain rfl := Option.some.inj h
    exact zx_out hX hxt rfl
set_option maxHeartbeats 4000000 in
set_option maxRecDepth 100000 in
theorem zt_X11_end_J31 {p : Program} {l : Launch} {e : Env} {R : Room} {s : State} {m : MethodId} {args : Array Value} {below : List Frame} {meth : Method} {c : Code} {V : zm_V} {mc ms d rc rs : Nat} (hlt : l.stackTraces = false) (hxt : ∀ x ∈ c.exceptionTable.toList, False) (hX : zm_X p R s m args meth c RX11 "end" cX11_end 3 zk_E V mc ms) (hr : meth.sig.returnType = (some .int)) (hR : R.frames = d ∧ R.locals = 64 * d) (hd : 7 ≤ d) {N : Nat} {a0 : Nat} {i1 : Int32} {i2 : Int32} {out : ((Int32 ⊕ String) × zm_S)} (hc : 2 ≤ rc ∧ 12 ≤ rs) {S : zm_S} (h : zf_X11_end_J31 N a0 i1 i2 S = some out) : zw p l e R s m args below meth c (vx_MQ below (zm_Qc zk_E V (zq_i out)) (zm_XC zk_E V (zq_x out)) args s mc ms (fun q => V.2.2.2.1 ≤ q)) 3 zk_E V mc ms 31 [(0, .ref a0), (1, .int i1), (2, .int i2)] [] S rc rs := by
  unfold zf_X11_end_J31 at h
  refine zw_iconst (v := (0 : Int32)) hX dX11_end_31 (by decide) ?_
  refine zw_sub (lv' := [(0, .ref a0), (1, .int i1), (2, .int i2)]) (List.forall_mem_cons.mpr ⟨rfl, (List.forall_mem_cons.mpr ⟨rfl, (List.forall_mem_cons.mpr ⟨rfl, zs_nil⟩)⟩)⟩) ?_
  exact zt_X11_end_J32 hlt hxt hX hr hR hd ⟨by omega, by omega⟩ h
set_option maxHeartbeats 4000000 in
set_option maxRecDepth 100000 in
theorem zt_X11_end {l : Launch} {V : zm_V} (hlt : l.stackTraces = false) {N : Nat} {S : zm_S} {out : ((Int32 ⊕ String) × zm_S)} {d : Nat} {a0 : Nat} {i1 : Int32} {i2 : Int32} (hd : 7 ≤ d) (h : zf_X11_end N a0 i1 i2 S = some out) : zm_Met l zk_E V yX11_end (.code yX11_end cX11_end 3 (some .int)) d [.ref a0, .int i1, .int i2] S 2 12 (zq_i out) (zq_x out) := by
  refine zm_of (by decide +kernel) (Nat.le_of_ble_eq_true rfl) ?_
  intro p e R s m args below meth c hRR hX hr hxt
  have hR : R.frames = d ∧ R.locals = 64 * d := by rw [hRR]; exact ⟨rfl, rfl⟩
  have hX : zm_X p R s m args meth c RX11 "end" cX11_end 3 zk_E V 2 12 := hX
  unfold zf_X11_end at h
  refine zw_sub (lv' := [(0, .ref a0), (1, .int i1), (2, .int i2)]) (List.forall_mem_cons.mpr ⟨rfl, (List.forall_mem_cons.mpr ⟨rfl, (List.forall_mem_cons.mpr ⟨rfl, zs_nil⟩)⟩)⟩) ?_
  refine zw_iload_n hX dX11_end_0 rfl ?_
  refine zw_iconst (v := (0 : Int32)) hX dX11_end_1 (by decide) ?_
  refine zw_aload_n hX dX11_end_2 rfl ?_
  obtain ⟨b1, g, h⟩ := zb_some h
  refine zw_getr hX zl_X11_53 dX11_end_3 g ?_
  obtain ⟨v2, g, h⟩ := zb_some h
  refine zw_getNi hX zl_X11_288 dX11_end_6 g ?_
  refine zw_iconst (v := (1 : Int32)) hX dX11_end_9 (by decide) ?_
  refine zw_isub hX dX11_end_10 ?_
  obtain ⟨r4, g, h⟩ := zb_some h
  refine zc_Si (as := [.int i1, .int (0 : Int32), .int (v2 - (1 : Int32))]) hX (zt_X11_isWithin (d := d - 1) (by omega) g) zl_X11_133 dX11_end_11 ⟨rfl, rfl, Nat.le_of_ble_eq_true rfl⟩ ⟨by omega, by omega⟩ ?_
  refine zw_if_eq (tgt := 31) hX dX11_end_14 (by decide) (fun c14 => ?_) (fun c14 => ?_)
  · rw [if_pos c14] at h
    refine zw_sub (lv' := [(0, .ref a0), (1, .int i1), (2, .int i2)]) (List.forall_mem_cons.mpr ⟨rfl, (List.forall_mem_cons.mpr ⟨rfl, (List.forall_mem_cons.mpr ⟨rfl, zs_nil⟩)⟩)⟩) ?_
    exact zt_X11_end_J31 hlt hxt hX hr hR hd ⟨by omega, by omega⟩ h
  · rw [if_neg c14] at h
    refine zw_iload_n hX dX11_end_17 rfl ?_
    refine zw_iconst (v := (0 : Int32)) hX dX11_end_18 (by decide) ?_
    refine zw_ldc (v := (1000000 : Int32)) hX dX11_end_19 zl_X11_237 ?_
    obtain ⟨r14, g, h⟩ := zb_some h
    refine zc_Si (as := [.int i2, .int (0 : Int32), .int (1000000 : Int32)]) hX (zt_X11_isWithin (d := d - 1) (by omega) g) zl_X11_133 dX11_end_21 ⟨rfl, rfl, Nat.le_of_ble_eq_true rfl⟩ ⟨by omega, by omega⟩ ?_
    refine zw_if_eq (tgt := 31) hX dX11_end_24 (by decide) (fun c24 => ?_) (fun c24 => ?_)
    · rw [if_pos c24] at h
      refine zw_sub (lv' := [(0, .ref a0), (1, .int i1), (2, .int i2)]) (List.forall_mem_cons.mpr ⟨rfl, (List.forall_mem_cons.mpr ⟨rfl, (List.forall_mem_cons.mpr ⟨rfl, zs_nil⟩)⟩)⟩) ?_
      exact zt_X11_end_J31 hlt hxt hX hr hR hd ⟨by omega, by omega⟩ h
    · rw [if_neg c24] at h
      refine zw_iconst (v := (1 : Int32)) hX dX11_end_27 (by decide) ?_
      refine zw_goto (tgt := 32) hX dX11_end_28 (by decide) ?_
      refine zw_sub (lv' := [(0, .ref a0), (1, .int i1), (2, .int i2)]) (List.forall_mem_cons.mpr ⟨rfl, (List.forall_mem_cons.mpr ⟨rfl, (List.forall_mem_cons.mpr ⟨rfl, zs_nil⟩)⟩)⟩) ?_
      exact zt_X11_end_J32 hlt hxt hX hr hR hd ⟨by omega, by omega⟩ h
set_option maxHeartbeats 4000000 in
set_option maxRecDepth 100000 in
theorem zt_X11_isCard {l : Launch} {V : zm_V} {N : Nat} {S : zm_S} {out : (Int32 × zm_S)} {d : Nat} {a0 : Nat} {i1 : Int32} (hd : 2 ≤ d) (h : zf_X11_isCard N a0 i1 S = some out) : zm_Met l zk_E V yX11_isCard (.code yX11_isCard cX11_isCard 2 (some .boolean)) d [.ref a0, .int i1] S 0 0 (zo_i out) zo_x := by
  refine zm_of (by decide +kernel) (Nat.le_of_ble_eq_true rfl) ?_
  intro p e R s m args below meth c hRR hX hr hxt
  have hR : R.frames = d ∧ R.locals = 64 * d := by rw [hRR]; exact ⟨rfl, rfl⟩
  have hX : zm_X p R s m args meth c RX11 "isCard" cX11_isCard 2 zk_E V 0 0 := hX
  unfold zf_X11_isCard at h
  refine zw_sub (lv' := [(0, .ref a0), (1, .int i1)]) (List.forall_mem_cons.mpr ⟨rfl, (List.forall_mem_cons.mpr ⟨rfl, zs_nil⟩)⟩) ?_
  refine zw_iload_n hX dX11_isCard_0 rfl ?_
  refine zw_iconst (v := (0 : Int32)) hX dX11_isCard_1 (by decide) ?_
  refine zw_aload_n hX dX11_isCard_2 rfl ?_
  obtain ⟨b1, g, h⟩ := zb_some h
  refine zw_getr hX zl_X11_53 dX11_isCard_3 g ?_
  obtain ⟨v2, g, h⟩ := zb_some h
  refine zw_getNi hX zl_X11_282 dX11_isCard_6 g ?_
  refine zw_iconst (v := (1 : Int32)) hX dX11_isCard_9 (by decide) ?_
  refine zw_isub hX dX11_isCard_10 ?_
  obtain ⟨r4, g, h⟩ := zb_some h
  refine zc_Si (as := [.int i1, .int (0 : Int32), .int (v2 - (1 : Int32))]) hX (zt_X11_isWithin (d := d - 1) (by omega) g) zl_X11_133 dX11_isCard_11 ⟨rfl, rfl, Nat.le_of_ble_eq_true rfl⟩ ⟨by omega, by omega⟩ ?_
  by_cases cz : r4.1 = 0 ∨ r4.1 = 1
  · rw [if_pos cz] at h
    obtain rfl := Option.some.inj h
    exact zw_iret hX hr dX11_isCard_14 (zn_z cz) ⟨rfl, rfl⟩
  · rw [if_neg cz] at h
    cases h
set_option maxHeartbeats 4000000 in
set_option maxRecDepth 100000 in
theorem zt_X11_lost_J23 {p : Program} {l : Launch} {e : Env} {R : Room} {s : State} {m : MethodId} {args : Array Value} {below : List Frame} {meth : Method} {c : Code} {V : zm_V} {mc ms d rc rs : Nat} (hlt : l.stackTraces = false) (hxt : ∀ x ∈ c.exceptionTable.toList, False) (hX : zm_X p R s m args meth c RX11 "lost" cX11_lost 3 zk_E V mc ms) (hr : meth.sig.returnType = (some .int)) (hR : R.frames = d ∧ R.locals = 64 * d) (hd : 7 ≤ d) {N : Nat} {a0 : Nat} {i1 : Int32} {i2 : Int32} {t0 : Int32} {out : ((Int32 ⊕ String) × zm_S)} (hc : 2 ≤ rc ∧ 12 ≤ rs) {S : zm_S} (h : zf_X11_lost_J23 N a0 i1 i2 t0 S = some out) : zw p l e R s m args below meth c (vx_MQ below (zm_Qc zk_E V (zq_i out)) (zm_XC zk_E V (zq_x out)) args s mc ms (fun q => V.2.2.2.1 ≤ q)) 3 zk_E V mc ms 23 [(0, .ref a0), (1, .int i1), (2, .int i2)] [.int t0] S rc rs := by
  unfold zf_X11_lost_J23 at h
  obtain ⟨r, g, h⟩ := zb_some h
  refine zc_S (as := [.int t0]) hX (zt_X11_needArgument hlt (d := d - 1) (by omega) g) zl_X11_100 dX11_lost_23 ⟨rfl, rfl, Nat.le_of_ble_eq_true rfl⟩ ⟨by omega, by omega⟩ ⟨by omega, by omega⟩ ?_ ?_
  · rintro _ S4 ⟨⟨u3, rfl⟩, rfl⟩
    try dsimp only at h
    refine zw_aload_n hX dX11_lost_26 rfl ?_
    obtain ⟨v5, g, h⟩ := zb_some h
    refine zw_geti hX zl_X11_104 dX11_lost_27 g ?_
    obtain ⟨r, g, h⟩ := zb_some h
    refine zc_S (as := [.int v5]) hX (zt_X11_needState hlt (d := d - 1) (by omega) g) zl_X11_112 dX11_lost_30 ⟨rfl, rfl, Nat.le_of_ble_eq_true rfl⟩ ⟨by omega, by omega⟩ ⟨by omega, by omega⟩ ?_ ?_
    · rintro _ S7 ⟨⟨u6, rfl⟩, rfl⟩
      try dsimp only at h
      refine zw_aload_n hX dX11_lost_33 rfl ?_
      obtain ⟨b8, g, h⟩ := zb_some h
      refine zw_getr hX zl_X11_53 dX11_lost_34 g ?_
      refine zw_iload_n hX dX11_lost_37 rfl ?_
      refine zw_iload_n hX dX11_lost_38 rfl ?_
      obtain ⟨_, gi, h⟩ := zb_some h
      obtain ⟨r10, g, h⟩ := zb_some h
      refine zc_Vi (as := [.int i1, .int i2]) hX gi (zt_X0_tellLost (d := d - 1) (by omega) g) zl_X11_301 rfl dX11_lost_39 ⟨rfl, rfl, Nat.le_of_ble_eq_true rfl⟩ ⟨by omega, by omega⟩ ?_
      obtain rfl := Option.some.inj h
      exact zw_iret hX hr dX11_lost_42 rfl ⟨_, rfl, rfl⟩
    · rintro X S9 rfl
      obtain rfl := Option.some.inj h
      exact zx_out hX hxt rfl
  · rintro X S9 rfl
    obtain rfl := Option.some.inj h
    exact zx_out hX hxt rfl
set_option maxHeartbeats 4000000 in
set_option maxRecDepth 100000 in
theorem zt_X11_lost_J22 {p : Program} {l : Launch} {e : Env} {R : Room} {s : State} {m : MethodId} {args : Array Value} {below : List Frame} {meth : Method} {c : Code} {V : zm_V} {mc ms d rc rs : Nat} (hlt : l.stackTraces = false) (hxt : ∀ x ∈ c.exceptionTable.toList, False) (hX : zm_X p R s m args meth c RX11 "lost" cX11_lost 3 zk_E V mc ms) (hr : meth.sig.returnType = (some .int)) (hR : R.frames = d ∧ R.locals = 64 * d) (hd : 7 ≤ d) {N : Nat} {a0 : Nat} {i1 : Int32} {i2 : Int32} {out : ((Int32 ⊕ String) × zm_S)} (hc : 2 ≤ rc ∧ 12 ≤ rs) {S : zm_S} (h : zf_X11_lost_J22 N a0 i1 i2 S = some out) : zw p l e R s m args below meth c (vx_MQ below (zm_Qc zk_E V (zq_i out)) (zm_XC zk_E V (zq_x out)) args s mc ms (fun q => V.2.2.2.1 ≤ q)) 3 zk_E V mc ms 22 [(0, .ref a0), (1, .int i1), (2, .int i2)] [] S rc rs := by
  unfold zf_X11_lost_J22 at h
  refine zw_iconst (v := (0 : Int32)) hX dX11_lost_22 (by decide) ?_
  refine zw_sub (lv' := [(0, .ref a0), (1, .int i1), (2, .int i2)]) (List.forall_mem_cons.mpr ⟨rfl, (List.forall_mem_cons.mpr ⟨rfl, (List.forall_mem_cons.mpr ⟨rfl, zs_nil⟩)⟩)⟩) ?_
  exact zt_X11_lost_J23 hlt hxt hX hr hR hd ⟨by omega, by omega⟩ h
set_option maxHeartbeats 4000000 in
set_option maxRecDepth 100000 in
theorem zt_X11_lost {l : Launch} {V : zm_V} (hlt : l.stackTraces = false) {N : Nat} {S : zm_S} {out : ((Int32 ⊕ String) × zm_S)} {d : Nat} {a0 : Nat} {i1 : Int32} {i2 : Int32} (hd : 7 ≤ d) (h : zf_X11_lost N a0 i1 i2 S = some out) : zm_Met l zk_E V yX11_lost (.code yX11_lost cX11_lost 3 (some .int)) d [.ref a0, .int i1, .int i2] S 2 12 (zq_i out) (zq_x out) := by
  refine zm_of (by decide +kernel) (Nat.le_of_ble_eq_true rfl) ?_
  intro p e R s m args below meth c hRR hX hr hxt
  have hR : R.frames = d ∧ R.locals = 64 * d := by rw [hRR]; exact ⟨rfl, rfl⟩
  have hX : zm_X p R s m args meth c RX11 "lost" cX11_lost 3 zk_E V 2 12 := hX
  unfold zf_X11_lost at h
  refine zw_sub (lv' := [(0, .ref a0), (1, .int i1), (2, .int i2)]) (List.forall_mem_cons.mpr ⟨rfl, (List.forall_mem_cons.mpr ⟨rfl, (List.forall_mem_cons.mpr ⟨rfl, zs_nil⟩)⟩)⟩) ?_
  refine zw_aload_n hX dX11_lost_0 rfl ?_
  refine zw_iload_n hX dX11_lost_1 rfl ?_
  obtain ⟨_, gi, h⟩ := zb_some h
  obtain ⟨r2, g, h⟩ := zb_some h
  refine zc_Vi (as := [.int i1]) hX gi (zt_X11_isCard (d := d - 1) (by omega) g) zl_X11_298 rfl dX11_lost_2 ⟨rfl, rfl, Nat.le_of_ble_eq_true rfl⟩ ⟨by omega, by omega⟩ ?_
  refine zw_if_eq (tgt := 22) hX dX11_lost_5 (by decide) (fun c5 => ?_) (fun c5 => ?_)
  · rw [if_pos c5] at h
    refine zw_sub (lv' := [(0, .ref a0), (1, .int i1), (2, .int i2)]) (List.forall_mem_cons.mpr ⟨rfl, (List.forall_mem_cons.mpr ⟨rfl, (List.forall_mem_cons.mpr ⟨rfl, zs_nil⟩)⟩)⟩) ?_
    exact zt_X11_lost_J22 hlt hxt hX hr hR hd ⟨by omega, by omega⟩ h
  · rw [if_neg c5] at h
    refine zw_iload_n hX dX11_lost_8 rfl ?_
    refine zw_iconst (v := (0 : Int32)) hX dX11_lost_9 (by decide) ?_
    refine zw_ldc (v := (1000000 : Int32)) hX dX11_lost_10 zl_X11_237 ?_
    obtain ⟨r12, g, h⟩ := zb_some h
    refine zc_Si (as := [.int i2, .int (0 : Int32), .int (1000000 : Int32)]) hX (zt_X11_isWithin (d := d - 1) (by omega) g) zl_X11_133 dX11_lost_12 ⟨rfl, rfl, Nat.le_of_ble_eq_true rfl⟩ ⟨by omega, by omega⟩ ?_
    refine zw_if_eq (tgt := 22) hX dX11_lost_15 (by decide) (fun c15 => ?_) (fun c15 => ?_)
    · rw [if_pos c15] at h
      refine zw_sub (lv' := [(0, .ref a0), (1, .int i1), (2, .int i2)]) (List.forall_mem_cons.mpr ⟨rfl, (List.forall_mem_cons.mpr ⟨rfl, (List.forall_mem_cons.mpr ⟨rfl, zs_nil⟩)⟩)⟩) ?_
      exact zt_X11_lost_J22 hlt hxt hX hr hR hd ⟨by omega, by omega⟩ h
    · rw [if_neg c15] at h
      refine zw_iconst (v := (1 : Int32)) hX dX11_lost_18 (by decide) ?_
      refine zw_goto (tgt := 23) hX dX11_lost_19 (by decide) ?_
      refine zw_sub (lv' := [(0, .ref a0), (1, .int i1), (2, .int i2)]) (List.forall_mem_cons.mpr ⟨rfl, (List.forall_mem_cons.mpr ⟨rfl, (List.forall_mem_cons.mpr ⟨rfl, zs_nil⟩)⟩)⟩) ?_
      exact zt_X11_lost_J23 hlt hxt hX hr hR hd ⟨by omega, by omega⟩ h
set_option maxHeartbeats 4000000 in
set_option maxRecDepth 100000 in
theorem zt_X11_two {l : Launch} {V : zm_V} (hlt : l.stackTraces = false) {N : Nat} {S : zm_S} {out : ((Int32 ⊕ String) × zm_S)} {d : Nat} {a0 : Nat} {i1 : Int32} {i2 : Int32} (hd : 7 ≤ d) (h : zf_X11_two N a0 i1 i2 S = some out) : zm_Met l zk_E V yX11_two (.code yX11_two cX11_two 3 (some .boolean)) d [.ref a0, .int i1, .int i2] S 2 12 (zq_i out) (zq_x out) := by
  refine zm_of (by decide +kernel) (Nat.le_of_ble_eq_true rfl) ?_
  intro p e R s m args below meth c hRR hX hr hxt
  have hR : R.frames = d ∧ R.locals = 64 * d := by rw [hRR]; exact ⟨rfl, rfl⟩
  have hX : zm_X p R s m args meth c RX11 "two" cX11_two 3 zk_E V 2 12 := hX
  unfold zf_X11_two at h
  refine zw_sub (lv' := [(0, .ref a0), (1, .int i1), (2, .int i2)]) (List.forall_mem_cons.mpr ⟨rfl, (List.forall_mem_cons.mpr ⟨rfl, (List.forall_mem_cons.mpr ⟨rfl, zs_nil⟩)⟩)⟩) ?_
  refine zw_aload_n hX dX11_two_0 rfl ?_
  refine zw_iload_n hX dX11_two_1 rfl ?_
  obtain ⟨_, gi, h⟩ := zb_some h
  obtain ⟨r2, g, h⟩ := zb_some h
  refine zc_Vi (as := [.int i1]) hX gi (zt_X11_isPortal (d := d - 1) (by omega) g) zl_X11_267 rfl dX11_two_2 ⟨rfl, rfl, Nat.le_of_ble_eq_true rfl⟩ ⟨by omega, by omega⟩ ?_
  obtain ⟨r, g, h⟩ := zb_some h
  refine zc_S (as := [.int r2.1]) hX (zt_X11_needArgument hlt (d := d - 1) (by omega) g) zl_X11_100 dX11_two_5 ⟨rfl, rfl, Nat.le_of_ble_eq_true rfl⟩ ⟨by omega, by omega⟩ ⟨by omega, by omega⟩ ?_ ?_
  · rintro _ S4 ⟨⟨u3, rfl⟩, rfl⟩
    try dsimp only at h
    refine zw_aload_n hX dX11_two_8 rfl ?_
    obtain ⟨v5, g, h⟩ := zb_some h
    refine zw_geti hX zl_X11_104 dX11_two_9 g ?_
    obtain ⟨r, g, h⟩ := zb_some h
    refine zc_S (as := [.int v5]) hX (zt_X11_needState hlt (d := d - 1) (by omega) g) zl_X11_112 dX11_two_12 ⟨rfl, rfl, Nat.le_of_ble_eq_true rfl⟩ ⟨by omega, by omega⟩ ⟨by omega, by omega⟩ ?_ ?_
    · rintro _ S7 ⟨⟨u6, rfl⟩, rfl⟩
      try dsimp only at h
      refine zw_aload_n hX dX11_two_15 rfl ?_
      obtain ⟨b8, g, h⟩ := zb_some h
      refine zw_getr hX zl_X11_53 dX11_two_16 g ?_
      refine zw_iload_n hX dX11_two_19 rfl ?_
      refine zw_iload_n hX dX11_two_20 rfl ?_
      obtain ⟨_, gi, h⟩ := zb_some h
      obtain ⟨r10, g, h⟩ := zb_some h
      refine zc_Vi (as := [.int i1, .int i2]) hX gi (zt_X0_setTwo (d := d - 1) (by omega) g) zl_X11_304 rfl dX11_two_21 ⟨rfl, rfl, Nat.le_of_ble_eq_true rfl⟩ ⟨by omega, by omega⟩ ?_
      by_cases cz : r10.1 = 0 ∨ r10.1 = 1
      · rw [if_pos cz] at h
        obtain rfl := Option.some.inj h
        exact zw_iret hX hr dX11_two_24 (zn_z cz) ⟨_, rfl, rfl⟩
      · rw [if_neg cz] at h
        cases h
    · rintro X S9 rfl
      obtain rfl := Option.some.inj h
      exact zx_out hX hxt rfl
  · rintro X S9 rfl
    obtain rfl := Option.some.inj h
    exact zx_out hX hxt rfl
set_option maxHeartbeats 4000000 in
set_option maxRecDepth 100000 in
theorem zt_X11_airlock_J26 {p : Program} {l : Launch} {e : Env} {R : Room} {s : State} {m : MethodId} {args : Array Value} {below : List Frame} {meth : Method} {c : Code} {V : zm_V} {mc ms d rc rs : Nat} (hlt : l.stackTraces = false) (hxt : ∀ x ∈ c.exceptionTable.toList, False) (hX : zm_X p R s m args meth c RX11 "airlock" cX11_airlock 4 zk_E V mc ms) (hr : meth.sig.returnType = (some .boolean)) (hR : R.frames = d ∧ R.locals = 64 * d) (hd : 7 ≤ d) {N : Nat} {a0 : Nat} {i1 : Int32} {i2 : Int32} {i3 : Int32} {t0 : Int32} {out : ((Int32 ⊕ String) × zm_S)} (hc : 2 ≤ rc ∧ 12 ≤ rs) {S : zm_S} (h : zf_X11_airlock_J26 N a0 i1 i2 i3 t0 S = some out) : zw p l e R s m args below meth c (vx_MQ below (zm_Qc zk_E V (zq_i out)) (zm_XC zk_E V (zq_x out)) args s mc ms (fun q => V.2.2.2.1 ≤ q)) 4 zk_E V mc ms 26 [(0, .ref a0), (1, .int i1), (2, .int i2), (3, .int i3)] [.int t0] S rc rs := by
  unfold zf_X11_airlock_J26 at h
  obtain ⟨r, g, h⟩ := zb_some h
  refine zc_S (as := [.int t0]) hX (zt_X11_needArgument hlt (d := d - 1) (by omega) g) zl_X11_100 dX11_airlock_26 ⟨rfl, rfl, Nat.le_of_ble_eq_true rfl⟩ ⟨by omega, by omega⟩ ⟨by omega, by omega⟩ ?_ ?_
  · rintro _ S4 ⟨⟨u3, rfl⟩, rfl⟩
    try dsimp only at h
    refine zw_aload_n hX dX11_airlock_29 rfl ?_
    obtain ⟨v5, g, h⟩ := zb_some h
    refine zw_geti hX zl_X11_104 dX11_airlock_30 g ?_
    obtain ⟨r, g, h⟩ := zb_some h
    refine zc_S (as := [.int v5]) hX (zt_X11_needState hlt (d := d - 1) (by omega) g) zl_X11_112 dX11_airlock_33 ⟨rfl, rfl, Nat.le_of_ble_eq_true rfl⟩ ⟨by omega, by omega⟩ ⟨by omega, by omega⟩ ?_ ?_
    · rintro _ S7 ⟨⟨u6, rfl⟩, rfl⟩
      try dsimp only at h
      refine zw_aload_n hX dX11_airlock_36 rfl ?_
      obtain ⟨b8, g, h⟩ := zb_some h
      refine zw_getr hX zl_X11_53 dX11_airlock_37 g ?_
      refine zw_iload_n hX dX11_airlock_40 rfl ?_
      refine zw_iload_n hX dX11_airlock_41 rfl ?_
      refine zw_iload_n hX dX11_airlock_42 rfl ?_
      obtain ⟨_, gi, h⟩ := zb_some h
      obtain ⟨r10, g, h⟩ := zb_some h
      refine zc_Vi (as := [.int i1, .int i2, .int i3]) hX gi (zt_X0_setAirlock (d := d - 1) (by omega) g) zl_X11_308 rfl dX11_airlock_43 ⟨rfl, rfl, Nat.le_of_ble_eq_true rfl⟩ ⟨by omega, by omega⟩ ?_
      by_cases cz : r10.1 = 0 ∨ r10.1 = 1
      · rw [if_pos cz] at h
        obtain rfl := Option.some.inj h
        exact zw_iret hX hr dX11_airlock_46 (zn_z cz) ⟨_, rfl, rfl⟩
      · rw [if_neg cz] at h
        cases h
    · rintro X S9 rfl
      obtain rfl := Option.some.inj h
      exact zx_out hX hxt rfl
  · rintro X S9 rfl
    obtain rfl := Option.some.inj h
    exact zx_out hX hxt rfl
set_option maxHeartbeats 4000000 in
set_option maxRecDepth 100000 in
theorem zt_X11_airlock_J25 {p : Program} {l : Launch} {e : Env} {R : Room} {s : State} {m : MethodId} {args : Array Value} {below : List Frame} {meth : Method} {c : Code} {V : zm_V} {mc ms d rc rs : Nat} (hlt : l.stackTraces = false) (hxt : ∀ x ∈ c.exceptionTable.toList, False) (hX : zm_X p R s m args meth c RX11 "airlock" cX11_airlock 4 zk_E V mc ms) (hr : meth.sig.returnType = (some .boolean)) (hR : R.frames = d ∧ R.locals = 64 * d) (hd : 7 ≤ d) {N : Nat} {a0 : Nat} {i1 : Int32} {i2 : Int32} {i3 : Int32} {out : ((Int32 ⊕ String) × zm_S)} (hc : 2 ≤ rc ∧ 12 ≤ rs) {S : zm_S} (h : zf_X11_airlock_J25 N a0 i1 i2 i3 S = some out) : zw p l e R s m args below meth c (vx_MQ below (zm_Qc zk_E V (zq_i out)) (zm_XC zk_E V (zq_x out)) args s mc ms (fun q => V.2.2.2.1 ≤ q)) 4 zk_E V mc ms 25 [(0, .ref a0), (1, .int i1), (2, .int i2), (3, .int i3)] [] S rc rs := by
  unfold zf_X11_airlock_J25 at h
  refine zw_iconst (v := (0 : Int32)) hX dX11_airlock_25 (by decide) ?_
  refine zw_sub (lv' := [(0, .ref a0), (1, .int i1), (2, .int i2), (3, .int i3)]) (List.forall_mem_cons.mpr ⟨rfl, (List.forall_mem_cons.mpr ⟨rfl, (List.forall_mem_cons.mpr ⟨rfl, (List.forall_mem_cons.mpr ⟨rfl, zs_nil⟩)⟩)⟩)⟩) ?_
  exact zt_X11_airlock_J26 hlt hxt hX hr hR hd ⟨by omega, by omega⟩ h
set_option maxHeartbeats 4000000 in
set_option maxRecDepth 100000 in
theorem zt_X11_airlock {l : Launch} {V : zm_V} (hlt : l.stackTraces = false) {N : Nat} {S : zm_S} {out : ((Int32 ⊕ String) × zm_S)} {d : Nat} {a0 : Nat} {i1 : Int32} {i2 : Int32} {i3 : Int32} (hd : 7 ≤ d) (h : zf_X11_airlock N a0 i1 i2 i3 S = some out) : zm_Met l zk_E V yX11_airlock (.code yX11_airlock cX11_airlock 4 (some .boolean)) d [.ref a0, .int i1, .int i2, .int i3] S 2 12 (zq_i out) (zq_x out) := by
  refine zm_of (by decide +kernel) (Nat.le_of_ble_eq_true rfl) ?_
  intro p e R s m args below meth c hRR hX hr hxt
  have hR : R.frames = d ∧ R.locals = 64 * d := by rw [hRR]; exact ⟨rfl, rfl⟩
  have hX : zm_X p R s m args meth c RX11 "airlock" cX11_airlock 4 zk_E V 2 12 := hX
  unfold zf_X11_airlock at h
  refine zw_sub (lv' := [(0, .ref a0), (1, .int i1), (2, .int i2), (3, .int i3)]) (List.forall_mem_cons.mpr ⟨rfl, (List.forall_mem_cons.mpr ⟨rfl, (List.forall_mem_cons.mpr ⟨rfl, (List.forall_mem_cons.mpr ⟨rfl, zs_nil⟩)⟩)⟩)⟩) ?_
  refine zw_aload_n hX dX11_airlock_0 rfl ?_
  refine zw_iload_n hX dX11_airlock_1 rfl ?_
  obtain ⟨_, gi, h⟩ := zb_some h
  obtain ⟨r2, g, h⟩ := zb_some h
  refine zc_Vi (as := [.int i1]) hX gi (zt_X11_isPortal (d := d - 1) (by omega) g) zl_X11_267 rfl dX11_airlock_2 ⟨rfl, rfl, Nat.le_of_ble_eq_true rfl⟩ ⟨by omega, by omega⟩ ?_
  refine zw_if_eq (tgt := 25) hX dX11_airlock_5 (by decide) (fun c5 => ?_) (fun c5 => ?_)
  · rw [if_pos c5] at h
    refine zw_sub (lv' := [(0, .ref a0), (1, .int i1), (2, .int i2), (3, .int i3)]) (List.forall_mem_cons.mpr ⟨rfl, (List.forall_mem_cons.mpr ⟨rfl, (List.forall_mem_cons.mpr ⟨rfl, (List.forall_mem_cons.mpr ⟨rfl, zs_nil⟩)⟩)⟩)⟩) ?_
    exact zt_X11_airlock_J25 hlt hxt hX hr hR hd ⟨by omega, by omega⟩ h
  · rw [if_neg c5] at h
    refine zw_aload_n hX dX11_airlock_8 rfl ?_
    refine zw_iload_n hX dX11_airlock_9 rfl ?_
    obtain ⟨_, gi, h⟩ := zb_some h
    obtain ⟨r12, g, h⟩ := zb_some h
    refine zc_Vi (as := [.int i2]) hX gi (zt_X11_isPortal (d := d - 1) (by omega) g) zl_X11_267 rfl dX11_airlock_10 ⟨rfl, rfl, Nat.le_of_ble_eq_true rfl⟩ ⟨by omega, by omega⟩ ?_
    refine zw_if_eq (tgt := 25) hX dX11_airlock_13 (by decide) (fun c13 => ?_) (fun c13 => ?_)
    · rw [if_pos c13] at h
      refine zw_sub (lv' := [(0, .ref a0), (1, .int i1), (2, .int i2), (3, .int i3)]) (List.forall_mem_cons.mpr ⟨rfl, (List.forall_mem_cons.mpr ⟨rfl, (List.forall_mem_cons.mpr ⟨rfl, (List.forall_mem_cons.mpr ⟨rfl, zs_nil⟩)⟩)⟩)⟩) ?_
      exact zt_X11_airlock_J25 hlt hxt hX hr hR hd ⟨by omega, by omega⟩ h
    · rw [if_neg c13] at h
      refine zw_iload_n hX dX11_airlock_16 rfl ?_
      refine zw_iload_n hX dX11_airlock_17 rfl ?_
      refine zw_icmp_eq (tgt := 25) hX dX11_airlock_18 (by decide) (fun c18 => ?_) (fun c18 => ?_)
      · rw [if_pos c18] at h
        refine zw_sub (lv' := [(0, .ref a0), (1, .int i1), (2, .int i2), (3, .int i3)]) (List.forall_mem_cons.mpr ⟨rfl, (List.forall_mem_cons.mpr ⟨rfl, (List.forall_mem_cons.mpr ⟨rfl, (List.forall_mem_cons.mpr ⟨rfl, zs_nil⟩)⟩)⟩)⟩) ?_
        exact zt_X11_airlock_J25 hlt hxt hX hr hR hd ⟨by omega, by omega⟩ h
      · rw [if_neg c18] at h
        refine zw_iconst (v := (1 : Int32)) hX dX11_airlock_21 (by decide) ?_
        refine zw_goto (tgt := 26) hX dX11_airlock_22 (by decide) ?_
        refine zw_sub (lv' := [(0, .ref a0), (1, .int i1), (2, .int i2), (3, .int i3)]) (List.forall_mem_cons.mpr ⟨rfl, (List.forall_mem_cons.mpr ⟨rfl, (List.forall_mem_cons.mpr ⟨rfl, (List.forall_mem_cons.mpr ⟨rfl, zs_nil⟩)⟩)⟩)⟩) ?_
        exact zt_X11_airlock_J26 hlt hxt hX hr hR hd ⟨by omega, by omega⟩ h
set_option maxHeartbeats 4000000 in
set_option maxRecDepth 100000 in
theorem zt_X11_stands {l : Launch} {V : zm_V} (hlt : l.stackTraces = false) {N : Nat} {S : zm_S} {out : ((Int32 ⊕ String) × zm_S)} {d : Nat} {a0 : Nat} {i1 : Int32} {i2 : Int32} (hd : 7 ≤ d) (h : zf_X11_stands N a0 i1 i2 S = some out) : zm_Met l zk_E V yX11_stands (.code yX11_stands cX11_stands 3 (some .int)) d [.ref a0, .int i1, .int i2] S 2 12 (zq_i out) (zq_x out) := by
  refine zm_of (by decide +kernel) (Nat.le_of_ble_eq_true rfl) ?_
  intro p e R s m args below meth c hRR hX hr hxt
  have hR : R.frames = d ∧ R.locals = 64 * d := by rw [hRR]; exact ⟨rfl, rfl⟩
  have hX : zm_X p R s m args meth c RX11 "stands" cX11_stands 3 zk_E V 2 12 := hX
  unfold zf_X11_stands at h
  refine zw_sub (lv' := [(0, .ref a0), (1, .int i1), (2, .int i2)]) (List.forall_mem_cons.mpr ⟨rfl, (List.forall_mem_cons.mpr ⟨rfl, (List.forall_mem_cons.mpr ⟨rfl, zs_nil⟩)⟩)⟩) ?_
  refine zw_aload_n hX dX11_stands_0 rfl ?_
  refine zw_iload_n hX dX11_stands_1 rfl ?_
  obtain ⟨_, gi, h⟩ := zb_some h
  obtain ⟨r2, g, h⟩ := zb_some h
  refine zc_Vi (as := [.int i1]) hX gi (zt_X11_isPortal (d := d - 1) (by omega) g) zl_X11_267 rfl dX11_stands_2 ⟨rfl, rfl, Nat.le_of_ble_eq_true rfl⟩ ⟨by omega, by omega⟩ ?_
  obtain ⟨r, g, h⟩ := zb_some h
  refine zc_S (as := [.int r2.1]) hX (zt_X11_needArgument hlt (d := d - 1) (by omega) g) zl_X11_100 dX11_stands_5 ⟨rfl, rfl, Nat.le_of_ble_eq_true rfl⟩ ⟨by omega, by omega⟩ ⟨by omega, by omega⟩ ?_ ?_
  · rintro _ S4 ⟨⟨u3, rfl⟩, rfl⟩
    try dsimp only at h
    refine zw_aload_n hX dX11_stands_8 rfl ?_
    obtain ⟨v5, g, h⟩ := zb_some h
    refine zw_geti hX zl_X11_104 dX11_stands_9 g ?_
    obtain ⟨r, g, h⟩ := zb_some h
    refine zc_S (as := [.int v5]) hX (zt_X11_needState hlt (d := d - 1) (by omega) g) zl_X11_112 dX11_stands_12 ⟨rfl, rfl, Nat.le_of_ble_eq_true rfl⟩ ⟨by omega, by omega⟩ ⟨by omega, by omega⟩ ?_ ?_
    · rintro _ S7 ⟨⟨u6, rfl⟩, rfl⟩
      try dsimp only at h
      refine zw_aload_n hX dX11_stands_15 rfl ?_
      obtain ⟨b8, g, h⟩ := zb_some h
      refine zw_getr hX zl_X11_53 dX11_stands_16 g ?_
      refine zw_iload_n hX dX11_stands_19 rfl ?_
      refine zw_iload_n hX dX11_stands_20 rfl ?_
      refine zw_aload_n hX dX11_stands_21 rfl ?_
      obtain ⟨v9, g, h⟩ := zb_some h
      refine zw_geti hX zl_X11_312 dX11_stands_22 g ?_
      obtain ⟨_, gi, h⟩ := zb_some h
      obtain ⟨r11, g, h⟩ := zb_some h
      refine zc_Vi (as := [.int i1, .int i2, .int v9]) hX gi (zt_X0_setOpen (d := d - 1) (by omega) g) zl_X11_315 rfl dX11_stands_25 ⟨rfl, rfl, Nat.le_of_ble_eq_true rfl⟩ ⟨by omega, by omega⟩ ?_
      obtain rfl := Option.some.inj h
      exact zw_iret hX hr dX11_stands_28 rfl ⟨_, rfl, rfl⟩
    · rintro X S9 rfl
      obtain rfl := Option.some.inj h
      exact zx_out hX hxt rfl
  · rintro X S9 rfl
    obtain rfl := Option.some.inj h
    exact zx_out hX hxt rfl
set_option maxHeartbeats 4000000 in
set_option maxRecDepth 100000 in
theorem zt_X11_off {l : Launch} {V : zm_V} (hlt : l.stackTraces = false) {N : Nat} {S : zm_S} {out : ((Int32 ⊕ String) × zm_S)} {d : Nat} {a0 : Nat} {i1 : Int32} {i2 : Int32} (hd : 7 ≤ d) (h : zf_X11_off N a0 i1 i2 S = some out) : zm_Met l zk_E V yX11_off (.code yX11_off cX11_off 3 (some .int)) d [.ref a0, .int i1, .int i2] S 2 12 (zq_i out) (zq_x out) := by
  refine zm_of (by decide +kernel) (Nat.le_of_ble_eq_true rfl) ?_
  intro p e R s m args below meth c hRR hX hr hxt
  have hR : R.frames = d ∧ R.locals = 64 * d := by rw [hRR]; exact ⟨rfl, rfl⟩
  have hX : zm_X p R s m args meth c RX11 "off" cX11_off 3 zk_E V 2 12 := hX
  unfold zf_X11_off at h
  refine zw_sub (lv' := [(0, .ref a0), (1, .int i1), (2, .int i2)]) (List.forall_mem_cons.mpr ⟨rfl, (List.forall_mem_cons.mpr ⟨rfl, (List.forall_mem_cons.mpr ⟨rfl, zs_nil⟩)⟩)⟩) ?_
  refine zw_aload_n hX dX11_off_0 rfl ?_
  refine zw_iload_n hX dX11_off_1 rfl ?_
  obtain ⟨_, gi, h⟩ := zb_some h
  obtain ⟨r2, g, h⟩ := zb_some h
  refine zc_Vi (as := [.int i1]) hX gi (zt_X11_isPortal (d := d - 1) (by omega) g) zl_X11_267 rfl dX11_off_2 ⟨rfl, rfl, Nat.le_of_ble_eq_true rfl⟩ ⟨by omega, by omega⟩ ?_
  obtain ⟨r, g, h⟩ := zb_some h
  refine zc_S (as := [.int r2.1]) hX (zt_X11_needArgument hlt (d := d - 1) (by omega) g) zl_X11_100 dX11_off_5 ⟨rfl, rfl, Nat.le_of_ble_eq_true rfl⟩ ⟨by omega, by omega⟩ ⟨by omega, by omega⟩ ?_ ?_
  · rintro _ S4 ⟨⟨u3, rfl⟩, rfl⟩
    try dsimp only at h
    refine zw_aload_n hX dX11_off_8 rfl ?_
    obtain ⟨v5, g, h⟩ := zb_some h
    refine zw_geti hX zl_X11_104 dX11_off_9 g ?_
    obtain ⟨r, g, h⟩ := zb_some h
    refine zc_S (as := [.int v5]) hX (zt_X11_needState hlt (d := d - 1) (by omega) g) zl_X11_112 dX11_off_12 ⟨rfl, rfl, Nat.le_of_ble_eq_true rfl⟩ ⟨by omega, by omega⟩ ⟨by omega, by omega⟩ ?_ ?_
    · rintro _ S7 ⟨⟨u6, rfl⟩, rfl⟩
      try dsimp only at h
      refine zw_iload_n hX dX11_off_15 rfl ?_
      refine zw_if_eq (tgt := 30) hX dX11_off_16 (by decide) (fun c16 => ?_) (fun c16 => ?_)
      · rw [if_pos c16] at h
        refine zw_aload_n hX dX11_off_30 rfl ?_
        obtain ⟨b8, g, h⟩ := zb_some h
        refine zw_getr hX zl_X11_53 dX11_off_31 g ?_
        refine zw_iload_n hX dX11_off_34 rfl ?_
        refine zw_aload_n hX dX11_off_35 rfl ?_
        obtain ⟨v9, g, h⟩ := zb_some h
        refine zw_geti hX zl_X11_312 dX11_off_36 g ?_
        obtain ⟨_, gi, h⟩ := zb_some h
        obtain ⟨r11, g, h⟩ := zb_some h
        refine zc_Vi (as := [.int i1, .int v9]) hX gi (zt_X0_joinAgain (d := d - 1) (by omega) g) zl_X11_322 rfl dX11_off_39 ⟨rfl, rfl, Nat.le_of_ble_eq_true rfl⟩ ⟨by omega, by omega⟩ ?_
        obtain rfl := Option.some.inj h
        exact zw_iret hX hr dX11_off_42 rfl ⟨_, rfl, rfl⟩
      · rw [if_neg c16] at h
        refine zw_aload_n hX dX11_off_19 rfl ?_
        obtain ⟨b12, g, h⟩ := zb_some h
        refine zw_getr hX zl_X11_53 dX11_off_20 g ?_
        refine zw_iload_n hX dX11_off_23 rfl ?_
        obtain ⟨_, gi, h⟩ := zb_some h
        obtain ⟨r14, g, h⟩ := zb_some h
        refine zc_Vi (as := [.int i1]) hX gi (zt_X0_goOff (d := d - 1) (by omega) g) zl_X11_319 rfl dX11_off_24 ⟨rfl, rfl, Nat.le_of_ble_eq_true rfl⟩ ⟨by omega, by omega⟩ ?_
        refine zw_goto (tgt := 42) hX dX11_off_27 (by decide) ?_
        obtain rfl := Option.some.inj h
        exact zw_iret hX hr dX11_off_42 rfl ⟨_, rfl, rfl⟩
    · rintro X S9 rfl
      obtain rfl := Option.some.inj h
      exact zx_out hX hxt rfl
  · rintro X S9 rfl
    obtain rfl := Option.some.inj h
    exact zx_out hX hxt rfl
set_option maxHeartbeats 4000000 in
set_option maxRecDepth 100000 in
theorem zt_X11_isReleased {l : Launch} {V : zm_V} {N : Nat} {S : zm_S} {out : (Int32 × zm_S)} {d : Nat} {a0 : Nat} (hd : 2 ≤ d) (h : zf_X11_isReleased N a0 S = some out) : zm_Met l zk_E V yX11_isReleased (.code yX11_isReleased cX11_isReleased 1 (some .boolean)) d [.ref a0] S 0 0 (zo_i out) zo_x := by
  refine zm_of (by decide +kernel) (Nat.le_of_ble_eq_true rfl) ?_
  intro p e R s m args below meth c hRR hX hr hxt
  have hR : R.frames = d ∧ R.locals = 64 * d := by rw [hRR]; exact ⟨rfl, rfl⟩
  have hX : zm_X p R s m args meth c RX11 "isReleased" cX11_isReleased 1 zk_E V 0 0 := hX
  unfold zf_X11_isReleased at h
  refine zw_sub (lv' := [(0, .ref a0)]) (List.forall_mem_cons.mpr ⟨rfl, zs_nil⟩) ?_
  refine zw_aload_n hX dX11_isReleased_0 rfl ?_
  obtain ⟨b1, g, h⟩ := zb_some h
  refine zw_getr hX zl_X11_85 dX11_isReleased_1 g ?_
  refine zw_iconst (v := (0 : Int32)) hX dX11_isReleased_4 (by decide) ?_
  obtain ⟨_, gi, h⟩ := zb_some h
  obtain ⟨r3, g, h⟩ := zb_some h
  refine zc_Vi (as := [.int (0 : Int32)]) hX gi (zt_X4_isKindDone (d := d - 1) (by omega) g) zl_X11_617 rfl dX11_isReleased_5 ⟨rfl, rfl, Nat.le_of_ble_eq_true rfl⟩ ⟨by omega, by omega⟩ ?_
  by_cases cz : r3.1 = 0 ∨ r3.1 = 1
  · rw [if_pos cz] at h
    obtain rfl := Option.some.inj h
    exact zw_iret hX hr dX11_isReleased_8 (zn_z cz) ⟨rfl, rfl⟩
  · rw [if_neg cz] at h
    cases h
set_option maxHeartbeats 4000000 in
set_option maxRecDepth 100000 in
theorem zt_X11_ask_J60 {p : Program} {l : Launch} {e : Env} {R : Room} {s : State} {m : MethodId} {args : Array Value} {below : List Frame} {meth : Method} {c : Code} {V : zm_V} {mc ms d rc rs : Nat} (hlt : l.stackTraces = false) (hxt : ∀ x ∈ c.exceptionTable.toList, False) (hX : zm_X p R s m args meth c RX11 "ask" cX11_ask 4 zk_E V mc ms) (hr : meth.sig.returnType = (some .int)) (hR : R.frames = d ∧ R.locals = 64 * d) (hd : 7 ≤ d) {N : Nat} {a0 : Nat} {i1 : Int32} {i2 : Int32} {i3 : Int32} {t0 : Int32} {out : ((Int32 ⊕ String) × zm_S)} (hc : 1 ≤ rc ∧ 6 ≤ rs) {S : zm_S} (h : zf_X11_ask_J60 N a0 i1 i2 i3 t0 S = some out) : zw p l e R s m args below meth c (vx_MQ below (zm_Qc zk_E V (zq_i out)) (zm_XC zk_E V (zq_x out)) args s mc ms (fun q => V.2.2.2.1 ≤ q)) 4 zk_E V mc ms 60 [(0, .ref a0), (1, .int i1), (2, .int i2), (3, .int i3)] [.int t0] S rc rs := by
  unfold zf_X11_ask_J60 at h
  obtain ⟨r, g, h⟩ := zb_some h
  refine zc_S (as := [.int t0]) hX (zt_X11_needState hlt (d := d - 1) (by omega) g) zl_X11_112 dX11_ask_60 ⟨rfl, rfl, Nat.le_of_ble_eq_true rfl⟩ ⟨by omega, by omega⟩ ⟨by omega, by omega⟩ ?_ ?_
  · rintro _ S7 ⟨⟨u6, rfl⟩, rfl⟩
    try dsimp only at h
    refine zw_aload_n hX dX11_ask_63 rfl ?_
    obtain ⟨b8, g, h⟩ := zb_some h
    refine zw_getr hX zl_X11_53 dX11_ask_64 g ?_
    refine zw_aload_n hX dX11_ask_67 rfl ?_
    obtain ⟨v9, g, h⟩ := zb_some h
    refine zw_geti hX zl_X11_312 dX11_ask_68 g ?_
    refine zw_aload_n hX dX11_ask_71 rfl ?_
    obtain ⟨_, gi, h⟩ := zb_some h
    obtain ⟨r11, g, h⟩ := zb_some h
    refine zc_Vi (as := []) hX gi (zt_X11_isReleased (d := d - 1) (by omega) g) zl_X11_331 rfl dX11_ask_72 ⟨rfl, rfl, Nat.le_of_ble_eq_true rfl⟩ ⟨by omega, by omega⟩ ?_
    obtain ⟨_, gi, h⟩ := zb_some h
    obtain ⟨r13, g, h⟩ := zb_some h
    refine zc_Vv (as := [.int v9, .int r11.1]) hX gi (zt_X0_setMoment (d := d - 1) (by omega) g) zl_X11_334 rfl dX11_ask_75 ⟨rfl, rfl, Nat.le_of_ble_eq_true rfl⟩ ⟨by omega, by omega⟩ ?_
    refine zw_aload_n hX dX11_ask_78 rfl ?_
    obtain ⟨b14, g, h⟩ := zb_some h
    refine zw_getr hX zl_X11_53 dX11_ask_79 g ?_
    refine zw_iload_n hX dX11_ask_82 rfl ?_
    refine zw_iload_n hX dX11_ask_83 rfl ?_
    refine zw_iload_n hX dX11_ask_84 rfl ?_
    obtain ⟨_, gi, h⟩ := zb_some h
    obtain ⟨r16, g, h⟩ := zb_some h
    refine zc_Vi (as := [.int i1, .int i2, .int i3]) hX gi (zt_X0_askOne (d := d - 1) (by omega) g) zl_X11_338 rfl dX11_ask_85 ⟨rfl, rfl, Nat.le_of_ble_eq_true rfl⟩ ⟨by omega, by omega⟩ ?_
    obtain rfl := Option.some.inj h
    exact zw_iret hX hr dX11_ask_88 rfl ⟨_, rfl, rfl⟩
  · rintro X S9 rfl
    obtain rfl := Option.some.inj h
    exact zx_out hX hxt rfl
set_option maxHeartbeats 4000000 in
set_option maxRecDepth 100000 in
theorem zt_X11_ask_J59 {p : Program} {l : Launch} {e : Env} {R : Room} {s : State} {m : MethodId} {args : Array Value} {below : List Frame} {meth : Method} {c : Code} {V : zm_V} {mc ms d rc rs : Nat} (hlt : l.stackTraces = false) (hxt : ∀ x ∈ c.exceptionTable.toList, False) (hX : zm_X p R s m args meth c RX11 "ask" cX11_ask 4 zk_E V mc ms) (hr : meth.sig.returnType = (some .int)) (hR : R.frames = d ∧ R.locals = 64 * d) (hd : 7 ≤ d) {N : Nat} {a0 : Nat} {i1 : Int32} {i2 : Int32} {i3 : Int32} {out : ((Int32 ⊕ String) × zm_S)} (hc : 1 ≤ rc ∧ 6 ≤ rs) {S : zm_S} (h : zf_X11_ask_J59 N a0 i1 i2 i3 S = some out) : zw p l e R s m args below meth c (vx_MQ below (zm_Qc zk_E V (zq_i out)) (zm_XC zk_E V (zq_x out)) args s mc ms (fun q => V.2.2.2.1 ≤ q)) 4 zk_E V mc ms 59 [(0, .ref a0), (1, .int i1), (2, .int i2), (3, .int i3)] [] S rc rs := by
  unfold zf_X11_ask_J59 at h
  refine zw_iconst (v := (0 : Int32)) hX dX11_ask_59 (by decide) ?_
  refine zw_sub (lv' := [(0, .ref a0), (1, .int i1), (2, .int i2), (3, .int i3)]) (List.forall_mem_cons.mpr ⟨rfl, (List.forall_mem_cons.mpr ⟨rfl, (List.forall_mem_cons.mpr ⟨rfl, (List.forall_mem_cons.mpr ⟨rfl, zs_nil⟩)⟩)⟩)⟩) ?_
  exact zt_X11_ask_J60 hlt hxt hX hr hR hd ⟨by omega, by omega⟩ h
set_option maxHeartbeats 4000000 in
set_option maxRecDepth 100000 in
theorem zt_X11_ask_J33 {p : Program} {l : Launch} {e : Env} {R : Room} {s : State} {m : MethodId} {args : Array Value} {below : List Frame} {meth : Method} {c : Code} {V : zm_V} {mc ms d rc rs : Nat} (hlt : l.stackTraces = false) (hxt : ∀ x ∈ c.exceptionTable.toList, False) (hX : zm_X p R s m args meth c RX11 "ask" cX11_ask 4 zk_E V mc ms) (hr : meth.sig.returnType = (some .int)) (hR : R.frames = d ∧ R.locals = 64 * d) (hd : 7 ≤ d) {N : Nat} {a0 : Nat} {i1 : Int32} {i2 : Int32} {i3 : Int32} {t0 : Int32} {out : ((Int32 ⊕ String) × zm_S)} (hc : 2 ≤ rc ∧ 12 ≤ rs) {S : zm_S} (h : zf_X11_ask_J33 N a0 i1 i2 i3 t0 S = some out) : zw p l e R s m args below meth c (vx_MQ below (zm_Qc zk_E V (zq_i out)) (zm_XC zk_E V (zq_x out)) args s mc ms (fun q => V.2.2.2.1 ≤ q)) 4 zk_E V mc ms 33 [(0, .ref a0), (1, .int i1), (2, .int i2), (3, .int i3)] [.int t0] S rc rs := by
  unfold zf_X11_ask_J33 at h
  obtain ⟨r, g, h⟩ := zb_some h
  refine zc_S (as := [.int t0]) hX (zt_X11_needArgument hlt (d := d - 1) (by omega) g) zl_X11_100 dX11_ask_33 ⟨rfl, rfl, Nat.le_of_ble_eq_true rfl⟩ ⟨by omega, by omega⟩ ⟨by omega, by omega⟩ ?_ ?_
  · rintro _ S4 ⟨⟨u3, rfl⟩, rfl⟩
    try dsimp only at h
    refine zw_aload_n hX dX11_ask_36 rfl ?_
    obtain ⟨v5, g, h⟩ := zb_some h
    refine zw_geti hX zl_X11_104 dX11_ask_37 g ?_
    refine zw_if_eq (tgt := 59) hX dX11_ask_40 (by decide) (fun c40 => ?_) (fun c40 => ?_)
    · rw [if_pos c40] at h
      refine zw_sub (lv' := [(0, .ref a0), (1, .int i1), (2, .int i2), (3, .int i3)]) (List.forall_mem_cons.mpr ⟨rfl, (List.forall_mem_cons.mpr ⟨rfl, (List.forall_mem_cons.mpr ⟨rfl, (List.forall_mem_cons.mpr ⟨rfl, zs_nil⟩)⟩)⟩)⟩) ?_
      exact zt_X11_ask_J59 hlt hxt hX hr hR hd ⟨by omega, by omega⟩ h
    · rw [if_neg c40] at h
      refine zw_aload_n hX dX11_ask_43 rfl ?_
      obtain ⟨b17, g, h⟩ := zb_some h
      refine zw_getr hX zl_X11_53 dX11_ask_44 g ?_
      refine zw_iload_n hX dX11_ask_47 rfl ?_
      refine zw_iconst (v := (1 : Int32)) hX dX11_ask_48 (by decide) ?_
      obtain ⟨_, gi, h⟩ := zb_some h
      obtain ⟨r19, g, h⟩ := zb_some h
      refine zc_Vi (as := [.int i2, .int (1 : Int32)]) hX gi (zt_X0_hasRoomForRows (d := d - 1) (by omega) g) zl_X11_328 rfl dX11_ask_49 ⟨rfl, rfl, Nat.le_of_ble_eq_true rfl⟩ ⟨by omega, by omega⟩ ?_
      refine zw_if_eq (tgt := 59) hX dX11_ask_52 (by decide) (fun c52 => ?_) (fun c52 => ?_)
      · rw [if_pos c52] at h
        refine zw_sub (lv' := [(0, .ref a0), (1, .int i1), (2, .int i2), (3, .int i3)]) (List.forall_mem_cons.mpr ⟨rfl, (List.forall_mem_cons.mpr ⟨rfl, (List.forall_mem_cons.mpr ⟨rfl, (List.forall_mem_cons.mpr ⟨rfl, zs_nil⟩)⟩)⟩)⟩) ?_
        exact zt_X11_ask_J59 hlt hxt hX hr hR hd ⟨by omega, by omega⟩ h
      · rw [if_neg c52] at h
        refine zw_iconst (v := (1 : Int32)) hX dX11_ask_55 (by decide) ?_
        refine zw_goto (tgt := 60) hX dX11_ask_56 (by decide) ?_
        refine zw_sub (lv' := [(0, .ref a0), (1, .int i1), (2, .int i2), (3, .int i3)]) (List.forall_mem_cons.mpr ⟨rfl, (List.forall_mem_cons.mpr ⟨rfl, (List.forall_mem_cons.mpr ⟨rfl, (List.forall_mem_cons.mpr ⟨rfl, zs_nil⟩)⟩)⟩)⟩) ?_
        exact zt_X11_ask_J60 hlt hxt hX hr hR hd ⟨by omega, by omega⟩ h
  · rintro X S9 rfl
    obtain rfl := Option.some.inj h
    exact zx_out hX hxt rfl
set_option maxHeartbeats 4000000 in
set_option maxRecDepth 100000 in
theorem zt_X11_ask_J32 {p : Program} {l : Launch} {e : Env} {R : Room} {s : State} {m : MethodId} {args : Array Value} {below : List Frame} {meth : Method} {c : Code} {V : zm_V} {mc ms d rc rs : Nat} (hlt : l.stackTraces = false) (hxt : ∀ x ∈ c.exceptionTable.toList, False) (hX : zm_X p R s m args meth c RX11 "ask" cX11_ask 4 zk_E V mc ms) (hr : meth.sig.returnType = (some .int)) (hR : R.frames = d ∧ R.locals = 64 * d) (hd : 7 ≤ d) {N : Nat} {a0 : Nat} {i1 : Int32} {i2 : Int32} {i3 : Int32} {out : ((Int32 ⊕ String) × zm_S)} (hc : 2 ≤ rc ∧ 12 ≤ rs) {S : zm_S} (h : zf_X11_ask_J32 N a0 i1 i2 i3 S = some out) : zw p l e R s m args below meth c (vx_MQ below (zm_Qc zk_E V (zq_i out)) (zm_XC zk_E V (zq_x out)) args s mc ms (fun q => V.2.2.2.1 ≤ q)) 4 zk_E V mc ms 32 [(0, .ref a0), (1, .int i1), (2, .int i2), (3, .int i3)] [] S rc rs := by
  unfold zf_X11_ask_J32 at h
  refine zw_iconst (v := (0 : Int32)) hX dX11_ask_32 (by decide) ?_
  refine zw_sub (lv' := [(0, .ref a0), (1, .int i1), (2, .int i2), (3, .int i3)]) (List.forall_mem_cons.mpr ⟨rfl, (List.forall_mem_cons.mpr ⟨rfl, (List.forall_mem_cons.mpr ⟨rfl, (List.forall_mem_cons.mpr ⟨rfl, zs_nil⟩)⟩)⟩)⟩) ?_
  exact zt_X11_ask_J33 hlt hxt hX hr hR hd ⟨by omega, by omega⟩ h
set_option maxHeartbeats 4000000 in
set_option maxRecDepth 100000 in
theorem zt_X11_ask {l : Launch} {V : zm_V} (hlt : l.stackTraces = false) {N : Nat} {S : zm_S} {out : ((Int32 ⊕ String) × zm_S)} {d : Nat} {a0 : Nat} {i1 : Int32} {i2 : Int32} {i3 : Int32} (hd : 7 ≤ d) (h : zf_X11_ask N a0 i1 i2 i3 S = some out) : zm_Met l zk_E V yX11_ask (.code yX11_ask cX11_ask 4 (some .int)) d [.ref a0, .int i1, .int i2, .int i3] S 2 12 (zq_i out) (zq_x out) := by
  refine zm_of (by decide +kernel) (Nat.le_of_ble_eq_true rfl) ?_
  intro p e R s m args below meth c hRR hX hr hxt
  have hR : R.frames = d ∧ R.locals = 64 * d := by rw [hRR]; exact ⟨rfl, rfl⟩
  have hX : zm_X p R s m args meth c RX11 "ask" cX11_ask 4 zk_E V 2 12 := hX
  unfold zf_X11_ask at h
  refine zw_sub (lv' := [(0, .ref a0), (1, .int i1), (2, .int i2), (3, .int i3)]) (List.forall_mem_cons.mpr ⟨rfl, (List.forall_mem_cons.mpr ⟨rfl, (List.forall_mem_cons.mpr ⟨rfl, (List.forall_mem_cons.mpr ⟨rfl, zs_nil⟩)⟩)⟩)⟩) ?_
  refine zw_aload_n hX dX11_ask_0 rfl ?_
  refine zw_iload_n hX dX11_ask_1 rfl ?_
  obtain ⟨_, gi, h⟩ := zb_some h
  obtain ⟨r2, g, h⟩ := zb_some h
  refine zc_Vi (as := [.int i1]) hX gi (zt_X11_isCard (d := d - 1) (by omega) g) zl_X11_298 rfl dX11_ask_2 ⟨rfl, rfl, Nat.le_of_ble_eq_true rfl⟩ ⟨by omega, by omega⟩ ?_
  refine zw_if_eq (tgt := 32) hX dX11_ask_5 (by decide) (fun c5 => ?_) (fun c5 => ?_)
  · rw [if_pos c5] at h
    refine zw_sub (lv' := [(0, .ref a0), (1, .int i1), (2, .int i2), (3, .int i3)]) (List.forall_mem_cons.mpr ⟨rfl, (List.forall_mem_cons.mpr ⟨rfl, (List.forall_mem_cons.mpr ⟨rfl, (List.forall_mem_cons.mpr ⟨rfl, zs_nil⟩)⟩)⟩)⟩) ?_
    exact zt_X11_ask_J32 hlt hxt hX hr hR hd ⟨by omega, by omega⟩ h
  · rw [if_neg c5] at h
    refine zw_aload_n hX dX11_ask_8 rfl ?_
    refine zw_iload_n hX dX11_ask_9 rfl ?_
    obtain ⟨_, gi, h⟩ := zb_some h
    obtain ⟨r21, g, h⟩ := zb_some h
    refine zc_Vi (as := [.int i2]) hX gi (zt_X11_isPortal (d := d - 1) (by omega) g) zl_X11_267 rfl dX11_ask_10 ⟨rfl, rfl, Nat.le_of_ble_eq_true rfl⟩ ⟨by omega, by omega⟩ ?_
    refine zw_if_eq (tgt := 32) hX dX11_ask_13 (by decide) (fun c13 => ?_) (fun c13 => ?_)
    · rw [if_pos c13] at h
      refine zw_sub (lv' := [(0, .ref a0), (1, .int i1), (2, .int i2), (3, .int i3)]) (List.forall_mem_cons.mpr ⟨rfl, (List.forall_mem_cons.mpr ⟨rfl, (List.forall_mem_cons.mpr ⟨rfl, (List.forall_mem_cons.mpr ⟨rfl, zs_nil⟩)⟩)⟩)⟩) ?_
      exact zt_X11_ask_J32 hlt hxt hX hr hR hd ⟨by omega, by omega⟩ h
    · rw [if_neg c13] at h
      refine zw_aload_n hX dX11_ask_16 rfl ?_
      obtain ⟨b22, g, h⟩ := zb_some h
      refine zw_getr hX zl_X11_53 dX11_ask_17 g ?_
      refine zw_iload_n hX dX11_ask_20 rfl ?_
      refine zw_iload_n hX dX11_ask_21 rfl ?_
      obtain ⟨_, gi, h⟩ := zb_some h
      obtain ⟨r24, g, h⟩ := zb_some h
      refine zc_Vi (as := [.int i2, .int i3]) hX gi (zt_X0_isRoomOf (d := d - 1) (by omega) g) zl_X11_325 rfl dX11_ask_22 ⟨rfl, rfl, Nat.le_of_ble_eq_true rfl⟩ ⟨by omega, by omega⟩ ?_
      refine zw_if_eq (tgt := 32) hX dX11_ask_25 (by decide) (fun c25 => ?_) (fun c25 => ?_)
      · rw [if_pos c25] at h
        refine zw_sub (lv' := [(0, .ref a0), (1, .int i1), (2, .int i2), (3, .int i3)]) (List.forall_mem_cons.mpr ⟨rfl, (List.forall_mem_cons.mpr ⟨rfl, (List.forall_mem_cons.mpr ⟨rfl, (List.forall_mem_cons.mpr ⟨rfl, zs_nil⟩)⟩)⟩)⟩) ?_
        exact zt_X11_ask_J32 hlt hxt hX hr hR hd ⟨by omega, by omega⟩ h
      · rw [if_neg c25] at h
        refine zw_iconst (v := (1 : Int32)) hX dX11_ask_28 (by decide) ?_
        refine zw_goto (tgt := 33) hX dX11_ask_29 (by decide) ?_
        refine zw_sub (lv' := [(0, .ref a0), (1, .int i1), (2, .int i2), (3, .int i3)]) (List.forall_mem_cons.mpr ⟨rfl, (List.forall_mem_cons.mpr ⟨rfl, (List.forall_mem_cons.mpr ⟨rfl, (List.forall_mem_cons.mpr ⟨rfl, zs_nil⟩)⟩)⟩)⟩) ?_
        exact zt_X11_ask_J33 hlt hxt hX hr hR hd ⟨by omega, by omega⟩ h
set_option maxHeartbeats 4000000 in
set_option maxRecDepth 100000 in
theorem zt_X11_both_J82 {p : Program} {l : Launch} {e : Env} {R : Room} {s : State} {m : MethodId} {args : Array Value} {below : List Frame} {meth : Method} {c : Code} {V : zm_V} {mc ms d rc rs : Nat} (hlt : l.stackTraces = false) (hxt : ∀ x ∈ c.exceptionTable.toList, False) (hX : zm_X p R s m args meth c RX11 "both" cX11_both 5 zk_E V mc ms) (hr : meth.sig.returnType = (some .int)) (hR : R.frames = d ∧ R.locals = 64 * d) (hd : 7 ≤ d) {N : Nat} {a0 : Nat} {i1 : Int32} {i2 : Int32} {i3 : Int32} {i4 : Int32} {t0 : Int32} {out : ((Int32 ⊕ String) × zm_S)} (hc : 1 ≤ rc ∧ 6 ≤ rs) {S : zm_S} (h : zf_X11_both_J82 N a0 i1 i2 i3 i4 t0 S = some out) : zw p l e R s m args below meth c (vx_MQ below (zm_Qc zk_E V (zq_i out)) (zm_XC zk_E V (zq_x out)) args s mc ms (fun q => V.2.2.2.1 ≤ q)) 5 zk_E V mc ms 82 [(0, .ref a0), (1, .int i1), (2, .int i2), (3, .int i3), (4, .int i4)] [.int t0] S rc rs := by
  unfold zf_X11_both_J82 at h
  obtain ⟨r, g, h⟩ := zb_some h
  refine zc_S (as := [.int t0]) hX (zt_X11_needState hlt (d := d - 1) (by omega) g) zl_X11_112 dX11_both_82 ⟨rfl, rfl, Nat.le_of_ble_eq_true rfl⟩ ⟨by omega, by omega⟩ ⟨by omega, by omega⟩ ?_ ?_
  · rintro _ S11 ⟨⟨u10, rfl⟩, rfl⟩
    try dsimp only at h
    refine zw_aload_n hX dX11_both_85 rfl ?_
    obtain ⟨b12, g, h⟩ := zb_some h
    refine zw_getr hX zl_X11_53 dX11_both_86 g ?_
    refine zw_aload_n hX dX11_both_89 rfl ?_
    obtain ⟨v13, g, h⟩ := zb_some h
    refine zw_geti hX zl_X11_312 dX11_both_90 g ?_
    refine zw_aload_n hX dX11_both_93 rfl ?_
    obtain ⟨_, gi, h⟩ := zb_some h
    obtain ⟨r15, g, h⟩ := zb_some h
    refine zc_Vi (as := []) hX gi (zt_X11_isReleased (d := d - 1) (by omega) g) zl_X11_331 rfl dX11_both_94 ⟨rfl, rfl, Nat.le_of_ble_eq_true rfl⟩ ⟨by omega, by omega⟩ ?_
    obtain ⟨_, gi, h⟩ := zb_some h
    obtain ⟨r17, g, h⟩ := zb_some h
    refine zc_Vv (as := [.int v13, .int r15.1]) hX gi (zt_X0_setMoment (d := d - 1) (by omega) g) zl_X11_334 rfl dX11_both_97 ⟨rfl, rfl, Nat.le_of_ble_eq_true rfl⟩ ⟨by omega, by omega⟩ ?_
    refine zw_aload_n hX dX11_both_100 rfl ?_
    obtain ⟨b18, g, h⟩ := zb_some h
    refine zw_getr hX zl_X11_53 dX11_both_101 g ?_
    refine zw_iload_n hX dX11_both_104 rfl ?_
    refine zw_iload_n hX dX11_both_105 rfl ?_
    refine zw_iload_n hX dX11_both_106 rfl ?_
    refine zw_iload hX dX11_both_107 rfl ?_
    obtain ⟨_, gi, h⟩ := zb_some h
    obtain ⟨r20, g, h⟩ := zb_some h
    refine zc_Vi (as := [.int i1, .int i2, .int i3, .int i4]) hX gi (zt_X0_askTwo (d := d - 1) (by omega) g) zl_X11_342 rfl dX11_both_109 ⟨rfl, rfl, Nat.le_of_ble_eq_true rfl⟩ ⟨by omega, by omega⟩ ?_
    obtain rfl := Option.some.inj h
    exact zw_iret hX hr dX11_both_112 rfl ⟨_, rfl, rfl⟩
  · rintro X S9 rfl
    obtain rfl := Option.some.inj h
    exact zx_out hX hxt rfl
set_option maxHeartbeats 4000000 in
set_option maxRecDepth 100000 in
theorem zt_X11_both_J81 {p : Program} {l : Launch} {e : Env} {R : Room} {s : State} {m : MethodId} {args : Array Value} {below : List Frame} {meth : Method} {c : Code} {V : zm_V} {mc ms d rc rs : Nat} (hlt : l.stackTraces = false) (hxt : ∀ x ∈ c.exceptionTable.toList, False) (hX : zm_X p R s m args meth c RX11 "both" cX11_both 5 zk_E V mc ms) (hr : meth.sig.returnType = (some .int)) (hR : R.frames = d ∧ R.locals = 64 * d) (hd : 7 ≤ d) {N : Nat} {a0 : Nat} {i1 : Int32} {i2 : Int32} {i3 : Int32} {i4 : Int32} {out : ((Int32 ⊕ String) × zm_S)} (hc : 1 ≤ rc ∧ 6 ≤ rs) {S : zm_S} (h : zf_X11_both_J81 N a0 i1 i2 i3 i4 S = some out) : zw p l e R s m args below meth c (vx_MQ below (zm_Qc zk_E V (zq_i out)) (zm_XC zk_E V (zq_x out)) args s mc ms (fun q => V.2.2.2.1 ≤ q)) 5 zk_E V mc ms 81 [(0, .ref a0), (1, .int i1), (2, .int i2), (3, .int i3), (4, .int i4)] [] S rc rs := by
  unfold zf_X11_both_J81 at h
  refine zw_iconst (v := (0 : Int32)) hX dX11_both_81 (by decide) ?_
  refine zw_sub (lv' := [(0, .ref a0), (1, .int i1), (2, .int i2), (3, .int i3), (4, .int i4)]) (List.forall_mem_cons.mpr ⟨rfl, (List.forall_mem_cons.mpr ⟨rfl, (List.forall_mem_cons.mpr ⟨rfl, (List.forall_mem_cons.mpr ⟨rfl, (List.forall_mem_cons.mpr ⟨rfl, zs_nil⟩)⟩)⟩)⟩)⟩) ?_
  exact zt_X11_both_J82 hlt hxt hX hr hR hd ⟨by omega, by omega⟩ h
set_option maxHeartbeats 4000000 in
set_option maxRecDepth 100000 in
theorem zt_X11_both_J55 {p : Program} {l : Launch} {e : Env} {R : Room} {s : State} {m : MethodId} {args : Array Value} {below : List Frame} {meth : Method} {c : Code} {V : zm_V} {mc ms d rc rs : Nat} (hlt : l.stackTraces = false) (hxt : ∀ x ∈ c.exceptionTable.toList, False) (hX : zm_X p R s m args meth c RX11 "both" cX11_both 5 zk_E V mc ms) (hr : meth.sig.returnType = (some .int)) (hR : R.frames = d ∧ R.locals = 64 * d) (hd : 7 ≤ d) {N : Nat} {a0 : Nat} {i1 : Int32} {i2 : Int32} {i3 : Int32} {i4 : Int32} {t0 : Int32} {out : ((Int32 ⊕ String) × zm_S)} (hc : 2 ≤ rc ∧ 12 ≤ rs) {S : zm_S} (h : zf_X11_both_J55 N a0 i1 i2 i3 i4 t0 S = some out) : zw p l e R s m args below meth c (vx_MQ below (zm_Qc zk_E V (zq_i out)) (zm_XC zk_E V (zq_x out)) args s mc ms (fun q => V.2.2.2.1 ≤ q)) 5 zk_E V mc ms 55 [(0, .ref a0), (1, .int i1), (2, .int i2), (3, .int i3), (4, .int i4)] [.int t0] S rc rs := by
  unfold zf_X11_both_J55 at h
  obtain ⟨r, g, h⟩ := zb_some h
  refine zc_S (as := [.int t0]) hX (zt_X11_needArgument hlt (d := d - 1) (by omega) g) zl_X11_100 dX11_both_55 ⟨rfl, rfl, Nat.le_of_ble_eq_true rfl⟩ ⟨by omega, by omega⟩ ⟨by omega, by omega⟩ ?_ ?_
  · rintro _ S8 ⟨⟨u7, rfl⟩, rfl⟩
    try dsimp only at h
    refine zw_aload_n hX dX11_both_58 rfl ?_
    obtain ⟨v9, g, h⟩ := zb_some h
    refine zw_geti hX zl_X11_104 dX11_both_59 g ?_
    refine zw_if_eq (tgt := 81) hX dX11_both_62 (by decide) (fun c62 => ?_) (fun c62 => ?_)
    · rw [if_pos c62] at h
      refine zw_sub (lv' := [(0, .ref a0), (1, .int i1), (2, .int i2), (3, .int i3), (4, .int i4)]) (List.forall_mem_cons.mpr ⟨rfl, (List.forall_mem_cons.mpr ⟨rfl, (List.forall_mem_cons.mpr ⟨rfl, (List.forall_mem_cons.mpr ⟨rfl, (List.forall_mem_cons.mpr ⟨rfl, zs_nil⟩)⟩)⟩)⟩)⟩) ?_
      exact zt_X11_both_J81 hlt hxt hX hr hR hd ⟨by omega, by omega⟩ h
    · rw [if_neg c62] at h
      refine zw_aload_n hX dX11_both_65 rfl ?_
      obtain ⟨b21, g, h⟩ := zb_some h
      refine zw_getr hX zl_X11_53 dX11_both_66 g ?_
      refine zw_iload_n hX dX11_both_69 rfl ?_
      refine zw_iconst (v := (2 : Int32)) hX dX11_both_70 (by decide) ?_
      obtain ⟨_, gi, h⟩ := zb_some h
      obtain ⟨r23, g, h⟩ := zb_some h
      refine zc_Vi (as := [.int i3, .int (2 : Int32)]) hX gi (zt_X0_hasRoomForRows (d := d - 1) (by omega) g) zl_X11_328 rfl dX11_both_71 ⟨rfl, rfl, Nat.le_of_ble_eq_true rfl⟩ ⟨by omega, by omega⟩ ?_
      refine zw_if_eq (tgt := 81) hX dX11_both_74 (by decide) (fun c74 => ?_) (fun c74 => ?_)
      · rw [if_pos c74] at h
        refine zw_sub (lv' := [(0, .ref a0), (1, .int i1), (2, .int i2), (3, .int i3), (4, .int i4)]) (List.forall_mem_cons.mpr ⟨rfl, (List.forall_mem_cons.mpr ⟨rfl, (List.forall_mem_cons.mpr ⟨rfl, (List.forall_mem_cons.mpr ⟨rfl, (List.forall_mem_cons.mpr ⟨rfl, zs_nil⟩)⟩)⟩)⟩)⟩) ?_
        exact zt_X11_both_J81 hlt hxt hX hr hR hd ⟨by omega, by omega⟩ h
      · rw [if_neg c74] at h
        refine zw_iconst (v := (1 : Int32)) hX dX11_both_77 (by decide) ?_
        refine zw_goto (tgt := 82) hX dX11_both_78 (by decide) ?_
        refine zw_sub (lv' := [(0, .ref a0), (1, .int i1), (2, .int i2), (3, .int i3), (4, .int i4)]) (List.forall_mem_cons.mpr ⟨rfl, (List.forall_mem_cons.mpr ⟨rfl, (List.forall_mem_cons.mpr ⟨rfl, (List.forall_mem_cons.mpr ⟨rfl, (List.forall_mem_cons.mpr ⟨rfl, zs_nil⟩)⟩)⟩)⟩)⟩) ?_
        exact zt_X11_both_J82 hlt hxt hX hr hR hd ⟨by omega, by omega⟩ h
  · rintro X S9 rfl
    obtain rfl := Option.some.inj h
    exact zx_out hX hxt rfl
set_option maxHeartbeats 4000000 in
set_option maxRecDepth 100000 in
theorem zt_X11_both_J54 {p : Program} {l : Launch} {e : Env} {R : Room} {s : State} {m : MethodId} {args : Array Value} {below : List Frame} {meth : Method} {c : Code} {V : zm_V} {mc ms d rc rs : Nat} (hlt : l.stackTraces = false) (hxt : ∀ x ∈ c.exceptionTable.toList, False) (hX : zm_X p R s m args meth c RX11 "both" cX11_both 5 zk_E V mc ms) (hr : meth.sig.returnType = (some .int)) (hR : R.frames = d ∧ R.locals = 64 * d) (hd : 7 ≤ d) {N : Nat} {a0 : Nat} {i1 : Int32} {i2 : Int32} {i3 : Int32} {i4 : Int32} {out : ((Int32 ⊕ String) × zm_S)} (hc : 2 ≤ rc ∧ 12 ≤ rs) {S : zm_S} (h : zf_X11_both_J54 N a0 i1 i2 i3 i4 S = some out) : zw p l e R s m args below meth c (vx_MQ below (zm_Qc zk_E V (zq_i out)) (zm_XC zk_E V (zq_x out)) args s mc ms (fun q => V.2.2.2.1 ≤ q)) 5 zk_E V mc ms 54 [(0, .ref a0), (1, .int i1), (2, .int i2), (3, .int i3), (4, .int i4)] [] S rc rs := by
  unfold zf_X11_both_J54 at h
  refine zw_iconst (v := (0 : Int32)) hX dX11_both_54 (by decide) ?_
  refine zw_sub (lv' := [(0, .ref a0), (1, .int i1), (2, .int i2), (3, .int i3), (4, .int i4)]) (List.forall_mem_cons.mpr ⟨rfl, (List.forall_mem_cons.mpr ⟨rfl, (List.forall_mem_cons.mpr ⟨rfl, (List.forall_mem_cons.mpr ⟨rfl, (List.forall_mem_cons.mpr ⟨rfl, zs_nil⟩)⟩)⟩)⟩)⟩) ?_
  exact zt_X11_both_J55 hlt hxt hX hr hR hd ⟨by omega, by omega⟩ h
set_option maxHeartbeats 4000000 in
set_option maxRecDepth 100000 in
theorem zt_X11_both_J26 {p : Program} {l : Launch} {e : Env} {R : Room} {s : State} {m : MethodId} {args : Array Value} {below : List Frame} {meth : Method} {c : Code} {V : zm_V} {mc ms d rc rs : Nat} (hlt : l.stackTraces = false) (hxt : ∀ x ∈ c.exceptionTable.toList, False) (hX : zm_X p R s m args meth c RX11 "both" cX11_both 5 zk_E V mc ms) (hr : meth.sig.returnType = (some .int)) (hR : R.frames = d ∧ R.locals = 64 * d) (hd : 7 ≤ d) {N : Nat} {a0 : Nat} {i1 : Int32} {i2 : Int32} {i3 : Int32} {i4 : Int32} {t0 : Int32} {out : ((Int32 ⊕ String) × zm_S)} (hc : 3 ≤ rc ∧ 18 ≤ rs) {S : zm_S} (h : zf_X11_both_J26 N a0 i1 i2 i3 i4 t0 S = some out) : zw p l e R s m args below meth c (vx_MQ below (zm_Qc zk_E V (zq_i out)) (zm_XC zk_E V (zq_x out)) args s mc ms (fun q => V.2.2.2.1 ≤ q)) 5 zk_E V mc ms 26 [(0, .ref a0), (1, .int i1), (2, .int i2), (3, .int i3), (4, .int i4)] [.int t0] S rc rs := by
  unfold zf_X11_both_J26 at h
  obtain ⟨r, g, h⟩ := zb_some h
  refine zc_S (as := [.int t0]) hX (zt_X11_needArgument hlt (d := d - 1) (by omega) g) zl_X11_100 dX11_both_26 ⟨rfl, rfl, Nat.le_of_ble_eq_true rfl⟩ ⟨by omega, by omega⟩ ⟨by omega, by omega⟩ ?_ ?_
  · rintro _ S4 ⟨⟨u3, rfl⟩, rfl⟩
    try dsimp only at h
    refine zw_aload_n hX dX11_both_29 rfl ?_
    refine zw_iload_n hX dX11_both_30 rfl ?_
    obtain ⟨_, gi, h⟩ := zb_some h
    obtain ⟨r6, g, h⟩ := zb_some h
    refine zc_Vi (as := [.int i3]) hX gi (zt_X11_isPortal (d := d - 1) (by omega) g) zl_X11_267 rfl dX11_both_31 ⟨rfl, rfl, Nat.le_of_ble_eq_true rfl⟩ ⟨by omega, by omega⟩ ?_
    refine zw_if_eq (tgt := 54) hX dX11_both_34 (by decide) (fun c34 => ?_) (fun c34 => ?_)
    · rw [if_pos c34] at h
      refine zw_sub (lv' := [(0, .ref a0), (1, .int i1), (2, .int i2), (3, .int i3), (4, .int i4)]) (List.forall_mem_cons.mpr ⟨rfl, (List.forall_mem_cons.mpr ⟨rfl, (List.forall_mem_cons.mpr ⟨rfl, (List.forall_mem_cons.mpr ⟨rfl, (List.forall_mem_cons.mpr ⟨rfl, zs_nil⟩)⟩)⟩)⟩)⟩) ?_
      exact zt_X11_both_J54 hlt hxt hX hr hR hd ⟨by omega, by omega⟩ h
    · rw [if_neg c34] at h
      refine zw_aload_n hX dX11_both_37 rfl ?_
      obtain ⟨b24, g, h⟩ := zb_some h
      refine zw_getr hX zl_X11_53 dX11_both_38 g ?_
      refine zw_iload_n hX dX11_both_41 rfl ?_
      refine zw_iload hX dX11_both_42 rfl ?_
      obtain ⟨_, gi, h⟩ := zb_some h
      obtain ⟨r26, g, h⟩ := zb_some h
      refine zc_Vi (as := [.int i3, .int i4]) hX gi (zt_X0_isRoomOf (d := d - 1) (by omega) g) zl_X11_325 rfl dX11_both_44 ⟨rfl, rfl, Nat.le_of_ble_eq_true rfl⟩ ⟨by omega, by omega⟩ ?_
      refine zw_if_eq (tgt := 54) hX dX11_both_47 (by decide) (fun c47 => ?_) (fun c47 => ?_)
      · rw [if_pos c47] at h
        refine zw_sub (lv' := [(0, .ref a0), (1, .int i1), (2, .int i2), (3, .int i3), (4, .int i4)]) (List.forall_mem_cons.mpr ⟨rfl, (List.forall_mem_cons.mpr ⟨rfl, (List.forall_mem_cons.mpr ⟨rfl, (List.forall_mem_cons.mpr ⟨rfl, (List.forall_mem_cons.mpr ⟨rfl, zs_nil⟩)⟩)⟩)⟩)⟩) ?_
        exact zt_X11_both_J54 hlt hxt hX hr hR hd ⟨by omega, by omega⟩ h
      · rw [if_neg c47] at h
        refine zw_iconst (v := (1 : Int32)) hX dX11_both_50 (by decide) ?_
        refine zw_goto (tgt := 55) hX dX11_both_51 (by decide) ?_
        refine zw_sub (lv' := [(0, .ref a0), (1, .int i1), (2, .int i2), (3, .int i3), (4, .int i4)]) (List.forall_mem_cons.mpr ⟨rfl, (List.forall_mem_cons.mpr ⟨rfl, (List.forall_mem_cons.mpr ⟨rfl, (List.forall_mem_cons.mpr ⟨rfl, (List.forall_mem_cons.mpr ⟨rfl, zs_nil⟩)⟩)⟩)⟩)⟩) ?_
        exact zt_X11_both_J55 hlt hxt hX hr hR hd ⟨by omega, by omega⟩ h
  · rintro X S9 rfl
    obtain rfl := Option.some.inj h
    exact zx_out hX hxt rfl
set_option maxHeartbeats 4000000 in
set_option maxRecDepth 100000 in
theorem zt_X11_both_J25 {p : Program} {l : Launch} {e : Env} {R : Room} {s : State} {m : MethodId} {args : Array Value} {below : List Frame} {meth : Method} {c : Code} {V : zm_V} {mc ms d rc rs : Nat} (hlt : l.stackTraces = false) (hxt : ∀ x ∈ c.exceptionTable.toList, False) (hX : zm_X p R s m args meth c RX11 "both" cX11_both 5 zk_E V mc ms) (hr : meth.sig.returnType = (some .int)) (hR : R.frames = d ∧ R.locals = 64 * d) (hd : 7 ≤ d) {N : Nat} {a0 : Nat} {i1 : Int32} {i2 : Int32} {i3 : Int32} {i4 : Int32} {out : ((Int32 ⊕ String) × zm_S)} (hc : 3 ≤ rc ∧ 18 ≤ rs) {S : zm_S} (h : zf_X11_both_J25 N a0 i1 i2 i3 i4 S = some out) : zw p l e R s m args below meth c (vx_MQ below (zm_Qc zk_E V (zq_i out)) (zm_XC zk_E V (zq_x out)) args s mc ms (fun q => V.2.2.2.1 ≤ q)) 5 zk_E V mc ms 25 [(0, .ref a0), (1, .int i1), (2, .int i2), (3, .int i3), (4, .int i4)] [] S rc rs := by
  unfold zf_X11_both_J25 at h
  refine zw_iconst (v := (0 : Int32)) hX dX11_both_25 (by decide) ?_
  refine zw_sub (lv' := [(0, .ref a0), (1, .int i1), (2, .int i2), (3, .int i3), (4, .int i4)]) (List.forall_mem_cons.mpr ⟨rfl, (List.forall_mem_cons.mpr ⟨rfl, (List.forall_mem_cons.mpr ⟨rfl, (List.forall_mem_cons.mpr ⟨rfl, (List.forall_mem_cons.mpr ⟨rfl, zs_nil⟩)⟩)⟩)⟩)⟩) ?_
  exact zt_X11_both_J26 hlt hxt hX hr hR hd ⟨by omega, by omega⟩ h
set_option maxHeartbeats 4000000 in
set_option maxRecDepth 100000 in
theorem zt_X11_both {l : Launch} {V : zm_V} (hlt : l.stackTraces = false) {N : Nat} {S : zm_S} {out : ((Int32 ⊕ String) × zm_S)} {d : Nat} {a0 : Nat} {i1 : Int32} {i2 : Int32} {i3 : Int32} {i4 : Int32} (hd : 7 ≤ d) (h : zf_X11_both N a0 i1 i2 i3 i4 S = some out) : zm_Met l zk_E V yX11_both (.code yX11_both cX11_both 5 (some .int)) d [.ref a0, .int i1, .int i2, .int i3, .int i4] S 3 18 (zq_i out) (zq_x out) := by
  refine zm_of (by decide +kernel) (Nat.le_of_ble_eq_true rfl) ?_
  intro p e R s m args below meth c hRR hX hr hxt
  have hR : R.frames = d ∧ R.locals = 64 * d := by rw [hRR]; exact ⟨rfl, rfl⟩
  have hX : zm_X p R s m args meth c RX11 "both" cX11_both 5 zk_E V 3 18 := hX
  unfold zf_X11_both at h
  refine zw_sub (lv' := [(0, .ref a0), (1, .int i1), (2, .int i2), (3, .int i3), (4, .int i4)]) (List.forall_mem_cons.mpr ⟨rfl, (List.forall_mem_cons.mpr ⟨rfl, (List.forall_mem_cons.mpr ⟨rfl, (List.forall_mem_cons.mpr ⟨rfl, (List.forall_mem_cons.mpr ⟨rfl, zs_nil⟩)⟩)⟩)⟩)⟩) ?_
  refine zw_aload_n hX dX11_both_0 rfl ?_
  refine zw_iload_n hX dX11_both_1 rfl ?_
  obtain ⟨_, gi, h⟩ := zb_some h
  obtain ⟨r2, g, h⟩ := zb_some h
  refine zc_Vi (as := [.int i1]) hX gi (zt_X11_isCard (d := d - 1) (by omega) g) zl_X11_298 rfl dX11_both_2 ⟨rfl, rfl, Nat.le_of_ble_eq_true rfl⟩ ⟨by omega, by omega⟩ ?_
  refine zw_if_eq (tgt := 25) hX dX11_both_5 (by decide) (fun c5 => ?_) (fun c5 => ?_)
  · rw [if_pos c5] at h
    refine zw_sub (lv' := [(0, .ref a0), (1, .int i1), (2, .int i2), (3, .int i3), (4, .int i4)]) (List.forall_mem_cons.mpr ⟨rfl, (List.forall_mem_cons.mpr ⟨rfl, (List.forall_mem_cons.mpr ⟨rfl, (List.forall_mem_cons.mpr ⟨rfl, (List.forall_mem_cons.mpr ⟨rfl, zs_nil⟩)⟩)⟩)⟩)⟩) ?_
    exact zt_X11_both_J25 hlt hxt hX hr hR hd ⟨by omega, by omega⟩ h
  · rw [if_neg c5] at h
    refine zw_aload_n hX dX11_both_8 rfl ?_
    refine zw_iload_n hX dX11_both_9 rfl ?_
    obtain ⟨_, gi, h⟩ := zb_some h
    obtain ⟨r28, g, h⟩ := zb_some h
    refine zc_Vi (as := [.int i2]) hX gi (zt_X11_isCard (d := d - 1) (by omega) g) zl_X11_298 rfl dX11_both_10 ⟨rfl, rfl, Nat.le_of_ble_eq_true rfl⟩ ⟨by omega, by omega⟩ ?_
    refine zw_if_eq (tgt := 25) hX dX11_both_13 (by decide) (fun c13 => ?_) (fun c13 => ?_)
    · rw [if_pos c13] at h
      refine zw_sub (lv' := [(0, .ref a0), (1, .int i1), (2, .int i2), (3, .int i3), (4, .int i4)]) (List.forall_mem_cons.mpr ⟨rfl, (List.forall_mem_cons.mpr ⟨rfl, (List.forall_mem_cons.mpr ⟨rfl, (List.forall_mem_cons.mpr ⟨rfl, (List.forall_mem_cons.mpr ⟨rfl, zs_nil⟩)⟩)⟩)⟩)⟩) ?_
      exact zt_X11_both_J25 hlt hxt hX hr hR hd ⟨by omega, by omega⟩ h
    · rw [if_neg c13] at h
      refine zw_iload_n hX dX11_both_16 rfl ?_
      refine zw_iload_n hX dX11_both_17 rfl ?_
      refine zw_icmp_eq (tgt := 25) hX dX11_both_18 (by decide) (fun c18 => ?_) (fun c18 => ?_)
      · rw [if_pos c18] at h
        refine zw_sub (lv' := [(0, .ref a0), (1, .int i1), (2, .int i2), (3, .int i3), (4, .int i4)]) (List.forall_mem_cons.mpr ⟨rfl, (List.forall_mem_cons.mpr ⟨rfl, (List.forall_mem_cons.mpr ⟨rfl, (List.forall_mem_cons.mpr ⟨rfl, (List.forall_mem_cons.mpr ⟨rfl, zs_nil⟩)⟩)⟩)⟩)⟩) ?_
        exact zt_X11_both_J25 hlt hxt hX hr hR hd ⟨by omega, by omega⟩ h
      · rw [if_neg c18] at h
        refine zw_iconst (v := (1 : Int32)) hX dX11_both_21 (by decide) ?_
        refine zw_goto (tgt := 26) hX dX11_both_22 (by decide) ?_
        refine zw_sub (lv' := [(0, .ref a0), (1, .int i1), (2, .int i2), (3, .int i3), (4, .int i4)]) (List.forall_mem_cons.mpr ⟨rfl, (List.forall_mem_cons.mpr ⟨rfl, (List.forall_mem_cons.mpr ⟨rfl, (List.forall_mem_cons.mpr ⟨rfl, (List.forall_mem_cons.mpr ⟨rfl, zs_nil⟩)⟩)⟩)⟩)⟩) ?_
        exact zt_X11_both_J26 hlt hxt hX hr hR hd ⟨by omega, by omega⟩ h
set_option maxHeartbeats 4000000 in
set_option maxRecDepth 100000 in
theorem zt_X11_where_J22 {p : Program} {l : Launch} {e : Env} {R : Room} {s : State} {m : MethodId} {args : Array Value} {below : List Frame} {meth : Method} {c : Code} {V : zm_V} {mc ms d rc rs : Nat} (hlt : l.stackTraces = false) (hxt : ∀ x ∈ c.exceptionTable.toList, False) (hX : zm_X p R s m args meth c RX11 "where" cX11_where 3 zk_E V mc ms) (hr : meth.sig.returnType = (some .int)) (hR : R.frames = d ∧ R.locals = 64 * d) (hd : 7 ≤ d) {N : Nat} {a0 : Nat} {i1 : Int32} {i2 : Int32} {t0 : Int32} {out : ((Int32 ⊕ String) × zm_S)} (hc : 2 ≤ rc ∧ 12 ≤ rs) {S : zm_S} (h : zf_X11_where_J22 N a0 i1 i2 t0 S = some out) : zw p l e R s m args below meth c (vx_MQ below (zm_Qc zk_E V (zq_i out)) (zm_XC zk_E V (zq_x out)) args s mc ms (fun q => V.2.2.2.1 ≤ q)) 3 zk_E V mc ms 22 [(0, .ref a0), (1, .int i1), (2, .int i2)] [.int t0] S rc rs := by
  unfold zf_X11_where_J22 at h
  obtain ⟨r, g, h⟩ := zb_some h
  refine zc_S (as := [.int t0]) hX (zt_X11_needArgument hlt (d := d - 1) (by omega) g) zl_X11_100 dX11_where_22 ⟨rfl, rfl, Nat.le_of_ble_eq_true rfl⟩ ⟨by omega, by omega⟩ ⟨by omega, by omega⟩ ?_ ?_
  · rintro _ S4 ⟨⟨u3, rfl⟩, rfl⟩
    try dsimp only at h
    refine zw_aload_n hX dX11_where_25 rfl ?_
    obtain ⟨v5, g, h⟩ := zb_some h
    refine zw_geti hX zl_X11_104 dX11_where_26 g ?_
    obtain ⟨r, g, h⟩ := zb_some h
    refine zc_S (as := [.int v5]) hX (zt_X11_needState hlt (d := d - 1) (by omega) g) zl_X11_112 dX11_where_29 ⟨rfl, rfl, Nat.le_of_ble_eq_true rfl⟩ ⟨by omega, by omega⟩ ⟨by omega, by omega⟩ ?_ ?_
    · rintro _ S7 ⟨⟨u6, rfl⟩, rfl⟩
      try dsimp only at h
      refine zw_aload_n hX dX11_where_32 rfl ?_
      obtain ⟨b8, g, h⟩ := zb_some h
      refine zw_getr hX zl_X11_44 dX11_where_33 g ?_
      refine zw_iload_n hX dX11_where_36 rfl ?_
      refine zw_iload_n hX dX11_where_37 rfl ?_
      obtain ⟨_, gi, h⟩ := zb_some h
      obtain ⟨r10, g, h⟩ := zb_some h
      refine zc_Vi (as := [.int i1, .int i2]) hX gi (zt_X10_personFact (d := d - 1) (by omega) g) zl_X11_345 rfl dX11_where_38 ⟨rfl, rfl, Nat.le_of_ble_eq_true rfl⟩ ⟨by omega, by omega⟩ ?_
      obtain rfl := Option.some.inj h
      exact zw_iret hX hr dX11_where_41 rfl ⟨_, rfl, rfl⟩
    · rintro X S9 rfl
      obtain rfl := Option.some.inj h
      exact zx_out hX hxt rfl
  · rintro X S9 rfl
    obtain rfl := Option.some.inj h
    exact zx_out hX hxt rfl
set_option maxHeartbeats 4000000 in
set_option maxRecDepth 100000 in
theorem zt_X11_where_J21 {p : Program} {l : Launch} {e : Env} {R : Room} {s : State} {m : MethodId} {args : Array Value} {below : List Frame} {meth : Method} {c : Code} {V : zm_V} {mc ms d rc rs : Nat} (hlt : l.stackTraces = false) (hxt : ∀ x ∈ c.exceptionTable.toList, False) (hX : zm_X p R s m args meth c RX11 "where" cX11_where 3 zk_E V mc ms) (hr : meth.sig.returnType = (some .int)) (hR : R.frames = d ∧ R.locals = 64 * d) (hd : 7 ≤ d) {N : Nat} {a0 : Nat} {i1 : Int32} {i2 : Int32} {out : ((Int32 ⊕ String) × zm_S)} (hc : 2 ≤ rc ∧ 12 ≤ rs) {S : zm_S} (h : zf_X11_where_J21 N a0 i1 i2 S = some out) : zw p l e R s m args below meth c (vx_MQ below (zm_Qc zk_E V (zq_i out)) (zm_XC zk_E V (zq_x out)) args s mc ms (fun q => V.2.2.2.1 ≤ q)) 3 zk_E V mc ms 21 [(0, .ref a0), (1, .int i1), (2, .int i2)] [] S rc rs := by
  unfold zf_X11_where_J21 at h
  refine zw_iconst (v := (0 : Int32)) hX dX11_where_21 (by decide) ?_
  refine zw_sub (lv' := [(0, .ref a0), (1, .int i1), (2, .int i2)]) (List.forall_mem_cons.mpr ⟨rfl, (List.forall_mem_cons.mpr ⟨rfl, (List.forall_mem_cons.mpr ⟨rfl, zs_nil⟩)⟩)⟩) ?_
  exact zt_X11_where_J22 hlt hxt hX hr hR hd ⟨by omega, by omega⟩ h
set_option maxHeartbeats 4000000 in
set_option maxRecDepth 100000 in
theorem zt_X11_where {l : Launch} {V : zm_V} (hlt : l.stackTraces = false) {N : Nat} {S : zm_S} {out : ((Int32 ⊕ String) × zm_S)} {d : Nat} {a0 : Nat} {i1 : Int32} {i2 : Int32} (hd : 7 ≤ d) (h : zf_X11_where N a0 i1 i2 S = some out) : zm_Met l zk_E V yX11_where (.code yX11_where cX11_where 3 (some .int)) d [.ref a0, .int i1, .int i2] S 2 12 (zq_i out) (zq_x out) := by
  refine zm_of (by decide +kernel) (Nat.le_of_ble_eq_true rfl) ?_
  intro p e R s m args below meth c hRR hX hr hxt
  have hR : R.frames = d ∧ R.locals = 64 * d := by rw [hRR]; exact ⟨rfl, rfl⟩
  have hX : zm_X p R s m args meth c RX11 "where" cX11_where 3 zk_E V 2 12 := hX
  unfold zf_X11_where at h
  refine zw_sub (lv' := [(0, .ref a0), (1, .int i1), (2, .int i2)]) (List.forall_mem_cons.mpr ⟨rfl, (List.forall_mem_cons.mpr ⟨rfl, (List.forall_mem_cons.mpr ⟨rfl, zs_nil⟩)⟩)⟩) ?_
  refine zw_aload_n hX dX11_where_0 rfl ?_
  refine zw_iload_n hX dX11_where_1 rfl ?_
  obtain ⟨_, gi, h⟩ := zb_some h
  obtain ⟨r2, g, h⟩ := zb_some h
  refine zc_Vi (as := [.int i1]) hX gi (zt_X11_isPerson (d := d - 1) (by omega) g) zl_X11_279 rfl dX11_where_2 ⟨rfl, rfl, Nat.le_of_ble_eq_true rfl⟩ ⟨by omega, by omega⟩ ?_
  refine zw_if_eq (tgt := 21) hX dX11_where_5 (by decide) (fun c5 => ?_) (fun c5 => ?_)
  · rw [if_pos c5] at h
    refine zw_sub (lv' := [(0, .ref a0), (1, .int i1), (2, .int i2)]) (List.forall_mem_cons.mpr ⟨rfl, (List.forall_mem_cons.mpr ⟨rfl, (List.forall_mem_cons.mpr ⟨rfl, zs_nil⟩)⟩)⟩) ?_
    exact zt_X11_where_J21 hlt hxt hX hr hR hd ⟨by omega, by omega⟩ h
  · rw [if_neg c5] at h
    refine zw_iload_n hX dX11_where_8 rfl ?_
    refine zw_iconst (v := (0 : Int32)) hX dX11_where_9 (by decide) ?_
    refine zw_iconst (v := (5 : Int32)) hX dX11_where_10 (by decide) ?_
    obtain ⟨r12, g, h⟩ := zb_some h
    refine zc_Si (as := [.int i2, .int (0 : Int32), .int (5 : Int32)]) hX (zt_X11_isWithin (d := d - 1) (by omega) g) zl_X11_133 dX11_where_11 ⟨rfl, rfl, Nat.le_of_ble_eq_true rfl⟩ ⟨by omega, by omega⟩ ?_
    refine zw_if_eq (tgt := 21) hX dX11_where_14 (by decide) (fun c14 => ?_) (fun c14 => ?_)
    · rw [if_pos c14] at h
      refine zw_sub (lv' := [(0, .ref a0), (1, .int i1), (2, .int i2)]) (List.forall_mem_cons.mpr ⟨rfl, (List.forall_mem_cons.mpr ⟨rfl, (List.forall_mem_cons.mpr ⟨rfl, zs_nil⟩)⟩)⟩) ?_
      exact zt_X11_where_J21 hlt hxt hX hr hR hd ⟨by omega, by omega⟩ h
    · rw [if_neg c14] at h
      refine zw_iconst (v := (1 : Int32)) hX dX11_where_17 (by decide) ?_
      refine zw_goto (tgt := 22) hX dX11_where_18 (by decide) ?_
      refine zw_sub (lv' := [(0, .ref a0), (1, .int i1), (2, .int i2)]) (List.forall_mem_cons.mpr ⟨rfl, (List.forall_mem_cons.mpr ⟨rfl, (List.forall_mem_cons.mpr ⟨rfl, zs_nil⟩)⟩)⟩) ?_
      exact zt_X11_where_J22 hlt hxt hX hr hR hd ⟨by omega, by omega⟩ h
set_option maxHeartbeats 4000000 in
set_option maxRecDepth 100000 in
theorem zt_X11_inside {l : Launch} {V : zm_V} (hlt : l.stackTraces = false) {N : Nat} {S : zm_S} {out : ((Int32 ⊕ String) × zm_S)} {d : Nat} {a0 : Nat} {i1 : Int32} (hd : 7 ≤ d) (h : zf_X11_inside N a0 i1 S = some out) : zm_Met l zk_E V yX11_inside (.code yX11_inside cX11_inside 2 (some .int)) d [.ref a0, .int i1] S 2 12 (zq_i out) (zq_x out) := by
  refine zm_of (by decide +kernel) (Nat.le_of_ble_eq_true rfl) ?_
  intro p e R s m args below meth c hRR hX hr hxt
  have hR : R.frames = d ∧ R.locals = 64 * d := by rw [hRR]; exact ⟨rfl, rfl⟩
  have hX : zm_X p R s m args meth c RX11 "inside" cX11_inside 2 zk_E V 2 12 := hX
  unfold zf_X11_inside at h
  refine zw_sub (lv' := [(0, .ref a0), (1, .int i1)]) (List.forall_mem_cons.mpr ⟨rfl, (List.forall_mem_cons.mpr ⟨rfl, zs_nil⟩)⟩) ?_
  refine zw_iload_n hX dX11_inside_0 rfl ?_
  refine zw_iconst (v := (0 : Int32)) hX dX11_inside_1 (by decide) ?_
  refine zw_bipush (v := (9 : Int32)) hX dX11_inside_2 (by decide) ?_
  obtain ⟨r2, g, h⟩ := zb_some h
  refine zc_Si (as := [.int i1, .int (0 : Int32), .int (9 : Int32)]) hX (zt_X11_isWithin (d := d - 1) (by omega) g) zl_X11_133 dX11_inside_4 ⟨rfl, rfl, Nat.le_of_ble_eq_true rfl⟩ ⟨by omega, by omega⟩ ?_
  obtain ⟨r, g, h⟩ := zb_some h
  refine zc_S (as := [.int r2.1]) hX (zt_X11_needArgument hlt (d := d - 1) (by omega) g) zl_X11_100 dX11_inside_7 ⟨rfl, rfl, Nat.le_of_ble_eq_true rfl⟩ ⟨by omega, by omega⟩ ⟨by omega, by omega⟩ ?_ ?_
  · rintro _ S4 ⟨⟨u3, rfl⟩, rfl⟩
    try dsimp only at h
    refine zw_aload_n hX dX11_inside_10 rfl ?_
    obtain ⟨v5, g, h⟩ := zb_some h
    refine zw_geti hX zl_X11_104 dX11_inside_11 g ?_
    obtain ⟨r, g, h⟩ := zb_some h
    refine zc_S (as := [.int v5]) hX (zt_X11_needState hlt (d := d - 1) (by omega) g) zl_X11_112 dX11_inside_14 ⟨rfl, rfl, Nat.le_of_ble_eq_true rfl⟩ ⟨by omega, by omega⟩ ⟨by omega, by omega⟩ ?_ ?_
    · rintro _ S7 ⟨⟨u6, rfl⟩, rfl⟩
      try dsimp only at h
      refine zw_aload_n hX dX11_inside_17 rfl ?_
      obtain ⟨b8, g, h⟩ := zb_some h
      refine zw_getr hX zl_X11_44 dX11_inside_18 g ?_
      refine zw_iload_n hX dX11_inside_21 rfl ?_
      obtain ⟨_, gi, h⟩ := zb_some h
      obtain ⟨r10, g, h⟩ := zb_some h
      refine zc_Vi (as := [.int i1]) hX gi (zt_X10_countInZone (d := d - 1) (by omega) g) zl_X11_348 rfl dX11_inside_22 ⟨rfl, rfl, Nat.le_of_ble_eq_true rfl⟩ ⟨by omega, by omega⟩ ?_
      obtain rfl := Option.some.inj h
      exact zw_iret hX hr dX11_inside_25 rfl ⟨_, rfl, rfl⟩
    · rintro X S9 rfl
      obtain rfl := Option.some.inj h
      exact zx_out hX hxt rfl
  · rintro X S9 rfl
    obtain rfl := Option.some.inj h
    exact zx_out hX hxt rfl
set_option maxHeartbeats 4000000 in
set_option maxRecDepth 100000 in
theorem zt_X11_against_J35 {p : Program} {l : Launch} {e : Env} {R : Room} {s : State} {m : MethodId} {args : Array Value} {below : List Frame} {meth : Method} {c : Code} {V : zm_V} {mc ms d rc rs : Nat} (hlt : l.stackTraces = false) (hxt : ∀ x ∈ c.exceptionTable.toList, False) (hX : zm_X p R s m args meth c RX11 "against" cX11_against 3 zk_E V mc ms) (hr : meth.sig.returnType = (some .int)) (hR : R.frames = d ∧ R.locals = 64 * d) (hd : 7 ≤ d) {N : Nat} {a0 : Nat} {i1 : Int32} {i2 : Int32} {t0 : Int32} {out : ((Int32 ⊕ String) × zm_S)} (hc : 2 ≤ rc ∧ 12 ≤ rs) {S : zm_S} (h : zf_X11_against_J35 N a0 i1 i2 t0 S = some out) : zw p l e R s m args below meth c (vx_MQ below (zm_Qc zk_E V (zq_i out)) (zm_XC zk_E V (zq_x out)) args s mc ms (fun q => V.2.2.2.1 ≤ q)) 3 zk_E V mc ms 35 [(0, .ref a0), (1, .int i1), (2, .int i2)] [.int t0] S rc rs := by
  unfold zf_X11_against_J35 at h
  obtain ⟨r, g, h⟩ := zb_some h
  refine zc_S (as := [.int t0]) hX (zt_X11_needArgument hlt (d := d - 1) (by omega) g) zl_X11_100 dX11_against_35 ⟨rfl, rfl, Nat.le_of_ble_eq_true rfl⟩ ⟨by omega, by omega⟩ ⟨by omega, by omega⟩ ?_ ?_
  · rintro _ S4 ⟨⟨u3, rfl⟩, rfl⟩
    try dsimp only at h
    refine zw_aload_n hX dX11_against_38 rfl ?_
    obtain ⟨v5, g, h⟩ := zb_some h
    refine zw_geti hX zl_X11_104 dX11_against_39 g ?_
    obtain ⟨r, g, h⟩ := zb_some h
    refine zc_S (as := [.int v5]) hX (zt_X11_needState hlt (d := d - 1) (by omega) g) zl_X11_112 dX11_against_42 ⟨rfl, rfl, Nat.le_of_ble_eq_true rfl⟩ ⟨by omega, by omega⟩ ⟨by omega, by omega⟩ ?_ ?_
    · rintro _ S7 ⟨⟨u6, rfl⟩, rfl⟩
      try dsimp only at h
      refine zw_iload_n hX dX11_against_45 rfl ?_
      refine zw_if_ne (tgt := 59) hX dX11_against_46 (by decide) (fun c46 => ?_) (fun c46 => ?_)
      · rw [if_neg c46] at h
        refine zw_aload_n hX dX11_against_59 rfl ?_
        obtain ⟨b8, g, h⟩ := zb_some h
        refine zw_getr hX zl_X11_53 dX11_against_60 g ?_
        refine zw_iload_n hX dX11_against_63 rfl ?_
        refine zw_iload_n hX dX11_against_64 rfl ?_
        obtain ⟨_, gi, h⟩ := zb_some h
        obtain ⟨r10, g, h⟩ := zb_some h
        refine zc_Vi (as := [.int i1, .int i2]) hX gi (zt_X0_againstFact (d := d - 1) (by omega) g) zl_X11_357 rfl dX11_against_65 ⟨rfl, rfl, Nat.le_of_ble_eq_true rfl⟩ ⟨by omega, by omega⟩ ?_
        obtain rfl := Option.some.inj h
        exact zw_iret hX hr dX11_against_68 rfl ⟨_, rfl, rfl⟩
      · rw [if_pos c46] at h
        refine zw_aload_n hX dX11_against_49 rfl ?_
        obtain ⟨b11, g, h⟩ := zb_some h
        refine zw_getr hX zl_X11_53 dX11_against_50 g ?_
        obtain ⟨v12, g, h⟩ := zb_some h
        refine zw_getNi hX zl_X11_354 dX11_against_53 g ?_
        refine zw_goto (tgt := 68) hX dX11_against_56 (by decide) ?_
        obtain rfl := Option.some.inj h
        exact zw_iret hX hr dX11_against_68 rfl ⟨_, rfl, rfl⟩
    · rintro X S9 rfl
      obtain rfl := Option.some.inj h
      exact zx_out hX hxt rfl
  · rintro X S9 rfl
    obtain rfl := Option.some.inj h
    exact zx_out hX hxt rfl
set_option maxHeartbeats 4000000 in
set_option maxRecDepth 100000 in
theorem zt_X11_against_J34 {p : Program} {l : Launch} {e : Env} {R : Room} {s : State} {m : MethodId} {args : Array Value} {below : List Frame} {meth : Method} {c : Code} {V : zm_V} {mc ms d rc rs : Nat} (hlt : l.stackTraces = false) (hxt : ∀ x ∈ c.exceptionTable.toList, False) (hX : zm_X p R s m args meth c RX11 "against" cX11_against 3 zk_E V mc ms) (hr : meth.sig.returnType = (some .int)) (hR : R.frames = d ∧ R.locals = 64 * d) (hd : 7 ≤ d) {N : Nat} {a0 : Nat} {i1 : Int32} {i2 : Int32} {out : ((Int32 ⊕ String) × zm_S)} (hc : 2 ≤ rc ∧ 12 ≤ rs) {S : zm_S} (h : zf_X11_against_J34 N a0 i1 i2 S = some out) : zw p l e R s m args below meth c (vx_MQ below (zm_Qc zk_E V (zq_i out)) (zm_XC zk_E V (zq_x out)) args s mc ms (fun q => V.2.2.2.1 ≤ q)) 3 zk_E V mc ms 34 [(0, .ref a0), (1, .int i1), (2, .int i2)] [] S rc rs := by
  unfold zf_X11_against_J34 at h
  refine zw_iconst (v := (0 : Int32)) hX dX11_against_34 (by decide) ?_
  refine zw_sub (lv' := [(0, .ref a0), (1, .int i1), (2, .int i2)]) (List.forall_mem_cons.mpr ⟨rfl, (List.forall_mem_cons.mpr ⟨rfl, (List.forall_mem_cons.mpr ⟨rfl, zs_nil⟩)⟩)⟩) ?_
  exact zt_X11_against_J35 hlt hxt hX hr hR hd ⟨by omega, by omega⟩ h
set_option maxHeartbeats 4000000 in
set_option maxRecDepth 100000 in
theorem zt_X11_against_J30 {p : Program} {l : Launch} {e : Env} {R : Room} {s : State} {m : MethodId} {args : Array Value} {below : List Frame} {meth : Method} {c : Code} {V : zm_V} {mc ms d rc rs : Nat} (hlt : l.stackTraces = false) (hxt : ∀ x ∈ c.exceptionTable.toList, False) (hX : zm_X p R s m args meth c RX11 "against" cX11_against 3 zk_E V mc ms) (hr : meth.sig.returnType = (some .int)) (hR : R.frames = d ∧ R.locals = 64 * d) (hd : 7 ≤ d) {N : Nat} {a0 : Nat} {i1 : Int32} {i2 : Int32} {out : ((Int32 ⊕ String) × zm_S)} (hc : 2 ≤ rc ∧ 12 ≤ rs) {S : zm_S} (h : zf_X11_against_J30 N a0 i1 i2 S = some out) : zw p l e R s m args below meth c (vx_MQ below (zm_Qc zk_E V (zq_i out)) (zm_XC zk_E V (zq_x out)) args s mc ms (fun q => V.2.2.2.1 ≤ q)) 3 zk_E V mc ms 30 [(0, .ref a0), (1, .int i1), (2, .int i2)] [] S rc rs := by
  unfold zf_X11_against_J30 at h
  refine zw_iconst (v := (1 : Int32)) hX dX11_against_30 (by decide) ?_
  refine zw_goto (tgt := 35) hX dX11_against_31 (by decide) ?_
  refine zw_sub (lv' := [(0, .ref a0), (1, .int i1), (2, .int i2)]) (List.forall_mem_cons.mpr ⟨rfl, (List.forall_mem_cons.mpr ⟨rfl, (List.forall_mem_cons.mpr ⟨rfl, zs_nil⟩)⟩)⟩) ?_
  exact zt_X11_against_J35 hlt hxt hX hr hR hd ⟨by omega, by omega⟩ h
set_option maxHeartbeats 4000000 in
set_option maxRecDepth 100000 in
theorem zt_X11_against {l : Launch} {V : zm_V} (hlt : l.stackTraces = false) {N : Nat} {S : zm_S} {out : ((Int32 ⊕ String) × zm_S)} {d : Nat} {a0 : Nat} {i1 : Int32} {i2 : Int32} (hd : 7 ≤ d) (h : zf_X11_against N a0 i1 i2 S = some out) : zm_Met l zk_E V yX11_against (.code yX11_against cX11_against 3 (some .int)) d [.ref a0, .int i1, .int i2] S 2 12 (zq_i out) (zq_x out) := by
  refine zm_of (by decide +kernel) (Nat.le_of_ble_eq_true rfl) ?_
  intro p e R s m args below meth c hRR hX hr hxt
  have hR : R.frames = d ∧ R.locals = 64 * d := by rw [hRR]; exact ⟨rfl, rfl⟩
  have hX : zm_X p R s m args meth c RX11 "against" cX11_against 3 zk_E V 2 12 := hX
  unfold zf_X11_against at h
  refine zw_sub (lv' := [(0, .ref a0), (1, .int i1), (2, .int i2)]) (List.forall_mem_cons.mpr ⟨rfl, (List.forall_mem_cons.mpr ⟨rfl, (List.forall_mem_cons.mpr ⟨rfl, zs_nil⟩)⟩)⟩) ?_
  refine zw_iload_n hX dX11_against_0 rfl ?_
  refine zw_iconst (v := (0 : Int32)) hX dX11_against_1 (by decide) ?_
  refine zw_iconst (v := (4 : Int32)) hX dX11_against_2 (by decide) ?_
  obtain ⟨r2, g, h⟩ := zb_some h
  refine zc_Si (as := [.int i2, .int (0 : Int32), .int (4 : Int32)]) hX (zt_X11_isWithin (d := d - 1) (by omega) g) zl_X11_133 dX11_against_3 ⟨rfl, rfl, Nat.le_of_ble_eq_true rfl⟩ ⟨by omega, by omega⟩ ?_
  refine zw_if_eq (tgt := 34) hX dX11_against_6 (by decide) (fun c6 => ?_) (fun c6 => ?_)
  · rw [if_pos c6] at h
    refine zw_sub (lv' := [(0, .ref a0), (1, .int i1), (2, .int i2)]) (List.forall_mem_cons.mpr ⟨rfl, (List.forall_mem_cons.mpr ⟨rfl, (List.forall_mem_cons.mpr ⟨rfl, zs_nil⟩)⟩)⟩) ?_
    exact zt_X11_against_J34 hlt hxt hX hr hR hd ⟨by omega, by omega⟩ h
  · rw [if_neg c6] at h
    refine zw_iload_n hX dX11_against_9 rfl ?_
    refine zw_if_eq (tgt := 30) hX dX11_against_10 (by decide) (fun c10 => ?_) (fun c10 => ?_)
    · rw [if_pos c10] at h
      refine zw_sub (lv' := [(0, .ref a0), (1, .int i1), (2, .int i2)]) (List.forall_mem_cons.mpr ⟨rfl, (List.forall_mem_cons.mpr ⟨rfl, (List.forall_mem_cons.mpr ⟨rfl, zs_nil⟩)⟩)⟩) ?_
      exact zt_X11_against_J30 hlt hxt hX hr hR hd ⟨by omega, by omega⟩ h
    · rw [if_neg c10] at h
      refine zw_iload_n hX dX11_against_13 rfl ?_
      refine zw_iconst (v := (0 : Int32)) hX dX11_against_14 (by decide) ?_
      refine zw_aload_n hX dX11_against_15 rfl ?_
      obtain ⟨b13, g, h⟩ := zb_some h
      refine zw_getr hX zl_X11_53 dX11_against_16 g ?_
      obtain ⟨_, gi, h⟩ := zb_some h
      obtain ⟨r15, g, h⟩ := zb_some h
      refine zc_Vi (as := []) hX gi (zt_X0_keptAgainst (d := d - 1) (by omega) g) zl_X11_351 rfl dX11_against_19 ⟨rfl, rfl, Nat.le_of_ble_eq_true rfl⟩ ⟨by omega, by omega⟩ ?_
      refine zw_iconst (v := (1 : Int32)) hX dX11_against_22 (by decide) ?_
      refine zw_isub hX dX11_against_23 ?_
      obtain ⟨r17, g, h⟩ := zb_some h
      refine zc_Si (as := [.int i1, .int (0 : Int32), .int (r15.1 - (1 : Int32))]) hX (zt_X11_isWithin (d := d - 1) (by omega) g) zl_X11_133 dX11_against_24 ⟨rfl, rfl, Nat.le_of_ble_eq_true rfl⟩ ⟨by omega, by omega⟩ ?_
      refine zw_if_eq (tgt := 34) hX dX11_against_27 (by decide) (fun c27 => ?_) (fun c27 => ?_)
      · rw [if_pos c27] at h
        refine zw_sub (lv' := [(0, .ref a0), (1, .int i1), (2, .int i2)]) (List.forall_mem_cons.mpr ⟨rfl, (List.forall_mem_cons.mpr ⟨rfl, (List.forall_mem_cons.mpr ⟨rfl, zs_nil⟩)⟩)⟩) ?_
        exact zt_X11_against_J34 hlt hxt hX hr hR hd ⟨by omega, by omega⟩ h
      · rw [if_neg c27] at h
        refine zw_sub (lv' := [(0, .ref a0), (1, .int i1), (2, .int i2)]) (List.forall_mem_cons.mpr ⟨rfl, (List.forall_mem_cons.mpr ⟨rfl, (List.forall_mem_cons.mpr ⟨rfl, zs_nil⟩)⟩)⟩) ?_
        exact zt_X11_against_J30 hlt hxt hX hr hR hd ⟨by omega, by omega⟩ h
set_option maxHeartbeats 4000000 in
set_option maxRecDepth 100000 in
theorem zt_X11_unit_J35 {p : Program} {l : Launch} {e : Env} {R : Room} {s : State} {m : MethodId} {args : Array Value} {below : List Frame} {meth : Method} {c : Code} {V : zm_V} {mc ms d rc rs : Nat} (hlt : l.stackTraces = false) (hxt : ∀ x ∈ c.exceptionTable.toList, False) (hX : zm_X p R s m args meth c RX11 "unit" cX11_unit 2 zk_E V mc ms) (hr : meth.sig.returnType = (some .int)) (hR : R.frames = d ∧ R.locals = 64 * d) (hd : 7 ≤ d) {N : Nat} {a0 : Nat} {i1 : Int32} {t0 : Int32} {out : ((Int32 ⊕ String) × zm_S)} (hc : 1 ≤ rc ∧ 6 ≤ rs) {S : zm_S} (h : zf_X11_unit_J35 N a0 i1 t0 S = some out) : zw p l e R s m args below meth c (vx_MQ below (zm_Qc zk_E V (zq_i out)) (zm_XC zk_E V (zq_x out)) args s mc ms (fun q => V.2.2.2.1 ≤ q)) 2 zk_E V mc ms 35 [(0, .ref a0), (1, .int i1)] [.int t0] S rc rs := by
  unfold zf_X11_unit_J35 at h
  obtain ⟨r, g, h⟩ := zb_some h
  refine zc_S (as := [.int t0]) hX (zt_X11_needState hlt (d := d - 1) (by omega) g) zl_X11_112 dX11_unit_35 ⟨rfl, rfl, Nat.le_of_ble_eq_true rfl⟩ ⟨by omega, by omega⟩ ⟨by omega, by omega⟩ ?_ ?_
  · rintro _ S7 ⟨⟨u6, rfl⟩, rfl⟩
    try dsimp only at h
    refine zw_aload_n hX dX11_unit_38 rfl ?_
    obtain ⟨b8, g, h⟩ := zb_some h
    refine zw_getr hX zl_X11_60 dX11_unit_39 g ?_
    refine zw_iload_n hX dX11_unit_42 rfl ?_
    obtain ⟨_, gi, h⟩ := zb_some h
    obtain ⟨r10, g, h⟩ := zb_some h
    refine zc_Vi (as := [.int i1]) hX gi (zt_X5_append (d := d - 1) (by omega) g) zl_X11_361 rfl dX11_unit_43 ⟨rfl, rfl, Nat.le_of_ble_eq_true rfl⟩ ⟨by omega, by omega⟩ ?_
    obtain rfl := Option.some.inj h
    exact zw_iret hX hr dX11_unit_46 rfl ⟨_, rfl, rfl⟩
  · rintro X S9 rfl
    obtain rfl := Option.some.inj h
    exact zx_out hX hxt rfl
set_option maxHeartbeats 4000000 in
set_option maxRecDepth 100000 in
theorem zt_X11_unit_J34 {p : Program} {l : Launch} {e : Env} {R : Room} {s : State} {m : MethodId} {args : Array Value} {below : List Frame} {meth : Method} {c : Code} {V : zm_V} {mc ms d rc rs : Nat} (hlt : l.stackTraces = false) (hxt : ∀ x ∈ c.exceptionTable.toList, False) (hX : zm_X p R s m args meth c RX11 "unit" cX11_unit 2 zk_E V mc ms) (hr : meth.sig.returnType = (some .int)) (hR : R.frames = d ∧ R.locals = 64 * d) (hd : 7 ≤ d) {N : Nat} {a0 : Nat} {i1 : Int32} {out : ((Int32 ⊕ String) × zm_S)} (hc : 1 ≤ rc ∧ 6 ≤ rs) {S : zm_S} (h : zf_X11_unit_J34 N a0 i1 S = some out) : zw p l e R s m args below meth c (vx_MQ below (zm_Qc zk_E V (zq_i out)) (zm_XC zk_E V (zq_x out)) args s mc ms (fun q => V.2.2.2.1 ≤ q)) 2 zk_E V mc ms 34 [(0, .ref a0), (1, .int i1)] [] S rc rs := by
  unfold zf_X11_unit_J34 at h
  refine zw_iconst (v := (0 : Int32)) hX dX11_unit_34 (by decide) ?_
  refine zw_sub (lv' := [(0, .ref a0), (1, .int i1)]) (List.forall_mem_cons.mpr ⟨rfl, (List.forall_mem_cons.mpr ⟨rfl, zs_nil⟩)⟩) ?_
  exact zt_X11_unit_J35 hlt hxt hX hr hR hd ⟨by omega, by omega⟩ h
set_option maxHeartbeats 4000000 in
set_option maxRecDepth 100000 in
theorem zt_X11_unit {l : Launch} {V : zm_V} (hlt : l.stackTraces = false) {N : Nat} {S : zm_S} {out : ((Int32 ⊕ String) × zm_S)} {d : Nat} {a0 : Nat} {i1 : Int32} (hd : 7 ≤ d) (h : zf_X11_unit N a0 i1 S = some out) : zm_Met l zk_E V yX11_unit (.code yX11_unit cX11_unit 2 (some .int)) d [.ref a0, .int i1] S 2 12 (zq_i out) (zq_x out) := by
  refine zm_of (by decide +kernel) (Nat.le_of_ble_eq_true rfl) ?_
  intro p e R s m args below meth c hRR hX hr hxt
  have hR : R.frames = d ∧ R.locals = 64 * d := by rw [hRR]; exact ⟨rfl, rfl⟩
  have hX : zm_X p R s m args meth c RX11 "unit" cX11_unit 2 zk_E V 2 12 := hX
  unfold zf_X11_unit at h
  refine zw_sub (lv' := [(0, .ref a0), (1, .int i1)]) (List.forall_mem_cons.mpr ⟨rfl, (List.forall_mem_cons.mpr ⟨rfl, zs_nil⟩)⟩) ?_
  refine zw_iload_n hX dX11_unit_0 rfl ?_
  refine zw_iconst (v := (0 : Int32)) hX dX11_unit_1 (by decide) ?_
  refine zw_bipush (v := (127 : Int32)) hX dX11_unit_2 (by decide) ?_
  obtain ⟨r2, g, h⟩ := zb_some h
  refine zc_Si (as := [.int i1, .int (0 : Int32), .int (127 : Int32)]) hX (zt_X11_isWithin (d := d - 1) (by omega) g) zl_X11_133 dX11_unit_4 ⟨rfl, rfl, Nat.le_of_ble_eq_true rfl⟩ ⟨by omega, by omega⟩ ?_
  obtain ⟨r, g, h⟩ := zb_some h
  refine zc_S (as := [.int r2.1]) hX (zt_X11_needArgument hlt (d := d - 1) (by omega) g) zl_X11_100 dX11_unit_7 ⟨rfl, rfl, Nat.le_of_ble_eq_true rfl⟩ ⟨by omega, by omega⟩ ⟨by omega, by omega⟩ ?_ ?_
  · rintro _ S4 ⟨⟨u3, rfl⟩, rfl⟩
    try dsimp only at h
    refine zw_aload_n hX dX11_unit_10 rfl ?_
    obtain ⟨v5, g, h⟩ := zb_some h
    refine zw_geti hX zl_X11_104 dX11_unit_11 g ?_
    refine zw_if_eq (tgt := 34) hX dX11_unit_14 (by decide) (fun c14 => ?_) (fun c14 => ?_)
    · rw [if_pos c14] at h
      refine zw_sub (lv' := [(0, .ref a0), (1, .int i1)]) (List.forall_mem_cons.mpr ⟨rfl, (List.forall_mem_cons.mpr ⟨rfl, zs_nil⟩)⟩) ?_
      exact zt_X11_unit_J34 hlt hxt hX hr hR hd ⟨by omega, by omega⟩ h
    · rw [if_neg c14] at h
      refine zw_aload_n hX dX11_unit_17 rfl ?_
      obtain ⟨b11, g, h⟩ := zb_some h
      refine zw_getr hX zl_X11_60 dX11_unit_18 g ?_
      obtain ⟨v12, g, h⟩ := zb_some h
      refine zw_getNi hX zl_X11_360 dX11_unit_21 g ?_
      refine zw_sipush (v := (2000 : Int32)) hX dX11_unit_24 (by decide) ?_
      refine zw_icmp_ge (tgt := 34) hX dX11_unit_27 (by decide) (fun c27 => ?_) (fun c27 => ?_)
      · rw [if_pos c27] at h
        refine zw_sub (lv' := [(0, .ref a0), (1, .int i1)]) (List.forall_mem_cons.mpr ⟨rfl, (List.forall_mem_cons.mpr ⟨rfl, zs_nil⟩)⟩) ?_
        exact zt_X11_unit_J34 hlt hxt hX hr hR hd ⟨by omega, by omega⟩ h
      · rw [if_neg c27] at h
        refine zw_iconst (v := (1 : Int32)) hX dX11_unit_30 (by decide) ?_
        refine zw_goto (tgt := 35) hX dX11_unit_31 (by decide) ?_
        refine zw_sub (lv' := [(0, .ref a0), (1, .int i1)]) (List.forall_mem_cons.mpr ⟨rfl, (List.forall_mem_cons.mpr ⟨rfl, zs_nil⟩)⟩) ?_
        exact zt_X11_unit_J35 hlt hxt hX hr hR hd ⟨by omega, by omega⟩ h
  · rintro X S9 rfl
    obtain rfl := Option.some.inj h
    exact zx_out hX hxt rfl
set_option maxHeartbeats 4000000 in
set_option maxRecDepth 100000 in
theorem zt_X11_isSentenceNumber {l : Launch} {V : zm_V} {N : Nat} {S : zm_S} {out : (Int32 × zm_S)} {d : Nat} {i0 : Int32} (hd : 2 ≤ d) (h : zf_X11_isSentenceNumber N i0 S = some out) : zm_Met l zk_E V yX11_isSentenceNumber (.code yX11_isSentenceNumber cX11_isSentenceNumber 1 (some .boolean)) d [.int i0] S 0 0 (zo_i out) zo_x := by
  refine zm_of (by decide +kernel) (Nat.le_of_ble_eq_true rfl) ?_
  intro p e R s m args below meth c hRR hX hr hxt
  have hR : R.frames = d ∧ R.locals = 64 * d := by rw [hRR]; exact ⟨rfl, rfl⟩
  have hX : zm_X p R s m args meth c RX11 "isSentenceNumber" cX11_isSentenceNumber 1 zk_E V 0 0 := hX
  unfold zf_X11_isSentenceNumber at h
  refine zw_sub (lv' := [(0, .int i0)]) (List.forall_mem_cons.mpr ⟨rfl, zs_nil⟩) ?_
  refine zw_iload_n hX dX11_isSentenceNumber_0 rfl ?_
  refine zw_iconst (v := (0 : Int32)) hX dX11_isSentenceNumber_1 (by decide) ?_
  refine zw_sipush (v := (9999 : Int32)) hX dX11_isSentenceNumber_2 (by decide) ?_
  obtain ⟨r2, g, h⟩ := zb_some h
  refine zc_Si (as := [.int i0, .int (0 : Int32), .int (9999 : Int32)]) hX (zt_X11_isWithin (d := d - 1) (by omega) g) zl_X11_133 dX11_isSentenceNumber_5 ⟨rfl, rfl, Nat.le_of_ble_eq_true rfl⟩ ⟨by omega, by omega⟩ ?_
  by_cases cz : r2.1 = 0 ∨ r2.1 = 1
  · rw [if_pos cz] at h
    obtain rfl := Option.some.inj h
    exact zw_iret hX hr dX11_isSentenceNumber_8 (zn_z cz) ⟨rfl, rfl⟩
  · rw [if_neg cz] at h
    cases h
set_option maxHeartbeats 4000000 in
set_option maxRecDepth 100000 in
theorem zt_X11_areSentenceNumbers_J112 {p : Program} {l : Launch} {e : Env} {R : Room} {s : State} {m : MethodId} {args : Array Value} {below : List Frame} {meth : Method} {c : Code} {V : zm_V} {mc ms d rc rs : Nat} (hX : zm_X p R s m args meth c RX11 "areSentenceNumbers" cX11_areSentenceNumbers 6 zk_E V mc ms) (hr : meth.sig.returnType = (some .boolean)) (hR : R.frames = d ∧ R.locals = 64 * d) (hd : 3 ≤ d) {N : Nat}  {out : (Int32 × zm_S)} {S : zm_S} (h : zf_X11_areSentenceNumbers_J112 N  S = some out) : zw p l e R s m args below meth c (vx_MQ below (zm_Qc zk_E V (zo_i out)) (zm_XC zk_E V zo_x) args s mc ms (fun q => V.2.2.2.1 ≤ q)) 6 zk_E V mc ms 112 [] [] S rc rs := by
  unfold zf_X11_areSentenceNumbers_J112 at h
  refine zw_iconst (v := (0 : Int32)) hX dX11_areSentenceNumbers_112 (by decide) ?_
  refine zw_istore hX dX11_areSentenceNumbers_113 (by decide) ?_
  refine zw_iload hX dX11_areSentenceNumbers_115 rfl ?_
  obtain rfl := Option.some.inj h
  exact zw_iret hX hr dX11_areSentenceNumbers_117 rfl ⟨rfl, rfl⟩
set_option maxHeartbeats 4000000 in
set_option maxRecDepth 100000 in
theorem zt_X11_areSentenceNumbers_J90 {p : Program} {l : Launch} {e : Env} {R : Room} {s : State} {m : MethodId} {args : Array Value} {below : List Frame} {meth : Method} {c : Code} {V : zm_V} {mc ms d rc rs : Nat} (hX : zm_X p R s m args meth c RX11 "areSentenceNumbers" cX11_areSentenceNumbers 6 zk_E V mc ms) (hr : meth.sig.returnType = (some .boolean)) (hR : R.frames = d ∧ R.locals = 64 * d) (hd : 3 ≤ d) {N : Nat} {i0 : Int32} {i4 : Int32} {i5 : Int32} {out : (Int32 × zm_S)} {S : zm_S} (h : zf_X11_areSentenceNumbers_J90 N i0 i4 i5 S = some out) : zw p l e R s m args below meth c (vx_MQ below (zm_Qc zk_E V (zo_i out)) (zm_XC zk_E V zo_x) args s mc ms (fun q => V.2.2.2.1 ≤ q)) 6 zk_E V mc ms 90 [(0, .int i0), (4, .int i4), (5, .int i5)] [] S rc rs := by
  unfold zf_X11_areSentenceNumbers_J90 at h
  refine zw_iload_n hX dX11_areSentenceNumbers_90 rfl ?_
  refine zw_iconst (v := (1 : Int32)) hX dX11_areSentenceNumbers_91 (by decide) ?_
  refine zw_icmp_ne (tgt := 115) hX dX11_areSentenceNumbers_92 (by decide) (fun c92 => ?_) (fun c92 => ?_)
  · rw [if_neg c92] at h
    refine zw_iload hX dX11_areSentenceNumbers_115 rfl ?_
    by_cases cz : i5 = 0 ∨ i5 = 1
    · rw [if_pos cz] at h
      obtain rfl := Option.some.inj h
      exact zw_iret hX hr dX11_areSentenceNumbers_117 (zn_z cz) ⟨rfl, rfl⟩
    · rw [if_neg cz] at h
      cases h
  · rw [if_pos c92] at h
    refine zw_iload hX dX11_areSentenceNumbers_95 rfl ?_
    refine zw_if_eq (tgt := 112) hX dX11_areSentenceNumbers_97 (by decide) (fun c97 => ?_) (fun c97 => ?_)
    · rw [if_pos c97] at h
      refine zw_sub (lv' := []) zs_nil ?_
      exact zt_X11_areSentenceNumbers_J112 hX hr hR hd h
    · rw [if_neg c97] at h
      refine zw_iload hX dX11_areSentenceNumbers_100 rfl ?_
      obtain ⟨r4, g, h⟩ := zb_some h
      refine zc_Si (as := [.int i4]) hX (zt_X11_isSentenceNumber (d := d - 1) (by omega) g) zl_X11_620 dX11_areSentenceNumbers_102 ⟨rfl, rfl, Nat.le_of_ble_eq_true rfl⟩ ⟨by omega, by omega⟩ ?_
      refine zw_if_eq (tgt := 112) hX dX11_areSentenceNumbers_105 (by decide) (fun c105 => ?_) (fun c105 => ?_)
      · rw [if_pos c105] at h
        refine zw_sub (lv' := []) zs_nil ?_
        exact zt_X11_areSentenceNumbers_J112 hX hr hR hd h
      · rw [if_neg c105] at h
        refine zw_iconst (v := (1 : Int32)) hX dX11_areSentenceNumbers_108 (by decide) ?_
        refine zw_goto (tgt := 113) hX dX11_areSentenceNumbers_109 (by decide) ?_
        refine zw_istore hX dX11_areSentenceNumbers_113 (by decide) ?_
        refine zw_iload hX dX11_areSentenceNumbers_115 rfl ?_
        obtain rfl := Option.some.inj h
        exact zw_iret hX hr dX11_areSentenceNumbers_117 rfl ⟨rfl, rfl⟩
set_option maxHeartbeats 4000000 in
set_option maxRecDepth 100000 in
theorem zt_X11_areSentenceNumbers_J88 {p : Program} {l : Launch} {e : Env} {R : Room} {s : State} {m : MethodId} {args : Array Value} {below : List Frame} {meth : Method} {c : Code} {V : zm_V} {mc ms d rc rs : Nat} (hX : zm_X p R s m args meth c RX11 "areSentenceNumbers" cX11_areSentenceNumbers 6 zk_E V mc ms) (hr : meth.sig.returnType = (some .boolean)) (hR : R.frames = d ∧ R.locals = 64 * d) (hd : 3 ≤ d) {N : Nat} {i0 : Int32} {i4 : Int32} {t0 : Int32} {out : (Int32 × zm_S)} {S : zm_S} (h : zf_X11_areSentenceNumbers_J88 N i0 i4 t0 S = some out) : zw p l e R s m args below meth c (vx_MQ below (zm_Qc zk_E V (zo_i out)) (zm_XC zk_E V zo_x) args s mc ms (fun q => V.2.2.2.1 ≤ q)) 6 zk_E V mc ms 88 [(0, .int i0), (4, .int i4)] [.int t0] S rc rs := by
  unfold zf_X11_areSentenceNumbers_J88 at h
  refine zw_istore hX dX11_areSentenceNumbers_88 (by decide) ?_
  refine zw_sub (lv' := [(0, .int i0), (4, .int i4), (5, .int t0)]) (List.forall_mem_cons.mpr ⟨rfl, (List.forall_mem_cons.mpr ⟨rfl, (List.forall_mem_cons.mpr ⟨rfl, zs_nil⟩)⟩)⟩) ?_
  exact zt_X11_areSentenceNumbers_J90 hX hr hR hd h
set_option maxHeartbeats 4000000 in
set_option maxRecDepth 100000 in
theorem zt_X11_areSentenceNumbers_J87 {p : Program} {l : Launch} {e : Env} {R : Room} {s : State} {m : MethodId} {args : Array Value} {below : List Frame} {meth : Method} {c : Code} {V : zm_V} {mc ms d rc rs : Nat} (hX : zm_X p R s m args meth c RX11 "areSentenceNumbers" cX11_areSentenceNumbers 6 zk_E V mc ms) (hr : meth.sig.returnType = (some .boolean)) (hR : R.frames = d ∧ R.locals = 64 * d) (hd : 3 ≤ d) {N : Nat} {i0 : Int32} {i4 : Int32} {out : (Int32 × zm_S)} {S : zm_S} (h : zf_X11_areSentenceNumbers_J87 N i0 i4 S = some out) : zw p l e R s m args below meth c (vx_MQ below (zm_Qc zk_E V (zo_i out)) (zm_XC zk_E V zo_x) args s mc ms (fun q => V.2.2.2.1 ≤ q)) 6 zk_E V mc ms 87 [(0, .int i0), (4, .int i4)] [] S rc rs := by
  unfold zf_X11_areSentenceNumbers_J87 at h
  refine zw_iconst (v := (0 : Int32)) hX dX11_areSentenceNumbers_87 (by decide) ?_
  refine zw_sub (lv' := [(0, .int i0), (4, .int i4)]) (List.forall_mem_cons.mpr ⟨rfl, (List.forall_mem_cons.mpr ⟨rfl, zs_nil⟩)⟩) ?_
  exact zt_X11_areSentenceNumbers_J88 hX hr hR hd h
set_option maxHeartbeats 4000000 in
set_option maxRecDepth 100000 in
theorem zt_X11_areSentenceNumbers_J63 {p : Program} {l : Launch} {e : Env} {R : Room} {s : State} {m : MethodId} {args : Array Value} {below : List Frame} {meth : Method} {c : Code} {V : zm_V} {mc ms d rc rs : Nat} (hX : zm_X p R s m args meth c RX11 "areSentenceNumbers" cX11_areSentenceNumbers 6 zk_E V mc ms) (hr : meth.sig.returnType = (some .boolean)) (hR : R.frames = d ∧ R.locals = 64 * d) (hd : 3 ≤ d) {N : Nat} {i0 : Int32} {i4 : Int32} {i5 : Int32} {out : (Int32 × zm_S)} {S : zm_S} (h : zf_X11_areSentenceNumbers_J63 N i0 i4 i5 S = some out) : zw p l e R s m args below meth c (vx_MQ below (zm_Qc zk_E V (zo_i out)) (zm_XC zk_E V zo_x) args s mc ms (fun q => V.2.2.2.1 ≤ q)) 6 zk_E V mc ms 63 [(0, .int i0), (4, .int i4), (5, .int i5)] [] S rc rs := by
  unfold zf_X11_areSentenceNumbers_J63 at h
  refine zw_iload_n hX dX11_areSentenceNumbers_63 rfl ?_
  refine zw_if_ne (tgt := 90) hX dX11_areSentenceNumbers_64 (by decide) (fun c64 => ?_) (fun c64 => ?_)
  · rw [if_neg c64] at h
    refine zw_sub (lv' := [(0, .int i0), (4, .int i4), (5, .int i5)]) (List.forall_mem_cons.mpr ⟨rfl, (List.forall_mem_cons.mpr ⟨rfl, (List.forall_mem_cons.mpr ⟨rfl, zs_nil⟩)⟩)⟩) ?_
    exact zt_X11_areSentenceNumbers_J90 hX hr hR hd h
  · rw [if_pos c64] at h
    refine zw_iload hX dX11_areSentenceNumbers_67 rfl ?_
    refine zw_if_eq (tgt := 87) hX dX11_areSentenceNumbers_69 (by decide) (fun c69 => ?_) (fun c69 => ?_)
    · rw [if_pos c69] at h
      refine zw_sub (lv' := [(0, .int i0), (4, .int i4)]) (List.forall_mem_cons.mpr ⟨rfl, (List.forall_mem_cons.mpr ⟨rfl, zs_nil⟩)⟩) ?_
      exact zt_X11_areSentenceNumbers_J87 hX hr hR hd h
    · rw [if_neg c69] at h
      refine zw_iload hX dX11_areSentenceNumbers_72 rfl ?_
      refine zw_iconst (v := (1 : Int32)) hX dX11_areSentenceNumbers_74 (by decide) ?_
      refine zw_bipush (v := (12 : Int32)) hX dX11_areSentenceNumbers_75 (by decide) ?_
      obtain ⟨r6, g, h⟩ := zb_some h
      refine zc_Si (as := [.int i4, .int (1 : Int32), .int (12 : Int32)]) hX (zt_X11_isWithin (d := d - 1) (by omega) g) zl_X11_133 dX11_areSentenceNumbers_77 ⟨rfl, rfl, Nat.le_of_ble_eq_true rfl⟩ ⟨by omega, by omega⟩ ?_
      refine zw_if_eq (tgt := 87) hX dX11_areSentenceNumbers_80 (by decide) (fun c80 => ?_) (fun c80 => ?_)
      · rw [if_pos c80] at h
        refine zw_sub (lv' := [(0, .int i0), (4, .int i4)]) (List.forall_mem_cons.mpr ⟨rfl, (List.forall_mem_cons.mpr ⟨rfl, zs_nil⟩)⟩) ?_
        exact zt_X11_areSentenceNumbers_J87 hX hr hR hd h
      · rw [if_neg c80] at h
        refine zw_iconst (v := (1 : Int32)) hX dX11_areSentenceNumbers_83 (by decide) ?_
        refine zw_goto (tgt := 88) hX dX11_areSentenceNumbers_84 (by decide) ?_
        refine zw_sub (lv' := [(0, .int i0), (4, .int i4)]) (List.forall_mem_cons.mpr ⟨rfl, (List.forall_mem_cons.mpr ⟨rfl, zs_nil⟩)⟩) ?_
        exact zt_X11_areSentenceNumbers_J88 hX hr hR hd h
set_option maxHeartbeats 4000000 in
set_option maxRecDepth 100000 in
theorem zt_X11_areSentenceNumbers_J61 {p : Program} {l : Launch} {e : Env} {R : Room} {s : State} {m : MethodId} {args : Array Value} {below : List Frame} {meth : Method} {c : Code} {V : zm_V} {mc ms d rc rs : Nat} (hX : zm_X p R s m args meth c RX11 "areSentenceNumbers" cX11_areSentenceNumbers 6 zk_E V mc ms) (hr : meth.sig.returnType = (some .boolean)) (hR : R.frames = d ∧ R.locals = 64 * d) (hd : 3 ≤ d) {N : Nat} {i0 : Int32} {i4 : Int32} {t0 : Int32} {out : (Int32 × zm_S)} {S : zm_S} (h : zf_X11_areSentenceNumbers_J61 N i0 i4 t0 S = some out) : zw p l e R s m args below meth c (vx_MQ below (zm_Qc zk_E V (zo_i out)) (zm_XC zk_E V zo_x) args s mc ms (fun q => V.2.2.2.1 ≤ q)) 6 zk_E V mc ms 61 [(0, .int i0), (4, .int i4)] [.int t0] S rc rs := by
  unfold zf_X11_areSentenceNumbers_J61 at h
  refine zw_istore hX dX11_areSentenceNumbers_61 (by decide) ?_
  refine zw_sub (lv' := [(0, .int i0), (4, .int i4), (5, .int t0)]) (List.forall_mem_cons.mpr ⟨rfl, (List.forall_mem_cons.mpr ⟨rfl, (List.forall_mem_cons.mpr ⟨rfl, zs_nil⟩)⟩)⟩) ?_
  exact zt_X11_areSentenceNumbers_J63 hX hr hR hd h
set_option maxHeartbeats 4000000 in
set_option maxRecDepth 100000 in
theorem zt_X11_areSentenceNumbers_J60 {p : Program} {l : Launch} {e : Env} {R : Room} {s : State} {m : MethodId} {args : Array Value} {below : List Frame} {meth : Method} {c : Code} {V : zm_V} {mc ms d rc rs : Nat} (hX : zm_X p R s m args meth c RX11 "areSentenceNumbers" cX11_areSentenceNumbers 6 zk_E V mc ms) (hr : meth.sig.returnType = (some .boolean)) (hR : R.frames = d ∧ R.locals = 64 * d) (hd : 3 ≤ d) {N : Nat} {i0 : Int32} {i4 : Int32} {out : (Int32 × zm_S)} {S : zm_S} (h : zf_X11_areSentenceNumbers_J60 N i0 i4 S = some out) : zw p l e R s m args below meth c (vx_MQ below (zm_Qc zk_E V (zo_i out)) (zm_XC zk_E V zo_x) args s mc ms (fun q => V.2.2.2.1 ≤ q)) 6 zk_E V mc ms 60 [(0, .int i0), (4, .int i4)] [] S rc rs := by
  unfold zf_X11_areSentenceNumbers_J60 at h
  refine zw_iconst (v := (0 : Int32)) hX dX11_areSentenceNumbers_60 (by decide) ?_
  refine zw_sub (lv' := [(0, .int i0), (4, .int i4)]) (List.forall_mem_cons.mpr ⟨rfl, (List.forall_mem_cons.mpr ⟨rfl, zs_nil⟩)⟩) ?_
  exact zt_X11_areSentenceNumbers_J61 hX hr hR hd h
set_option maxHeartbeats 4000000 in
set_option maxRecDepth 100000 in
theorem zt_X11_areSentenceNumbers_J44 {p : Program} {l : Launch} {e : Env} {R : Room} {s : State} {m : MethodId} {args : Array Value} {below : List Frame} {meth : Method} {c : Code} {V : zm_V} {mc ms d rc rs : Nat} (hX : zm_X p R s m args meth c RX11 "areSentenceNumbers" cX11_areSentenceNumbers 6 zk_E V mc ms) (hr : meth.sig.returnType = (some .boolean)) (hR : R.frames = d ∧ R.locals = 64 * d) (hd : 3 ≤ d) {N : Nat} {i0 : Int32} {i3 : Int32} {i4 : Int32} {i5 : Int32} {out : (Int32 × zm_S)} {S : zm_S} (h : zf_X11_areSentenceNumbers_J44 N i0 i3 i4 i5 S = some out) : zw p l e R s m args below meth c (vx_MQ below (zm_Qc zk_E V (zo_i out)) (zm_XC zk_E V zo_x) args s mc ms (fun q => V.2.2.2.1 ≤ q)) 6 zk_E V mc ms 44 [(0, .int i0), (3, .int i3), (4, .int i4), (5, .int i5)] [] S rc rs := by
  unfold zf_X11_areSentenceNumbers_J44 at h
  refine zw_iload hX dX11_areSentenceNumbers_44 rfl ?_
  refine zw_if_eq (tgt := 60) hX dX11_areSentenceNumbers_46 (by decide) (fun c46 => ?_) (fun c46 => ?_)
  · rw [if_pos c46] at h
    refine zw_sub (lv' := [(0, .int i0), (4, .int i4)]) (List.forall_mem_cons.mpr ⟨rfl, (List.forall_mem_cons.mpr ⟨rfl, zs_nil⟩)⟩) ?_
    exact zt_X11_areSentenceNumbers_J60 hX hr hR hd h
  · rw [if_neg c46] at h
    refine zw_iload_n hX dX11_areSentenceNumbers_49 rfl ?_
    obtain ⟨r8, g, h⟩ := zb_some h
    refine zc_Si (as := [.int i3]) hX (zt_X11_isSentenceNumber (d := d - 1) (by omega) g) zl_X11_620 dX11_areSentenceNumbers_50 ⟨rfl, rfl, Nat.le_of_ble_eq_true rfl⟩ ⟨by omega, by omega⟩ ?_
    refine zw_if_eq (tgt := 60) hX dX11_areSentenceNumbers_53 (by decide) (fun c53 => ?_) (fun c53 => ?_)
    · rw [if_pos c53] at h
      refine zw_sub (lv' := [(0, .int i0), (4, .int i4)]) (List.forall_mem_cons.mpr ⟨rfl, (List.forall_mem_cons.mpr ⟨rfl, zs_nil⟩)⟩) ?_
      exact zt_X11_areSentenceNumbers_J60 hX hr hR hd h
    · rw [if_neg c53] at h
      refine zw_iconst (v := (1 : Int32)) hX dX11_areSentenceNumbers_56 (by decide) ?_
      refine zw_goto (tgt := 61) hX dX11_areSentenceNumbers_57 (by decide) ?_
      refine zw_sub (lv' := [(0, .int i0), (4, .int i4)]) (List.forall_mem_cons.mpr ⟨rfl, (List.forall_mem_cons.mpr ⟨rfl, zs_nil⟩)⟩) ?_
      exact zt_X11_areSentenceNumbers_J61 hX hr hR hd h
set_option maxHeartbeats 4000000 in
set_option maxRecDepth 100000 in
theorem zt_X11_areSentenceNumbers_J30 {p : Program} {l : Launch} {e : Env} {R : Room} {s : State} {m : MethodId} {args : Array Value} {below : List Frame} {meth : Method} {c : Code} {V : zm_V} {mc ms d rc rs : Nat} (hX : zm_X p R s m args meth c RX11 "areSentenceNumbers" cX11_areSentenceNumbers 6 zk_E V mc ms) (hr : meth.sig.returnType = (some .boolean)) (hR : R.frames = d ∧ R.locals = 64 * d) (hd : 3 ≤ d) {N : Nat} {i0 : Int32} {i3 : Int32} {i4 : Int32} {i5 : Int32} {out : (Int32 × zm_S)} {S : zm_S} (h : zf_X11_areSentenceNumbers_J30 N i0 i3 i4 i5 S = some out) : zw p l e R s m args below meth c (vx_MQ below (zm_Qc zk_E V (zo_i out)) (zm_XC zk_E V zo_x) args s mc ms (fun q => V.2.2.2.1 ≤ q)) 6 zk_E V mc ms 30 [(0, .int i0), (3, .int i3), (4, .int i4), (5, .int i5)] [] S rc rs := by
  unfold zf_X11_areSentenceNumbers_J30 at h
  refine zw_iload_n hX dX11_areSentenceNumbers_30 rfl ?_
  refine zw_if_eq (tgt := 44) hX dX11_areSentenceNumbers_31 (by decide) (fun c31 => ?_) (fun c31 => ?_)
  · rw [if_pos c31] at h
    refine zw_sub (lv' := [(0, .int i0), (3, .int i3), (4, .int i4), (5, .int i5)]) (List.forall_mem_cons.mpr ⟨rfl, (List.forall_mem_cons.mpr ⟨rfl, (List.forall_mem_cons.mpr ⟨rfl, (List.forall_mem_cons.mpr ⟨rfl, zs_nil⟩)⟩)⟩)⟩) ?_
    exact zt_X11_areSentenceNumbers_J44 hX hr hR hd h
  · rw [if_neg c31] at h
    refine zw_iload_n hX dX11_areSentenceNumbers_34 rfl ?_
    refine zw_iconst (v := (1 : Int32)) hX dX11_areSentenceNumbers_35 (by decide) ?_
    refine zw_icmp_eq (tgt := 44) hX dX11_areSentenceNumbers_36 (by decide) (fun c36 => ?_) (fun c36 => ?_)
    · rw [if_pos c36] at h
      refine zw_sub (lv' := [(0, .int i0), (3, .int i3), (4, .int i4), (5, .int i5)]) (List.forall_mem_cons.mpr ⟨rfl, (List.forall_mem_cons.mpr ⟨rfl, (List.forall_mem_cons.mpr ⟨rfl, (List.forall_mem_cons.mpr ⟨rfl, zs_nil⟩)⟩)⟩)⟩) ?_
      exact zt_X11_areSentenceNumbers_J44 hX hr hR hd h
    · rw [if_neg c36] at h
      refine zw_iload_n hX dX11_areSentenceNumbers_39 rfl ?_
      refine zw_iconst (v := (3 : Int32)) hX dX11_areSentenceNumbers_40 (by decide) ?_
      refine zw_icmp_ne (tgt := 63) hX dX11_areSentenceNumbers_41 (by decide) (fun c41 => ?_) (fun c41 => ?_)
      · rw [if_neg c41] at h
        refine zw_sub (lv' := [(0, .int i0), (4, .int i4), (5, .int i5)]) (List.forall_mem_cons.mpr ⟨rfl, (List.forall_mem_cons.mpr ⟨rfl, (List.forall_mem_cons.mpr ⟨rfl, zs_nil⟩)⟩)⟩) ?_
        exact zt_X11_areSentenceNumbers_J63 hX hr hR hd h
      · rw [if_pos c41] at h
        refine zw_sub (lv' := [(0, .int i0), (3, .int i3), (4, .int i4), (5, .int i5)]) (List.forall_mem_cons.mpr ⟨rfl, (List.forall_mem_cons.mpr ⟨rfl, (List.forall_mem_cons.mpr ⟨rfl, (List.forall_mem_cons.mpr ⟨rfl, zs_nil⟩)⟩)⟩)⟩) ?_
        exact zt_X11_areSentenceNumbers_J44 hX hr hR hd h
set_option maxHeartbeats 4000000 in
set_option maxRecDepth 100000 in
theorem zt_X11_areSentenceNumbers_J28 {p : Program} {l : Launch} {e : Env} {R : Room} {s : State} {m : MethodId} {args : Array Value} {below : List Frame} {meth : Method} {c : Code} {V : zm_V} {mc ms d rc rs : Nat} (hX : zm_X p R s m args meth c RX11 "areSentenceNumbers" cX11_areSentenceNumbers 6 zk_E V mc ms) (hr : meth.sig.returnType = (some .boolean)) (hR : R.frames = d ∧ R.locals = 64 * d) (hd : 3 ≤ d) {N : Nat} {i0 : Int32} {i3 : Int32} {i4 : Int32} {t0 : Int32} {out : (Int32 × zm_S)} {S : zm_S} (h : zf_X11_areSentenceNumbers_J28 N i0 i3 i4 t0 S = some out) : zw p l e R s m args below meth c (vx_MQ below (zm_Qc zk_E V (zo_i out)) (zm_XC zk_E V zo_x) args s mc ms (fun q => V.2.2.2.1 ≤ q)) 6 zk_E V mc ms 28 [(0, .int i0), (3, .int i3), (4, .int i4)] [.int t0] S rc rs := by
  unfold zf_X11_areSentenceNumbers_J28 at h
  refine zw_istore hX dX11_areSentenceNumbers_28 (by decide) ?_
  refine zw_sub (lv' := [(0, .int i0), (3, .int i3), (4, .int i4), (5, .int t0)]) (List.forall_mem_cons.mpr ⟨rfl, (List.forall_mem_cons.mpr ⟨rfl, (List.forall_mem_cons.mpr ⟨rfl, (List.forall_mem_cons.mpr ⟨rfl, zs_nil⟩)⟩)⟩)⟩) ?_
  exact zt_X11_areSentenceNumbers_J30 hX hr hR hd h
set_option maxHeartbeats 4000000 in
set_option maxRecDepth 100000 in
theorem zt_X11_areSentenceNumbers_J27 {p : Program} {l : Launch} {e : Env} {R : Room} {s : State} {m : MethodId} {args : Array Value} {below : List Frame} {meth : Method} {c : Code} {V : zm_V} {mc ms d rc rs : Nat} (hX : zm_X p R s m args meth c RX11 "areSentenceNumbers" cX11_areSentenceNumbers 6 zk_E V mc ms) (hr : meth.sig.returnType = (some .boolean)) (hR : R.frames = d ∧ R.locals = 64 * d) (hd : 3 ≤ d) {N : Nat} {i0 : Int32} {i3 : Int32} {i4 : Int32} {out : (Int32 × zm_S)} {S : zm_S} (h : zf_X11_areSentenceNumbers_J27 N i0 i3 i4 S = some out) : zw p l e R s m args below meth c (vx_MQ below (zm_Qc zk_E V (zo_i out)) (zm_XC zk_E V zo_x) args s mc ms (fun q => V.2.2.2.1 ≤ q)) 6 zk_E V mc ms 27 [(0, .int i0), (3, .int i3), (4, .int i4)] [] S rc rs := by
  unfold zf_X11_areSentenceNumbers_J27 at h
  refine zw_iconst (v := (0 : Int32)) hX dX11_areSentenceNumbers_27 (by decide) ?_
  refine zw_sub (lv' := [(0, .int i0), (3, .int i3), (4, .int i4)]) (List.forall_mem_cons.mpr ⟨rfl, (List.forall_mem_cons.mpr ⟨rfl, (List.forall_mem_cons.mpr ⟨rfl, zs_nil⟩)⟩)⟩) ?_
  exact zt_X11_areSentenceNumbers_J28 hX hr hR hd h
set_option maxHeartbeats 4000000 in
set_option maxRecDepth 100000 in
theorem zt_X11_areSentenceNumbers {l : Launch} {V : zm_V} {N : Nat} {S : zm_S} {out : (Int32 × zm_S)} {d : Nat} {i0 : Int32} {i1 : Int32} {i2 : Int32} {i3 : Int32} {i4 : Int32} (hd : 3 ≤ d) (h : zf_X11_areSentenceNumbers N i0 i1 i2 i3 i4 S = some out) : zm_Met l zk_E V yX11_areSentenceNumbers (.code yX11_areSentenceNumbers cX11_areSentenceNumbers 6 (some .boolean)) d [.int i0, .int i1, .int i2, .int i3, .int i4] S 0 0 (zo_i out) zo_x := by
  refine zm_of (by decide +kernel) (Nat.le_of_ble_eq_true rfl) ?_
  intro p e R s m args below meth c hRR hX hr hxt
  have hR : R.frames = d ∧ R.locals = 64 * d := by rw [hRR]; exact ⟨rfl, rfl⟩
  have hX : zm_X p R s m args meth c RX11 "areSentenceNumbers" cX11_areSentenceNumbers 6 zk_E V 0 0 := hX
  unfold zf_X11_areSentenceNumbers at h
  refine zw_sub (lv' := [(0, .int i0), (1, .int i1), (2, .int i2), (3, .int i3), (4, .int i4)]) (List.forall_mem_cons.mpr ⟨rfl, (List.forall_mem_cons.mpr ⟨rfl, (List.forall_mem_cons.mpr ⟨rfl, (List.forall_mem_cons.mpr ⟨rfl, (List.forall_mem_cons.mpr ⟨rfl, zs_nil⟩)⟩)⟩)⟩)⟩) ?_
  refine zw_iload_n hX dX11_areSentenceNumbers_0 rfl ?_
  obtain ⟨r2, g, h⟩ := zb_some h
  refine zc_Si (as := [.int i1]) hX (zt_X11_isSentenceNumber (d := d - 1) (by omega) g) zl_X11_620 dX11_areSentenceNumbers_1 ⟨rfl, rfl, Nat.le_of_ble_eq_true rfl⟩ ⟨by omega, by omega⟩ ?_
  refine zw_istore hX dX11_areSentenceNumbers_4 (by decide) ?_
  refine zw_iload_n hX dX11_areSentenceNumbers_6 rfl ?_
  refine zw_iconst (v := (4 : Int32)) hX dX11_areSentenceNumbers_7 (by decide) ?_
  refine zw_icmp_eq (tgt := 30) hX dX11_areSentenceNumbers_8 (by decide) (fun c8 => ?_) (fun c8 => ?_)
  · rw [if_pos c8] at h
    refine zw_sub (lv' := [(0, .int i0), (3, .int i3), (4, .int i4), (5, .int r2.1)]) (List.forall_mem_cons.mpr ⟨rfl, (List.forall_mem_cons.mpr ⟨rfl, (List.forall_mem_cons.mpr ⟨rfl, (List.forall_mem_cons.mpr ⟨rfl, zs_nil⟩)⟩)⟩)⟩) ?_
    exact zt_X11_areSentenceNumbers_J30 hX hr hR hd h
  · rw [if_neg c8] at h
    refine zw_iload hX dX11_areSentenceNumbers_11 rfl ?_
    refine zw_if_eq (tgt := 27) hX dX11_areSentenceNumbers_13 (by decide) (fun c13 => ?_) (fun c13 => ?_)
    · rw [if_pos c13] at h
      refine zw_sub (lv' := [(0, .int i0), (3, .int i3), (4, .int i4)]) (List.forall_mem_cons.mpr ⟨rfl, (List.forall_mem_cons.mpr ⟨rfl, (List.forall_mem_cons.mpr ⟨rfl, zs_nil⟩)⟩)⟩) ?_
      exact zt_X11_areSentenceNumbers_J27 hX hr hR hd h
    · rw [if_neg c13] at h
      refine zw_iload_n hX dX11_areSentenceNumbers_16 rfl ?_
      obtain ⟨r10, g, h⟩ := zb_some h
      refine zc_Si (as := [.int i2]) hX (zt_X11_isSentenceNumber (d := d - 1) (by omega) g) zl_X11_620 dX11_areSentenceNumbers_17 ⟨rfl, rfl, Nat.le_of_ble_eq_true rfl⟩ ⟨by omega, by omega⟩ ?_
      refine zw_if_eq (tgt := 27) hX dX11_areSentenceNumbers_20 (by decide) (fun c20 => ?_) (fun c20 => ?_)
      · rw [if_pos c20] at h
        refine zw_sub (lv' := [(0, .int i0), (3, .int i3), (4, .int i4)]) (List.forall_mem_cons.mpr ⟨rfl, (List.forall_mem_cons.mpr ⟨rfl, (List.forall_mem_cons.mpr ⟨rfl, zs_nil⟩)⟩)⟩) ?_
        exact zt_X11_areSentenceNumbers_J27 hX hr hR hd h
      · rw [if_neg c20] at h
        refine zw_iconst (v := (1 : Int32)) hX dX11_areSentenceNumbers_23 (by decide) ?_
        refine zw_goto (tgt := 28) hX dX11_areSentenceNumbers_24 (by decide) ?_
        refine zw_sub (lv' := [(0, .int i0), (3, .int i3), (4, .int i4)]) (List.forall_mem_cons.mpr ⟨rfl, (List.forall_mem_cons.mpr ⟨rfl, (List.forall_mem_cons.mpr ⟨rfl, zs_nil⟩)⟩)⟩) ?_
        exact zt_X11_areSentenceNumbers_J28 hX hr hR hd h
set_option maxHeartbeats 4000000 in
set_option maxRecDepth 100000 in
theorem zt_X11_sentence_J66 {p : Program} {l : Launch} {e : Env} {R : Room} {s : State} {m : MethodId} {args : Array Value} {below : List Frame} {meth : Method} {c : Code} {V : zm_V} {mc ms d rc rs : Nat} (hlt : l.stackTraces = false) (hxt : ∀ x ∈ c.exceptionTable.toList, False) (hX : zm_X p R s m args meth c RX11 "sentence" cX11_sentence 7 zk_E V mc ms) (hr : meth.sig.returnType = (some .int)) (hR : R.frames = d ∧ R.locals = 64 * d) (hd : 7 ≤ d) {N : Nat} {a0 : Nat} {i6 : Int32} {t0 : Int32} {out : ((Int32 ⊕ String) × zm_S)} (hc : 1 ≤ rc ∧ 6 ≤ rs) {S : zm_S} (h : zf_X11_sentence_J66 N a0 i6 t0 S = some out) : zw p l e R s m args below meth c (vx_MQ below (zm_Qc zk_E V (zq_i out)) (zm_XC zk_E V (zq_x out)) args s mc ms (fun q => V.2.2.2.1 ≤ q)) 7 zk_E V mc ms 66 [(0, .ref a0), (6, .int i6)] [.int t0] S rc rs := by
  unfold zf_X11_sentence_J66 at h
  obtain ⟨r, g, h⟩ := zb_some h
  refine zc_S (as := [.int t0]) hX (zt_X11_needState hlt (d := d - 1) (by omega) g) zl_X11_112 dX11_sentence_66 ⟨rfl, rfl, Nat.le_of_ble_eq_true rfl⟩ ⟨by omega, by omega⟩ ⟨by omega, by omega⟩ ?_ ?_
  · rintro _ S10 ⟨⟨u9, rfl⟩, rfl⟩
    try dsimp only at h
    refine zw_aload_n hX dX11_sentence_69 rfl ?_
    obtain ⟨b11, g, h⟩ := zb_some h
    refine zw_getr hX zl_X11_60 dX11_sentence_70 g ?_
    refine zw_iload hX dX11_sentence_73 rfl ?_
    obtain ⟨S12, g, h⟩ := zb_some h
    refine zw_putvN hX zl_X11_360 zt_5_1 dX11_sentence_75 rfl rfl g ?_
    refine zw_iload hX dX11_sentence_78 rfl ?_
    obtain rfl := Option.some.inj h
    exact zw_iret hX hr dX11_sentence_80 rfl ⟨_, rfl, rfl⟩
  · rintro X S9 rfl
    obtain rfl := Option.some.inj h
    exact zx_out hX hxt rfl
set_option maxHeartbeats 4000000 in
set_option maxRecDepth 100000 in
theorem zt_X11_sentence_J65 {p : Program} {l : Launch} {e : Env} {R : Room} {s : State} {m : MethodId} {args : Array Value} {below : List Frame} {meth : Method} {c : Code} {V : zm_V} {mc ms d rc rs : Nat} (hlt : l.stackTraces = false) (hxt : ∀ x ∈ c.exceptionTable.toList, False) (hX : zm_X p R s m args meth c RX11 "sentence" cX11_sentence 7 zk_E V mc ms) (hr : meth.sig.returnType = (some .int)) (hR : R.frames = d ∧ R.locals = 64 * d) (hd : 7 ≤ d) {N : Nat} {a0 : Nat} {i6 : Int32} {out : ((Int32 ⊕ String) × zm_S)} (hc : 1 ≤ rc ∧ 6 ≤ rs) {S : zm_S} (h : zf_X11_sentence_J65 N a0 i6 S = some out) : zw p l e R s m args below meth c (vx_MQ below (zm_Qc zk_E V (zq_i out)) (zm_XC zk_E V (zq_x out)) args s mc ms (fun q => V.2.2.2.1 ≤ q)) 7 zk_E V mc ms 65 [(0, .ref a0), (6, .int i6)] [] S rc rs := by
  unfold zf_X11_sentence_J65 at h
  refine zw_iconst (v := (0 : Int32)) hX dX11_sentence_65 (by decide) ?_
  refine zw_sub (lv' := [(0, .ref a0), (6, .int i6)]) (List.forall_mem_cons.mpr ⟨rfl, (List.forall_mem_cons.mpr ⟨rfl, zs_nil⟩)⟩) ?_
  exact zt_X11_sentence_J66 hlt hxt hX hr hR hd ⟨by omega, by omega⟩ h
set_option maxHeartbeats 4000000 in
set_option maxRecDepth 100000 in
theorem zt_X11_sentence_J27 {p : Program} {l : Launch} {e : Env} {R : Room} {s : State} {m : MethodId} {args : Array Value} {below : List Frame} {meth : Method} {c : Code} {V : zm_V} {mc ms d rc rs : Nat} (hlt : l.stackTraces = false) (hxt : ∀ x ∈ c.exceptionTable.toList, False) (hX : zm_X p R s m args meth c RX11 "sentence" cX11_sentence 7 zk_E V mc ms) (hr : meth.sig.returnType = (some .int)) (hR : R.frames = d ∧ R.locals = 64 * d) (hd : 7 ≤ d) {N : Nat} {a0 : Nat} {i1 : Int32} {i2 : Int32} {i3 : Int32} {i4 : Int32} {i5 : Int32} {t0 : Int32} {out : ((Int32 ⊕ String) × zm_S)} (hc : 2 ≤ rc ∧ 12 ≤ rs) {S : zm_S} (h : zf_X11_sentence_J27 N a0 i1 i2 i3 i4 i5 t0 S = some out) : zw p l e R s m args below meth c (vx_MQ below (zm_Qc zk_E V (zq_i out)) (zm_XC zk_E V (zq_x out)) args s mc ms (fun q => V.2.2.2.1 ≤ q)) 7 zk_E V mc ms 27 [(0, .ref a0), (1, .int i1), (2, .int i2), (3, .int i3), (4, .int i4), (5, .int i5)] [.int t0] S rc rs := by
  unfold zf_X11_sentence_J27 at h
  obtain ⟨r, g, h⟩ := zb_some h
  refine zc_S (as := [.int t0]) hX (zt_X11_needArgument hlt (d := d - 1) (by omega) g) zl_X11_100 dX11_sentence_27 ⟨rfl, rfl, Nat.le_of_ble_eq_true rfl⟩ ⟨by omega, by omega⟩ ⟨by omega, by omega⟩ ?_ ?_
  · rintro _ S4 ⟨⟨u3, rfl⟩, rfl⟩
    try dsimp only at h
    refine zw_aload_n hX dX11_sentence_30 rfl ?_
    obtain ⟨b5, g, h⟩ := zb_some h
    refine zw_getr hX zl_X11_60 dX11_sentence_31 g ?_
    refine zw_iload_n hX dX11_sentence_34 rfl ?_
    refine zw_iload_n hX dX11_sentence_35 rfl ?_
    refine zw_iload_n hX dX11_sentence_36 rfl ?_
    refine zw_iload hX dX11_sentence_37 rfl ?_
    refine zw_iload hX dX11_sentence_39 rfl ?_
    obtain ⟨_, gi, h⟩ := zb_some h
    obtain ⟨r7, g, h⟩ := zb_some h
    refine zc_Vi (as := [.int i1, .int i2, .int i3, .int i4, .int i5]) hX gi (zt_X5_writeSentence (d := d - 1) (by omega) g) zl_X11_367 rfl dX11_sentence_41 ⟨rfl, rfl, Nat.le_of_ble_eq_true rfl⟩ ⟨by omega, by omega⟩ ?_
    refine zw_istore hX dX11_sentence_44 (by decide) ?_
    refine zw_aload_n hX dX11_sentence_46 rfl ?_
    obtain ⟨v8, g, h⟩ := zb_some h
    refine zw_geti hX zl_X11_104 dX11_sentence_47 g ?_
    refine zw_if_eq (tgt := 65) hX dX11_sentence_50 (by decide) (fun c50 => ?_) (fun c50 => ?_)
    · rw [if_pos c50] at h
      refine zw_sub (lv' := [(0, .ref a0), (6, .int r7.1)]) (List.forall_mem_cons.mpr ⟨rfl, (List.forall_mem_cons.mpr ⟨rfl, zs_nil⟩)⟩) ?_
      exact zt_X11_sentence_J65 hlt hxt hX hr hR hd ⟨by omega, by omega⟩ h
    · rw [if_neg c50] at h
      refine zw_iload hX dX11_sentence_53 rfl ?_
      refine zw_sipush (v := (2000 : Int32)) hX dX11_sentence_55 (by decide) ?_
      refine zw_icmp_gt (tgt := 65) hX dX11_sentence_58 (by decide) (fun c58 => ?_) (fun c58 => ?_)
      · rw [if_pos c58] at h
        refine zw_sub (lv' := [(0, .ref a0), (6, .int r7.1)]) (List.forall_mem_cons.mpr ⟨rfl, (List.forall_mem_cons.mpr ⟨rfl, zs_nil⟩)⟩) ?_
        exact zt_X11_sentence_J65 hlt hxt hX hr hR hd ⟨by omega, by omega⟩ h
      · rw [if_neg c58] at h
        refine zw_iconst (v := (1 : Int32)) hX dX11_sentence_61 (by decide) ?_
        refine zw_goto (tgt := 66) hX dX11_sentence_62 (by decide) ?_
        refine zw_sub (lv' := [(0, .ref a0), (6, .int r7.1)]) (List.forall_mem_cons.mpr ⟨rfl, (List.forall_mem_cons.mpr ⟨rfl, zs_nil⟩)⟩) ?_
        exact zt_X11_sentence_J66 hlt hxt hX hr hR hd ⟨by omega, by omega⟩ h
  · rintro X S9 rfl
    obtain rfl := Option.some.inj h
    exact zx_out hX hxt rfl
set_option maxHeartbeats 4000000 in
set_option maxRecDepth 100000 in
theorem zt_X11_sentence_J26 {p : Program} {l : Launch} {e : Env} {R : Room} {s : State} {m : MethodId} {args : Array Value} {below : List Frame} {meth : Method} {c : Code} {V : zm_V} {mc ms d rc rs : Nat} (hlt : l.stackTraces = false) (hxt : ∀ x ∈ c.exceptionTable.toList, False) (hX : zm_X p R s m args meth c RX11 "sentence" cX11_sentence 7 zk_E V mc ms) (hr : meth.sig.returnType = (some .int)) (hR : R.frames = d ∧ R.locals = 64 * d) (hd : 7 ≤ d) {N : Nat} {a0 : Nat} {i1 : Int32} {i2 : Int32} {i3 : Int32} {i4 : Int32} {i5 : Int32} {out : ((Int32 ⊕ String) × zm_S)} (hc : 2 ≤ rc ∧ 12 ≤ rs) {S : zm_S} (h : zf_X11_sentence_J26 N a0 i1 i2 i3 i4 i5 S = some out) : zw p l e R s m args below meth c (vx_MQ below (zm_Qc zk_E V (zq_i out)) (zm_XC zk_E V (zq_x out)) args s mc ms (fun q => V.2.2.2.1 ≤ q)) 7 zk_E V mc ms 26 [(0, .ref a0), (1, .int i1), (2, .int i2), (3, .int i3), (4, .int i4), (5, .int i5)] [] S rc rs := by
  unfold zf_X11_sentence_J26 at h
  refine zw_iconst (v := (0 : Int32)) hX dX11_sentence_26 (by decide) ?_
  refine zw_sub (lv' := [(0, .ref a0), (1, .int i1), (2, .int i2), (3, .int i3), (4, .int i4), (5, .int i5)]) (List.forall_mem_cons.mpr ⟨rfl, (List.forall_mem_cons.mpr ⟨rfl, (List.forall_mem_cons.mpr ⟨rfl, (List.forall_mem_cons.mpr ⟨rfl, (List.forall_mem_cons.mpr ⟨rfl, (List.forall_mem_cons.mpr ⟨rfl, zs_nil⟩)⟩)⟩)⟩)⟩)⟩) ?_
  exact zt_X11_sentence_J27 hlt hxt hX hr hR hd ⟨by omega, by omega⟩ h
set_option maxHeartbeats 4000000 in
set_option maxRecDepth 100000 in
theorem zt_X11_sentence {l : Launch} {V : zm_V} (hlt : l.stackTraces = false) {N : Nat} {S : zm_S} {out : ((Int32 ⊕ String) × zm_S)} {d : Nat} {a0 : Nat} {i1 : Int32} {i2 : Int32} {i3 : Int32} {i4 : Int32} {i5 : Int32} (hd : 7 ≤ d) (h : zf_X11_sentence N a0 i1 i2 i3 i4 i5 S = some out) : zm_Met l zk_E V yX11_sentence (.code yX11_sentence cX11_sentence 7 (some .int)) d [.ref a0, .int i1, .int i2, .int i3, .int i4, .int i5] S 2 12 (zq_i out) (zq_x out) := by
  refine zm_of (by decide +kernel) (Nat.le_of_ble_eq_true rfl) ?_
  intro p e R s m args below meth c hRR hX hr hxt
  have hR : R.frames = d ∧ R.locals = 64 * d := by rw [hRR]; exact ⟨rfl, rfl⟩
  have hX : zm_X p R s m args meth c RX11 "sentence" cX11_sentence 7 zk_E V 2 12 := hX
  unfold zf_X11_sentence at h
  refine zw_sub (lv' := [(0, .ref a0), (1, .int i1), (2, .int i2), (3, .int i3), (4, .int i4), (5, .int i5)]) (List.forall_mem_cons.mpr ⟨rfl, (List.forall_mem_cons.mpr ⟨rfl, (List.forall_mem_cons.mpr ⟨rfl, (List.forall_mem_cons.mpr ⟨rfl, (List.forall_mem_cons.mpr ⟨rfl, (List.forall_mem_cons.mpr ⟨rfl, zs_nil⟩)⟩)⟩)⟩)⟩)⟩) ?_
  refine zw_iload_n hX dX11_sentence_0 rfl ?_
  refine zw_iconst (v := (0 : Int32)) hX dX11_sentence_1 (by decide) ?_
  refine zw_iconst (v := (4 : Int32)) hX dX11_sentence_2 (by decide) ?_
  obtain ⟨r2, g, h⟩ := zb_some h
  refine zc_Si (as := [.int i1, .int (0 : Int32), .int (4 : Int32)]) hX (zt_X11_isWithin (d := d - 1) (by omega) g) zl_X11_133 dX11_sentence_3 ⟨rfl, rfl, Nat.le_of_ble_eq_true rfl⟩ ⟨by omega, by omega⟩ ?_
  refine zw_if_eq (tgt := 26) hX dX11_sentence_6 (by decide) (fun c6 => ?_) (fun c6 => ?_)
  · rw [if_pos c6] at h
    refine zw_sub (lv' := [(0, .ref a0), (1, .int i1), (2, .int i2), (3, .int i3), (4, .int i4), (5, .int i5)]) (List.forall_mem_cons.mpr ⟨rfl, (List.forall_mem_cons.mpr ⟨rfl, (List.forall_mem_cons.mpr ⟨rfl, (List.forall_mem_cons.mpr ⟨rfl, (List.forall_mem_cons.mpr ⟨rfl, (List.forall_mem_cons.mpr ⟨rfl, zs_nil⟩)⟩)⟩)⟩)⟩)⟩) ?_
    exact zt_X11_sentence_J26 hlt hxt hX hr hR hd ⟨by omega, by omega⟩ h
  · rw [if_neg c6] at h
    refine zw_iload_n hX dX11_sentence_9 rfl ?_
    refine zw_iload_n hX dX11_sentence_10 rfl ?_
    refine zw_iload_n hX dX11_sentence_11 rfl ?_
    refine zw_iload hX dX11_sentence_12 rfl ?_
    refine zw_iload hX dX11_sentence_14 rfl ?_
    obtain ⟨r14, g, h⟩ := zb_some h
    refine zc_Si (as := [.int i1, .int i2, .int i3, .int i4, .int i5]) hX (zt_X11_areSentenceNumbers (d := d - 1) (by omega) g) zl_X11_363 dX11_sentence_16 ⟨rfl, rfl, Nat.le_of_ble_eq_true rfl⟩ ⟨by omega, by omega⟩ ?_
    refine zw_if_eq (tgt := 26) hX dX11_sentence_19 (by decide) (fun c19 => ?_) (fun c19 => ?_)
    · rw [if_pos c19] at h
      refine zw_sub (lv' := [(0, .ref a0), (1, .int i1), (2, .int i2), (3, .int i3), (4, .int i4), (5, .int i5)]) (List.forall_mem_cons.mpr ⟨rfl, (List.forall_mem_cons.mpr ⟨rfl, (List.forall_mem_cons.mpr ⟨rfl, (List.forall_mem_cons.mpr ⟨rfl, (List.forall_mem_cons.mpr ⟨rfl, (List.forall_mem_cons.mpr ⟨rfl, zs_nil⟩)⟩)⟩)⟩)⟩)⟩) ?_
      exact zt_X11_sentence_J26 hlt hxt hX hr hR hd ⟨by omega, by omega⟩ h
    · rw [if_neg c19] at h
      refine zw_iconst (v := (1 : Int32)) hX dX11_sentence_22 (by decide) ?_
      refine zw_goto (tgt := 27) hX dX11_sentence_23 (by decide) ?_
      refine zw_sub (lv' := [(0, .ref a0), (1, .int i1), (2, .int i2), (3, .int i3), (4, .int i4), (5, .int i5)]) (List.forall_mem_cons.mpr ⟨rfl, (List.forall_mem_cons.mpr ⟨rfl, (List.forall_mem_cons.mpr ⟨rfl, (List.forall_mem_cons.mpr ⟨rfl, (List.forall_mem_cons.mpr ⟨rfl, (List.forall_mem_cons.mpr ⟨rfl, zs_nil⟩)⟩)⟩)⟩)⟩)⟩) ?_
      exact zt_X11_sentence_J27 hlt hxt hX hr hR hd ⟨by omega, by omega⟩ h
set_option maxHeartbeats 4000000 in
set_option maxRecDepth 100000 in
theorem zt_X11_cutText_J20 {p : Program} {l : Launch} {e : Env} {R : Room} {s : State} {m : MethodId} {args : Array Value} {below : List Frame} {meth : Method} {c : Code} {V : zm_V} {mc ms d rc rs : Nat} (hlt : l.stackTraces = false) (hxt : ∀ x ∈ c.exceptionTable.toList, False) (hX : zm_X p R s m args meth c RX11 "cutText" cX11_cutText 2 zk_E V mc ms) (hr : meth.sig.returnType = (some .int)) (hR : R.frames = d ∧ R.locals = 64 * d) (hd : 7 ≤ d) {N : Nat} {a0 : Nat} {i1 : Int32} {t0 : Int32} {out : ((Int32 ⊕ String) × zm_S)} (hc : 2 ≤ rc ∧ 12 ≤ rs) {S : zm_S} (h : zf_X11_cutText_J20 N a0 i1 t0 S = some out) : zw p l e R s m args below meth c (vx_MQ below (zm_Qc zk_E V (zq_i out)) (zm_XC zk_E V (zq_x out)) args s mc ms (fun q => V.2.2.2.1 ≤ q)) 2 zk_E V mc ms 20 [(0, .ref a0), (1, .int i1)] [.int t0] S rc rs := by
  unfold zf_X11_cutText_J20 at h
  obtain ⟨r, g, h⟩ := zb_some h
  refine zc_S (as := [.int t0]) hX (zt_X11_needArgument hlt (d := d - 1) (by omega) g) zl_X11_100 dX11_cutText_20 ⟨rfl, rfl, Nat.le_of_ble_eq_true rfl⟩ ⟨by omega, by omega⟩ ⟨by omega, by omega⟩ ?_ ?_
  · rintro _ S2 ⟨⟨u1, rfl⟩, rfl⟩
    try dsimp only at h
    refine zw_aload_n hX dX11_cutText_23 rfl ?_
    obtain ⟨v3, g, h⟩ := zb_some h
    refine zw_geti hX zl_X11_104 dX11_cutText_24 g ?_
    obtain ⟨r, g, h⟩ := zb_some h
    refine zc_S (as := [.int v3]) hX (zt_X11_needState hlt (d := d - 1) (by omega) g) zl_X11_112 dX11_cutText_27 ⟨rfl, rfl, Nat.le_of_ble_eq_true rfl⟩ ⟨by omega, by omega⟩ ⟨by omega, by omega⟩ ?_ ?_
    · rintro _ S5 ⟨⟨u4, rfl⟩, rfl⟩
      try dsimp only at h
      refine zw_aload_n hX dX11_cutText_30 rfl ?_
      obtain ⟨b6, g, h⟩ := zb_some h
      refine zw_getr hX zl_X11_60 dX11_cutText_31 g ?_
      refine zw_dup hX dX11_cutText_34 rfl ?_
      obtain ⟨v7, g, h⟩ := zb_some h
      refine zw_getNi hX zl_X11_360 dX11_cutText_35 g ?_
      refine zw_iload_n hX dX11_cutText_38 rfl ?_
      refine zw_isub hX dX11_cutText_39 ?_
      obtain ⟨S8, g, h⟩ := zb_some h
      refine zw_putvN hX zl_X11_360 zt_5_1 dX11_cutText_40 rfl rfl g ?_
      refine zw_aload_n hX dX11_cutText_43 rfl ?_
      obtain ⟨b9, g, h⟩ := zb_some h
      refine zw_getr hX zl_X11_60 dX11_cutText_44 g ?_
      obtain ⟨v10, g, h⟩ := zb_some h
      refine zw_getNi hX zl_X11_360 dX11_cutText_47 g ?_
      obtain rfl := Option.some.inj h
      exact zw_iret hX hr dX11_cutText_50 rfl ⟨_, rfl, rfl⟩
    · rintro X S9 rfl
      obtain rfl := Option.some.inj h
      exact zx_out hX hxt rfl
  · rintro X S9 rfl
    obtain rfl := Option.some.inj h
    exact zx_out hX hxt rfl
set_option maxHeartbeats 4000000 in
set_option maxRecDepth 100000 in
theorem zt_X11_cutText_J19 {p : Program} {l : Launch} {e : Env} {R : Room} {s : State} {m : MethodId} {args : Array Value} {below : List Frame} {meth : Method} {c : Code} {V : zm_V} {mc ms d rc rs : Nat} (hlt : l.stackTraces = false) (hxt : ∀ x ∈ c.exceptionTable.toList, False) (hX : zm_X p R s m args meth c RX11 "cutText" cX11_cutText 2 zk_E V mc ms) (hr : meth.sig.returnType = (some .int)) (hR : R.frames = d ∧ R.locals = 64 * d) (hd : 7 ≤ d) {N : Nat} {a0 : Nat} {i1 : Int32} {out : ((Int32 ⊕ String) × zm_S)} (hc : 2 ≤ rc ∧ 12 ≤ rs) {S : zm_S} (h : zf_X11_cutText_J19 N a0 i1 S = some out) : zw p l e R s m args below meth c (vx_MQ below (zm_Qc zk_E V (zq_i out)) (zm_XC zk_E V (zq_x out)) args s mc ms (fun q => V.2.2.2.1 ≤ q)) 2 zk_E V mc ms 19 [(0, .ref a0), (1, .int i1)] [] S rc rs := by
  unfold zf_X11_cutText_J19 at h
  refine zw_iconst (v := (0 : Int32)) hX dX11_cutText_19 (by decide) ?_
  refine zw_sub (lv' := [(0, .ref a0), (1, .int i1)]) (List.forall_mem_cons.mpr ⟨rfl, (List.forall_mem_cons.mpr ⟨rfl, zs_nil⟩)⟩) ?_
  exact zt_X11_cutText_J20 hlt hxt hX hr hR hd ⟨by omega, by omega⟩ h
set_option maxHeartbeats 4000000 in
set_option maxRecDepth 100000 in
theorem zt_X11_cutText {l : Launch} {V : zm_V} (hlt : l.stackTraces = false) {N : Nat} {S : zm_S} {out : ((Int32 ⊕ String) × zm_S)} {d : Nat} {a0 : Nat} {i1 : Int32} (hd : 7 ≤ d) (h : zf_X11_cutText N a0 i1 S = some out) : zm_Met l zk_E V yX11_cutText (.code yX11_cutText cX11_cutText 2 (some .int)) d [.ref a0, .int i1] S 2 12 (zq_i out) (zq_x out) := by
  refine zm_of (by decide +kernel) (Nat.le_of_ble_eq_true rfl) ?_
  intro p e R s m args below meth c hRR hX hr hxt
  have hR : R.frames = d ∧ R.locals = 64 * d := by rw [hRR]; exact ⟨rfl, rfl⟩
  have hX : zm_X p R s m args meth c RX11 "cutText" cX11_cutText 2 zk_E V 2 12 := hX
  unfold zf_X11_cutText at h
  refine zw_sub (lv' := [(0, .ref a0), (1, .int i1)]) (List.forall_mem_cons.mpr ⟨rfl, (List.forall_mem_cons.mpr ⟨rfl, zs_nil⟩)⟩) ?_
  refine zw_iload_n hX dX11_cutText_0 rfl ?_
  refine zw_if_lt (tgt := 19) hX dX11_cutText_1 (by decide) (fun c1 => ?_) (fun c1 => ?_)
  · rw [if_pos c1] at h
    refine zw_sub (lv' := [(0, .ref a0), (1, .int i1)]) (List.forall_mem_cons.mpr ⟨rfl, (List.forall_mem_cons.mpr ⟨rfl, zs_nil⟩)⟩) ?_
    exact zt_X11_cutText_J19 hlt hxt hX hr hR hd ⟨by omega, by omega⟩ h
  · rw [if_neg c1] at h
    refine zw_iload_n hX dX11_cutText_4 rfl ?_
    refine zw_aload_n hX dX11_cutText_5 rfl ?_
    obtain ⟨b11, g, h⟩ := zb_some h
    refine zw_getr hX zl_X11_60 dX11_cutText_6 g ?_
    obtain ⟨v12, g, h⟩ := zb_some h
    refine zw_getNi hX zl_X11_360 dX11_cutText_9 g ?_
    refine zw_icmp_gt (tgt := 19) hX dX11_cutText_12 (by decide) (fun c12 => ?_) (fun c12 => ?_)
    · rw [if_pos c12] at h
      refine zw_sub (lv' := [(0, .ref a0), (1, .int i1)]) (List.forall_mem_cons.mpr ⟨rfl, (List.forall_mem_cons.mpr ⟨rfl, zs_nil⟩)⟩) ?_
      exact zt_X11_cutText_J19 hlt hxt hX hr hR hd ⟨by omega, by omega⟩ h
    · rw [if_neg c12] at h
      refine zw_iconst (v := (1 : Int32)) hX dX11_cutText_15 (by decide) ?_
      refine zw_goto (tgt := 20) hX dX11_cutText_16 (by decide) ?_
      refine zw_sub (lv' := [(0, .ref a0), (1, .int i1)]) (List.forall_mem_cons.mpr ⟨rfl, (List.forall_mem_cons.mpr ⟨rfl, zs_nil⟩)⟩) ?_
      exact zt_X11_cutText_J20 hlt hxt hX hr hR hd ⟨by omega, by omega⟩ h
set_option maxHeartbeats 4000000 in
set_option maxRecDepth 100000 in
theorem zt_X11_matrix {l : Launch} {V : zm_V} (hlt : l.stackTraces = false) {N : Nat} {S : zm_S} {out : ((Int32 ⊕ String) × zm_S)} {d : Nat} {a0 : Nat} (hd : 8 ≤ d) (h : zf_X11_matrix N a0 S = some out) : zm_Met l zk_E V yX11_matrix (.code yX11_matrix cX11_matrix 1 (some .int)) d [.ref a0] S 1 6 (zq_i out) (zq_x out) := by
  refine zm_of (by decide +kernel) (Nat.le_of_ble_eq_true rfl) ?_
  intro p e R s m args below meth c hRR hX hr hxt
  have hR : R.frames = d ∧ R.locals = 64 * d := by rw [hRR]; exact ⟨rfl, rfl⟩
  have hX : zm_X p R s m args meth c RX11 "matrix" cX11_matrix 1 zk_E V 1 6 := hX
  unfold zf_X11_matrix at h
  refine zw_sub (lv' := [(0, .ref a0)]) (List.forall_mem_cons.mpr ⟨rfl, zs_nil⟩) ?_
  refine zw_aload_n hX dX11_matrix_0 rfl ?_
  obtain ⟨v1, g, h⟩ := zb_some h
  refine zw_geti hX zl_X11_104 dX11_matrix_1 g ?_
  obtain ⟨r, g, h⟩ := zb_some h
  refine zc_S (as := [.int v1]) hX (zt_X11_needState hlt (d := d - 1) (by omega) g) zl_X11_112 dX11_matrix_4 ⟨rfl, rfl, Nat.le_of_ble_eq_true rfl⟩ ⟨by omega, by omega⟩ ⟨by omega, by omega⟩ ?_ ?_
  · rintro _ S3 ⟨⟨u2, rfl⟩, rfl⟩
    try dsimp only at h
    refine zw_aload_n hX dX11_matrix_7 rfl ?_
    obtain ⟨b4, g, h⟩ := zb_some h
    refine zw_getr hX zl_X11_60 dX11_matrix_8 g ?_
    refine zw_aload_n hX dX11_matrix_11 rfl ?_
    obtain ⟨b5, g, h⟩ := zb_some h
    refine zw_getr hX zl_X11_85 dX11_matrix_12 g ?_
    obtain ⟨v6, g, h⟩ := zb_some h
    refine zw_getNi hX zl_X11_261 dX11_matrix_15 g ?_
    obtain ⟨_, gi, h⟩ := zb_some h
    obtain ⟨r8, g, h⟩ := zb_some h
    refine zc_Vi (as := [.int v6]) hX gi (zt_X5_readSentences (d := d - 1) (by omega) g) zl_X11_370 rfl dX11_matrix_18 ⟨rfl, rfl, Nat.le_of_ble_eq_true rfl⟩ ⟨by omega, by omega⟩ ?_
    refine zw_if_ne (tgt := 34) hX dX11_matrix_21 (by decide) (fun c21 => ?_) (fun c21 => ?_)
    · rw [if_neg c21] at h
      refine zw_aload_n hX dX11_matrix_34 rfl ?_
      obtain ⟨b9, g, h⟩ := zb_some h
      refine zw_getr hX zl_X11_85 dX11_matrix_35 g ?_
      refine zw_aload_n hX dX11_matrix_38 rfl ?_
      obtain ⟨b10, g, h⟩ := zb_some h
      refine zw_getr hX zl_X11_60 dX11_matrix_39 g ?_
      obtain ⟨_, gi, h⟩ := zb_some h
      obtain ⟨r12, g, h⟩ := zb_some h
      refine zc_Vv (as := [.ref b10]) hX gi (zt_X4_takeTables (d := d - 1) (by omega) g) zl_X11_376 rfl dX11_matrix_42 ⟨rfl, rfl, Nat.le_of_ble_eq_true rfl⟩ ⟨by omega, by omega⟩ ?_
      refine zw_aload_n hX dX11_matrix_45 rfl ?_
      obtain ⟨b13, g, h⟩ := zb_some h
      refine zw_getr hX zl_X11_85 dX11_matrix_46 g ?_
      obtain ⟨v14, g, h⟩ := zb_some h
      refine zw_getNi hX zl_X11_380 dX11_matrix_49 g ?_
      obtain rfl := Option.some.inj h
      exact zw_iret hX hr dX11_matrix_52 rfl ⟨_, rfl, rfl⟩
    · rw [if_pos c21] at h
      refine zw_iconst (v := (-1 : Int32)) hX dX11_matrix_24 (by decide) ?_
      refine zw_aload_n hX dX11_matrix_25 rfl ?_
      obtain ⟨b15, g, h⟩ := zb_some h
      refine zw_getr hX zl_X11_60 dX11_matrix_26 g ?_
      obtain ⟨v16, g, h⟩ := zb_some h
      refine zw_getNi hX zl_X11_373 dX11_matrix_29 g ?_
      refine zw_isub hX dX11_matrix_32 ?_
      obtain rfl := Option.some.inj h
      exact zw_iret hX hr dX11_matrix_33 rfl ⟨_, rfl, rfl⟩
  · rintro X S9 rfl
    obtain rfl := Option.some.inj h
    exact zx_out hX hxt rfl
set_option maxHeartbeats 4000000 in
set_option maxRecDepth 100000 in
theorem zt_X11_signal_J32 {p : Program} {l : Launch} {e : Env} {R : Room} {s : State} {m : MethodId} {args : Array Value} {below : List Frame} {meth : Method} {c : Code} {V : zm_V} {mc ms d rc rs : Nat} (hlt : l.stackTraces = false) (hxt : ∀ x ∈ c.exceptionTable.toList, False) (hX : zm_X p R s m args meth c RX11 "signal" cX11_signal 4 zk_E V mc ms) (hr : meth.sig.returnType = (some .int)) (hR : R.frames = d ∧ R.locals = 64 * d) (hd : 7 ≤ d) {N : Nat} {a0 : Nat} {i1 : Int32} {i2 : Int32} {t0 : Int32} {out : ((Int32 ⊕ String) × zm_S)} (hc : 2 ≤ rc ∧ 12 ≤ rs) {S : zm_S} (h : zf_X11_signal_J32 N a0 i1 i2 t0 S = some out) : zw p l e R s m args below meth c (vx_MQ below (zm_Qc zk_E V (zq_i out)) (zm_XC zk_E V (zq_x out)) args s mc ms (fun q => V.2.2.2.1 ≤ q)) 4 zk_E V mc ms 32 [(0, .ref a0), (1, .int i1), (2, .int i2)] [.int t0] S rc rs := by
  unfold zf_X11_signal_J32 at h
  obtain ⟨r, g, h⟩ := zb_some h
  refine zc_S (as := [.int t0]) hX (zt_X11_needArgument hlt (d := d - 1) (by omega) g) zl_X11_100 dX11_signal_32 ⟨rfl, rfl, Nat.le_of_ble_eq_true rfl⟩ ⟨by omega, by omega⟩ ⟨by omega, by omega⟩ ?_ ?_
  · rintro _ S6 ⟨⟨u5, rfl⟩, rfl⟩
    try dsimp only at h
    refine zw_aload_n hX dX11_signal_35 rfl ?_
    obtain ⟨v7, g, h⟩ := zb_some h
    refine zw_geti hX zl_X11_104 dX11_signal_36 g ?_
    obtain ⟨r, g, h⟩ := zb_some h
    refine zc_S (as := [.int v7]) hX (zt_X11_needState hlt (d := d - 1) (by omega) g) zl_X11_112 dX11_signal_39 ⟨rfl, rfl, Nat.le_of_ble_eq_true rfl⟩ ⟨by omega, by omega⟩ ⟨by omega, by omega⟩ ?_ ?_
    · rintro _ S9 ⟨⟨u8, rfl⟩, rfl⟩
      try dsimp only at h
      refine zw_aload_n hX dX11_signal_42 rfl ?_
      obtain ⟨b10, g, h⟩ := zb_some h
      refine zw_getr hX zl_X11_85 dX11_signal_43 g ?_
      obtain ⟨b11, g, h⟩ := zb_some h
      refine zw_getNr hX zl_X11_383 dX11_signal_46 g ?_
      refine zw_iload_n hX dX11_signal_49 rfl ?_
      obtain ⟨v12, g, h⟩ := zb_some h
      refine zw_xi hX dX11_signal_50 g ?_
      refine zw_istore_n hX dX11_signal_51 (by decide) ?_
      refine zw_aload_n hX dX11_signal_52 rfl ?_
      obtain ⟨b13, g, h⟩ := zb_some h
      refine zw_getr hX zl_X11_85 dX11_signal_53 g ?_
      obtain ⟨b14, g, h⟩ := zb_some h
      refine zw_getNr hX zl_X11_383 dX11_signal_56 g ?_
      refine zw_iload_n hX dX11_signal_59 rfl ?_
      refine zw_iload_n hX dX11_signal_60 rfl ?_
      obtain ⟨S15, g, h⟩ := zb_some h
      refine zw_si hX dX11_signal_61 g ?_
      refine zw_iload_n hX dX11_signal_62 rfl ?_
      obtain rfl := Option.some.inj h
      exact zw_iret hX hr dX11_signal_63 rfl ⟨_, rfl, rfl⟩
    · rintro X S9 rfl
      obtain rfl := Option.some.inj h
      exact zx_out hX hxt rfl
  · rintro X S9 rfl
    obtain rfl := Option.some.inj h
    exact zx_out hX hxt rfl
set_option maxHeartbeats 4000000 in
set_option maxRecDepth 100000 in
theorem zt_X11_signal_J31 {p : Program} {l : Launch} {e : Env} {R : Room} {s : State} {m : MethodId} {args : Array Value} {below : List Frame} {meth : Method} {c : Code} {V : zm_V} {mc ms d rc rs : Nat} (hlt : l.stackTraces = false) (hxt : ∀ x ∈ c.exceptionTable.toList, False) (hX : zm_X p R s m args meth c RX11 "signal" cX11_signal 4 zk_E V mc ms) (hr : meth.sig.returnType = (some .int)) (hR : R.frames = d ∧ R.locals = 64 * d) (hd : 7 ≤ d) {N : Nat} {a0 : Nat} {i1 : Int32} {i2 : Int32} {out : ((Int32 ⊕ String) × zm_S)} (hc : 2 ≤ rc ∧ 12 ≤ rs) {S : zm_S} (h : zf_X11_signal_J31 N a0 i1 i2 S = some out) : zw p l e R s m args below meth c (vx_MQ below (zm_Qc zk_E V (zq_i out)) (zm_XC zk_E V (zq_x out)) args s mc ms (fun q => V.2.2.2.1 ≤ q)) 4 zk_E V mc ms 31 [(0, .ref a0), (1, .int i1), (2, .int i2)] [] S rc rs := by
  unfold zf_X11_signal_J31 at h
  refine zw_iconst (v := (0 : Int32)) hX dX11_signal_31 (by decide) ?_
  refine zw_sub (lv' := [(0, .ref a0), (1, .int i1), (2, .int i2)]) (List.forall_mem_cons.mpr ⟨rfl, (List.forall_mem_cons.mpr ⟨rfl, (List.forall_mem_cons.mpr ⟨rfl, zs_nil⟩)⟩)⟩) ?_
  exact zt_X11_signal_J32 hlt hxt hX hr hR hd ⟨by omega, by omega⟩ h
set_option maxHeartbeats 4000000 in
set_option maxRecDepth 100000 in
theorem zt_X11_signal {l : Launch} {V : zm_V} (hlt : l.stackTraces = false) {N : Nat} {S : zm_S} {out : ((Int32 ⊕ String) × zm_S)} {d : Nat} {a0 : Nat} {i1 : Int32} {i2 : Int32} (hd : 7 ≤ d) (h : zf_X11_signal N a0 i1 i2 S = some out) : zm_Met l zk_E V yX11_signal (.code yX11_signal cX11_signal 4 (some .int)) d [.ref a0, .int i1, .int i2] S 2 12 (zq_i out) (zq_x out) := by
  refine zm_of (by decide +kernel) (Nat.le_of_ble_eq_true rfl) ?_
  intro p e R s m args below meth c hRR hX hr hxt
  have hR : R.frames = d ∧ R.locals = 64 * d := by rw [hRR]; exact ⟨rfl, rfl⟩
  have hX : zm_X p R s m args meth c RX11 "signal" cX11_signal 4 zk_E V 2 12 := hX
  unfold zf_X11_signal at h
  refine zw_sub (lv' := [(0, .ref a0), (1, .int i1), (2, .int i2)]) (List.forall_mem_cons.mpr ⟨rfl, (List.forall_mem_cons.mpr ⟨rfl, (List.forall_mem_cons.mpr ⟨rfl, zs_nil⟩)⟩)⟩) ?_
  refine zw_iload_n hX dX11_signal_0 rfl ?_
  refine zw_iconst (v := (0 : Int32)) hX dX11_signal_1 (by decide) ?_
  refine zw_aload_n hX dX11_signal_2 rfl ?_
  obtain ⟨b1, g, h⟩ := zb_some h
  refine zw_getr hX zl_X11_85 dX11_signal_3 g ?_
  obtain ⟨v2, g, h⟩ := zb_some h
  refine zw_getNi hX zl_X11_261 dX11_signal_6 g ?_
  refine zw_iconst (v := (1 : Int32)) hX dX11_signal_9 (by decide) ?_
  refine zw_isub hX dX11_signal_10 ?_
  obtain ⟨r4, g, h⟩ := zb_some h
  refine zc_Si (as := [.int i1, .int (0 : Int32), .int (v2 - (1 : Int32))]) hX (zt_X11_isWithin (d := d - 1) (by omega) g) zl_X11_133 dX11_signal_11 ⟨rfl, rfl, Nat.le_of_ble_eq_true rfl⟩ ⟨by omega, by omega⟩ ?_
  refine zw_if_eq (tgt := 31) hX dX11_signal_14 (by decide) (fun c14 => ?_) (fun c14 => ?_)
  · rw [if_pos c14] at h
    refine zw_sub (lv' := [(0, .ref a0), (1, .int i1), (2, .int i2)]) (List.forall_mem_cons.mpr ⟨rfl, (List.forall_mem_cons.mpr ⟨rfl, (List.forall_mem_cons.mpr ⟨rfl, zs_nil⟩)⟩)⟩) ?_
    exact zt_X11_signal_J31 hlt hxt hX hr hR hd ⟨by omega, by omega⟩ h
  · rw [if_neg c14] at h
    refine zw_iload_n hX dX11_signal_17 rfl ?_
    refine zw_iconst (v := (0 : Int32)) hX dX11_signal_18 (by decide) ?_
    refine zw_bipush (v := (100 : Int32)) hX dX11_signal_19 (by decide) ?_
    obtain ⟨r17, g, h⟩ := zb_some h
    refine zc_Si (as := [.int i2, .int (0 : Int32), .int (100 : Int32)]) hX (zt_X11_isWithin (d := d - 1) (by omega) g) zl_X11_133 dX11_signal_21 ⟨rfl, rfl, Nat.le_of_ble_eq_true rfl⟩ ⟨by omega, by omega⟩ ?_
    refine zw_if_eq (tgt := 31) hX dX11_signal_24 (by decide) (fun c24 => ?_) (fun c24 => ?_)
    · rw [if_pos c24] at h
      refine zw_sub (lv' := [(0, .ref a0), (1, .int i1), (2, .int i2)]) (List.forall_mem_cons.mpr ⟨rfl, (List.forall_mem_cons.mpr ⟨rfl, (List.forall_mem_cons.mpr ⟨rfl, zs_nil⟩)⟩)⟩) ?_
      exact zt_X11_signal_J31 hlt hxt hX hr hR hd ⟨by omega, by omega⟩ h
    · rw [if_neg c24] at h
      refine zw_iconst (v := (1 : Int32)) hX dX11_signal_27 (by decide) ?_
      refine zw_goto (tgt := 32) hX dX11_signal_28 (by decide) ?_
      refine zw_sub (lv' := [(0, .ref a0), (1, .int i1), (2, .int i2)]) (List.forall_mem_cons.mpr ⟨rfl, (List.forall_mem_cons.mpr ⟨rfl, (List.forall_mem_cons.mpr ⟨rfl, zs_nil⟩)⟩)⟩) ?_
      exact zt_X11_signal_J32 hlt hxt hX hr hR hd ⟨by omega, by omega⟩ h
set_option maxHeartbeats 4000000 in
set_option maxRecDepth 100000 in
theorem zt_X11_fault {l : Launch} {V : zm_V} (hlt : l.stackTraces = false) {N : Nat} {S : zm_S} {out : ((Int32 ⊕ String) × zm_S)} {d : Nat} {a0 : Nat} {i1 : Int32} {i2 : Int32} (hd : 7 ≤ d) (h : zf_X11_fault N a0 i1 i2 S = some out) : zm_Met l zk_E V yX11_fault (.code yX11_fault cX11_fault 4 (some .boolean)) d [.ref a0, .int i1, .int i2] S 2 12 (zq_i out) (zq_x out) := by
  refine zm_of (by decide +kernel) (Nat.le_of_ble_eq_true rfl) ?_
  intro p e R s m args below meth c hRR hX hr hxt
  have hR : R.frames = d ∧ R.locals = 64 * d := by rw [hRR]; exact ⟨rfl, rfl⟩
  have hX : zm_X p R s m args meth c RX11 "fault" cX11_fault 4 zk_E V 2 12 := hX
  unfold zf_X11_fault at h
  refine zw_sub (lv' := [(0, .ref a0), (1, .int i1), (2, .int i2)]) (List.forall_mem_cons.mpr ⟨rfl, (List.forall_mem_cons.mpr ⟨rfl, (List.forall_mem_cons.mpr ⟨rfl, zs_nil⟩)⟩)⟩) ?_
  refine zw_iload_n hX dX11_fault_0 rfl ?_
  refine zw_iconst (v := (0 : Int32)) hX dX11_fault_1 (by decide) ?_
  refine zw_aload_n hX dX11_fault_2 rfl ?_
  obtain ⟨b1, g, h⟩ := zb_some h
  refine zw_getr hX zl_X11_85 dX11_fault_3 g ?_
  obtain ⟨v2, g, h⟩ := zb_some h
  refine zw_getNi hX zl_X11_261 dX11_fault_6 g ?_
  refine zw_iconst (v := (1 : Int32)) hX dX11_fault_9 (by decide) ?_
  refine zw_isub hX dX11_fault_10 ?_
  obtain ⟨r4, g, h⟩ := zb_some h
  refine zc_Si (as := [.int i1, .int (0 : Int32), .int (v2 - (1 : Int32))]) hX (zt_X11_isWithin (d := d - 1) (by omega) g) zl_X11_133 dX11_fault_11 ⟨rfl, rfl, Nat.le_of_ble_eq_true rfl⟩ ⟨by omega, by omega⟩ ?_
  obtain ⟨r, g, h⟩ := zb_some h
  refine zc_S (as := [.int r4.1]) hX (zt_X11_needArgument hlt (d := d - 1) (by omega) g) zl_X11_100 dX11_fault_14 ⟨rfl, rfl, Nat.le_of_ble_eq_true rfl⟩ ⟨by omega, by omega⟩ ⟨by omega, by omega⟩ ?_ ?_
  · rintro _ S6 ⟨⟨u5, rfl⟩, rfl⟩
    try dsimp only at h
    refine zw_aload_n hX dX11_fault_17 rfl ?_
    obtain ⟨v7, g, h⟩ := zb_some h
    refine zw_geti hX zl_X11_104 dX11_fault_18 g ?_
    obtain ⟨r, g, h⟩ := zb_some h
    refine zc_S (as := [.int v7]) hX (zt_X11_needState hlt (d := d - 1) (by omega) g) zl_X11_112 dX11_fault_21 ⟨rfl, rfl, Nat.le_of_ble_eq_true rfl⟩ ⟨by omega, by omega⟩ ⟨by omega, by omega⟩ ?_ ?_
    · rintro _ S9 ⟨⟨u8, rfl⟩, rfl⟩
      try dsimp only at h
      refine zw_aload_n hX dX11_fault_24 rfl ?_
      obtain ⟨b10, g, h⟩ := zb_some h
      refine zw_getr hX zl_X11_85 dX11_fault_25 g ?_
      obtain ⟨b11, g, h⟩ := zb_some h
      refine zw_getNr hX zl_X11_386 dX11_fault_28 g ?_
      refine zw_iload_n hX dX11_fault_31 rfl ?_
      obtain ⟨v12, g, h⟩ := zb_some h
      refine zw_xz hX dX11_fault_32 g ?_
      refine zw_istore_n hX dX11_fault_33 (by decide) ?_
      refine zw_aload_n hX dX11_fault_34 rfl ?_
      obtain ⟨b13, g, h⟩ := zb_some h
      refine zw_getr hX zl_X11_85 dX11_fault_35 g ?_
      obtain ⟨b14, g, h⟩ := zb_some h
      refine zw_getNr hX zl_X11_386 dX11_fault_38 g ?_
      refine zw_iload_n hX dX11_fault_41 rfl ?_
      refine zw_iload_n hX dX11_fault_42 rfl ?_
      obtain ⟨S15, g, h⟩ := zb_some h
      refine zw_sz hX dX11_fault_43 g ?_
      refine zw_iload_n hX dX11_fault_44 rfl ?_
      by_cases cz : v12 = 0 ∨ v12 = 1
      · rw [if_pos cz] at h
        obtain rfl := Option.some.inj h
        exact zw_iret hX hr dX11_fault_45 (zn_z cz) ⟨_, rfl, rfl⟩
      · rw [if_neg cz] at h
        cases h
    · rintro X S9 rfl
      obtain rfl := Option.some.inj h
      exact zx_out hX hxt rfl
  · rintro X S9 rfl
    obtain rfl := Option.some.inj h
    exact zx_out hX hxt rfl
set_option maxHeartbeats 4000000 in
set_option maxRecDepth 100000 in
theorem zt_X11_disable_J32 {p : Program} {l : Launch} {e : Env} {R : Room} {s : State} {m : MethodId} {args : Array Value} {below : List Frame} {meth : Method} {c : Code} {V : zm_V} {mc ms d rc rs : Nat} (hlt : l.stackTraces = false) (hxt : ∀ x ∈ c.exceptionTable.toList, False) (hX : zm_X p R s m args meth c RX11 "disable" cX11_disable 4 zk_E V mc ms) (hr : meth.sig.returnType = (some .int)) (hR : R.frames = d ∧ R.locals = 64 * d) (hd : 7 ≤ d) {N : Nat} {a0 : Nat} {i1 : Int32} {i2 : Int32} {t0 : Int32} {out : ((Int32 ⊕ String) × zm_S)} (hc : 2 ≤ rc ∧ 12 ≤ rs) {S : zm_S} (h : zf_X11_disable_J32 N a0 i1 i2 t0 S = some out) : zw p l e R s m args below meth c (vx_MQ below (zm_Qc zk_E V (zq_i out)) (zm_XC zk_E V (zq_x out)) args s mc ms (fun q => V.2.2.2.1 ≤ q)) 4 zk_E V mc ms 32 [(0, .ref a0), (1, .int i1), (2, .int i2)] [.int t0] S rc rs := by
  unfold zf_X11_disable_J32 at h
  obtain ⟨r, g, h⟩ := zb_some h
  refine zc_S (as := [.int t0]) hX (zt_X11_needArgument hlt (d := d - 1) (by omega) g) zl_X11_100 dX11_disable_32 ⟨rfl, rfl, Nat.le_of_ble_eq_true rfl⟩ ⟨by omega, by omega⟩ ⟨by omega, by omega⟩ ?_ ?_
  · rintro _ S6 ⟨⟨u5, rfl⟩, rfl⟩
    try dsimp only at h
    refine zw_aload_n hX dX11_disable_35 rfl ?_
    obtain ⟨v7, g, h⟩ := zb_some h
    refine zw_geti hX zl_X11_104 dX11_disable_36 g ?_
    obtain ⟨r, g, h⟩ := zb_some h
    refine zc_S (as := [.int v7]) hX (zt_X11_needState hlt (d := d - 1) (by omega) g) zl_X11_112 dX11_disable_39 ⟨rfl, rfl, Nat.le_of_ble_eq_true rfl⟩ ⟨by omega, by omega⟩ ⟨by omega, by omega⟩ ?_ ?_
    · rintro _ S9 ⟨⟨u8, rfl⟩, rfl⟩
      try dsimp only at h
      refine zw_aload_n hX dX11_disable_42 rfl ?_
      obtain ⟨b10, g, h⟩ := zb_some h
      refine zw_getr hX zl_X11_85 dX11_disable_43 g ?_
      obtain ⟨b11, g, h⟩ := zb_some h
      refine zw_getNr hX zl_X11_390 dX11_disable_46 g ?_
      refine zw_iload_n hX dX11_disable_49 rfl ?_
      obtain ⟨v12, g, h⟩ := zb_some h
      refine zw_xi hX dX11_disable_50 g ?_
      refine zw_istore_n hX dX11_disable_51 (by decide) ?_
      refine zw_aload_n hX dX11_disable_52 rfl ?_
      obtain ⟨b13, g, h⟩ := zb_some h
      refine zw_getr hX zl_X11_85 dX11_disable_53 g ?_
      obtain ⟨b14, g, h⟩ := zb_some h
      refine zw_getNr hX zl_X11_390 dX11_disable_56 g ?_
      refine zw_iload_n hX dX11_disable_59 rfl ?_
      refine zw_iload_n hX dX11_disable_60 rfl ?_
      obtain ⟨S15, g, h⟩ := zb_some h
      refine zw_si hX dX11_disable_61 g ?_
      refine zw_iload_n hX dX11_disable_62 rfl ?_
      obtain rfl := Option.some.inj h
      exact zw_iret hX hr dX11_disable_63 rfl ⟨_, rfl, rfl⟩
    · rintro X S9 rfl
      obtain rfl := Option.some.inj h
      exact zx_out hX hxt rfl
  · rintro X S9 rfl
    obtain rfl := Option.some.inj h
    exact zx_out hX hxt rfl
set_option maxHeartbeats 4000000 in
set_option maxRecDepth 100000 in
theorem zt_X11_disable_J31 {p : Program} {l : Launch} {e : Env} {R : Room} {s : State} {m : MethodId} {args : Array Value} {below : List Frame} {meth : Method} {c : Code} {V : zm_V} {mc ms d rc rs : Nat} (hlt : l.stackTraces = false) (hxt : ∀ x ∈ c.exceptionTable.toList, False) (hX : zm_X p R s m args meth c RX11 "disable" cX11_disable 4 zk_E V mc ms) (hr : meth.sig.returnType = (some .int)) (hR : R.frames = d ∧ R.locals = 64 * d) (hd : 7 ≤ d) {N : Nat} {a0 : Nat} {i1 : Int32} {i2 : Int32} {out : ((Int32 ⊕ String) × zm_S)} (hc : 2 ≤ rc ∧ 12 ≤ rs) {S : zm_S} (h : zf_X11_disable_J31 N a0 i1 i2 S = some out) : zw p l e R s m args below meth c (vx_MQ below (zm_Qc zk_E V (zq_i out)) (zm_XC zk_E V (zq_x out)) args s mc ms (fun q => V.2.2.2.1 ≤ q)) 4 zk_E V mc ms 31 [(0, .ref a0), (1, .int i1), (2, .int i2)] [] S rc rs := by
  unfold zf_X11_disable_J31 at h
  refine zw_iconst (v := (0 : Int32)) hX dX11_disable_31 (by decide) ?_
  refine zw_sub (lv' := [(0, .ref a0), (1, .int i1), (2, .int i2)]) (List.forall_mem_cons.mpr ⟨rfl, (List.forall_mem_cons.mpr ⟨rfl, (List.forall_mem_cons.mpr ⟨rfl, zs_nil⟩)⟩)⟩) ?_
  exact zt_X11_disable_J32 hlt hxt hX hr hR hd ⟨by omega, by omega⟩ h
set_option maxHeartbeats 4000000 in
set_option maxRecDepth 100000 in
theorem zt_X11_disable {l : Launch} {V : zm_V} (hlt : l.stackTraces = false) {N : Nat} {S : zm_S} {out : ((Int32 ⊕ String) × zm_S)} {d : Nat} {a0 : Nat} {i1 : Int32} {i2 : Int32} (hd : 7 ≤ d) (h : zf_X11_disable N a0 i1 i2 S = some out) : zm_Met l zk_E V yX11_disable (.code yX11_disable cX11_disable 4 (some .int)) d [.ref a0, .int i1, .int i2] S 2 12 (zq_i out) (zq_x out) := by
  refine zm_of (by decide +kernel) (Nat.le_of_ble_eq_true rfl) ?_
  intro p e R s m args below meth c hRR hX hr hxt
  have hR : R.frames = d ∧ R.locals = 64 * d := by rw [hRR]; exact ⟨rfl, rfl⟩
  have hX : zm_X p R s m args meth c RX11 "disable" cX11_disable 4 zk_E V 2 12 := hX
  unfold zf_X11_disable at h
  refine zw_sub (lv' := [(0, .ref a0), (1, .int i1), (2, .int i2)]) (List.forall_mem_cons.mpr ⟨rfl, (List.forall_mem_cons.mpr ⟨rfl, (List.forall_mem_cons.mpr ⟨rfl, zs_nil⟩)⟩)⟩) ?_
  refine zw_iload_n hX dX11_disable_0 rfl ?_
  refine zw_iconst (v := (0 : Int32)) hX dX11_disable_1 (by decide) ?_
  refine zw_aload_n hX dX11_disable_2 rfl ?_
  obtain ⟨b1, g, h⟩ := zb_some h
  refine zw_getr hX zl_X11_85 dX11_disable_3 g ?_
  obtain ⟨v2, g, h⟩ := zb_some h
  refine zw_getNi hX zl_X11_261 dX11_disable_6 g ?_
  refine zw_iconst (v := (1 : Int32)) hX dX11_disable_9 (by decide) ?_
  refine zw_isub hX dX11_disable_10 ?_
  obtain ⟨r4, g, h⟩ := zb_some h
  refine zc_Si (as := [.int i1, .int (0 : Int32), .int (v2 - (1 : Int32))]) hX (zt_X11_isWithin (d := d - 1) (by omega) g) zl_X11_133 dX11_disable_11 ⟨rfl, rfl, Nat.le_of_ble_eq_true rfl⟩ ⟨by omega, by omega⟩ ?_
  refine zw_if_eq (tgt := 31) hX dX11_disable_14 (by decide) (fun c14 => ?_) (fun c14 => ?_)
  · rw [if_pos c14] at h
    refine zw_sub (lv' := [(0, .ref a0), (1, .int i1), (2, .int i2)]) (List.forall_mem_cons.mpr ⟨rfl, (List.forall_mem_cons.mpr ⟨rfl, (List.forall_mem_cons.mpr ⟨rfl, zs_nil⟩)⟩)⟩) ?_
    exact zt_X11_disable_J31 hlt hxt hX hr hR hd ⟨by omega, by omega⟩ h
  · rw [if_neg c14] at h
    refine zw_iload_n hX dX11_disable_17 rfl ?_
    refine zw_iconst (v := (0 : Int32)) hX dX11_disable_18 (by decide) ?_
    refine zw_ldc (v := (1000000 : Int32)) hX dX11_disable_19 zl_X11_237 ?_
    obtain ⟨r17, g, h⟩ := zb_some h
    refine zc_Si (as := [.int i2, .int (0 : Int32), .int (1000000 : Int32)]) hX (zt_X11_isWithin (d := d - 1) (by omega) g) zl_X11_133 dX11_disable_21 ⟨rfl, rfl, Nat.le_of_ble_eq_true rfl⟩ ⟨by omega, by omega⟩ ?_
    refine zw_if_eq (tgt := 31) hX dX11_disable_24 (by decide) (fun c24 => ?_) (fun c24 => ?_)
    · rw [if_pos c24] at h
      refine zw_sub (lv' := [(0, .ref a0), (1, .int i1), (2, .int i2)]) (List.forall_mem_cons.mpr ⟨rfl, (List.forall_mem_cons.mpr ⟨rfl, (List.forall_mem_cons.mpr ⟨rfl, zs_nil⟩)⟩)⟩) ?_
      exact zt_X11_disable_J31 hlt hxt hX hr hR hd ⟨by omega, by omega⟩ h
    · rw [if_neg c24] at h
      refine zw_iconst (v := (1 : Int32)) hX dX11_disable_27 (by decide) ?_
      refine zw_goto (tgt := 32) hX dX11_disable_28 (by decide) ?_
      refine zw_sub (lv' := [(0, .ref a0), (1, .int i1), (2, .int i2)]) (List.forall_mem_cons.mpr ⟨rfl, (List.forall_mem_cons.mpr ⟨rfl, (List.forall_mem_cons.mpr ⟨rfl, zs_nil⟩)⟩)⟩) ?_
      exact zt_X11_disable_J32 hlt hxt hX hr hR hd ⟨by omega, by omega⟩ h
set_option maxHeartbeats 4000000 in
set_option maxRecDepth 100000 in
theorem zt_X11_attend {l : Launch} {V : zm_V} (hlt : l.stackTraces = false) {N : Nat} {S : zm_S} {out : ((Int32 ⊕ String) × zm_S)} {d : Nat} {a0 : Nat} {i1 : Int32} (hd : 7 ≤ d) (h : zf_X11_attend N a0 i1 S = some out) : zm_Met l zk_E V yX11_attend (.code yX11_attend cX11_attend 2 (some .int)) d [.ref a0, .int i1] S 2 12 (zq_i out) (zq_x out) := by
  refine zm_of (by decide +kernel) (Nat.le_of_ble_eq_true rfl) ?_
  intro p e R s m args below meth c hRR hX hr hxt
  have hR : R.frames = d ∧ R.locals = 64 * d := by rw [hRR]; exact ⟨rfl, rfl⟩
  have hX : zm_X p R s m args meth c RX11 "attend" cX11_attend 2 zk_E V 2 12 := hX
  unfold zf_X11_attend at h
  refine zw_sub (lv' := [(0, .ref a0), (1, .int i1)]) (List.forall_mem_cons.mpr ⟨rfl, (List.forall_mem_cons.mpr ⟨rfl, zs_nil⟩)⟩) ?_
  refine zw_iload_n hX dX11_attend_0 rfl ?_
  refine zw_iconst (v := (0 : Int32)) hX dX11_attend_1 (by decide) ?_
  refine zw_iconst (v := (1 : Int32)) hX dX11_attend_2 (by decide) ?_
  obtain ⟨r2, g, h⟩ := zb_some h
  refine zc_Si (as := [.int i1, .int (0 : Int32), .int (1 : Int32)]) hX (zt_X11_isWithin (d := d - 1) (by omega) g) zl_X11_133 dX11_attend_3 ⟨rfl, rfl, Nat.le_of_ble_eq_true rfl⟩ ⟨by omega, by omega⟩ ?_
  obtain ⟨r, g, h⟩ := zb_some h
  refine zc_S (as := [.int r2.1]) hX (zt_X11_needArgument hlt (d := d - 1) (by omega) g) zl_X11_100 dX11_attend_6 ⟨rfl, rfl, Nat.le_of_ble_eq_true rfl⟩ ⟨by omega, by omega⟩ ⟨by omega, by omega⟩ ?_ ?_
  · rintro _ S4 ⟨⟨u3, rfl⟩, rfl⟩
    try dsimp only at h
    refine zw_aload_n hX dX11_attend_9 rfl ?_
    obtain ⟨v5, g, h⟩ := zb_some h
    refine zw_geti hX zl_X11_104 dX11_attend_10 g ?_
    obtain ⟨r, g, h⟩ := zb_some h
    refine zc_S (as := [.int v5]) hX (zt_X11_needState hlt (d := d - 1) (by omega) g) zl_X11_112 dX11_attend_13 ⟨rfl, rfl, Nat.le_of_ble_eq_true rfl⟩ ⟨by omega, by omega⟩ ⟨by omega, by omega⟩ ?_ ?_
    · rintro _ S7 ⟨⟨u6, rfl⟩, rfl⟩
      try dsimp only at h
      refine zw_iload_n hX dX11_attend_16 rfl ?_
      refine zw_if_ne (tgt := 34) hX dX11_attend_17 (by decide) (fun c17 => ?_) (fun c17 => ?_)
      · rw [if_neg c17] at h
        refine zw_aload_n hX dX11_attend_34 rfl ?_
        obtain ⟨b8, g, h⟩ := zb_some h
        refine zw_getr hX zl_X11_85 dX11_attend_35 g ?_
        obtain ⟨_, gi, h⟩ := zb_some h
        obtain ⟨r10, g, h⟩ := zb_some h
        refine zc_Vi (as := []) hX gi (zt_X4_confirmActs (d := d - 1) (by omega) g) zl_X11_396 rfl dX11_attend_38 ⟨rfl, rfl, Nat.le_of_ble_eq_true rfl⟩ ⟨by omega, by omega⟩ ?_
        obtain rfl := Option.some.inj h
        exact zw_iret hX hr dX11_attend_41 rfl ⟨_, rfl, rfl⟩
      · rw [if_pos c17] at h
        refine zw_aload_n hX dX11_attend_20 rfl ?_
        obtain ⟨b11, g, h⟩ := zb_some h
        refine zw_getr hX zl_X11_85 dX11_attend_21 g ?_
        refine zw_aload_n hX dX11_attend_24 rfl ?_
        obtain ⟨v12, g, h⟩ := zb_some h
        refine zw_geti hX zl_X11_312 dX11_attend_25 g ?_
        obtain ⟨_, gi, h⟩ := zb_some h
        obtain ⟨r14, g, h⟩ := zb_some h
        refine zc_Vi (as := [.int v12]) hX gi (zt_X4_lookAtActs (d := d - 1) (by omega) g) zl_X11_393 rfl dX11_attend_28 ⟨rfl, rfl, Nat.le_of_ble_eq_true rfl⟩ ⟨by omega, by omega⟩ ?_
        refine zw_goto (tgt := 41) hX dX11_attend_31 (by decide) ?_
        obtain rfl := Option.some.inj h
        exact zw_iret hX hr dX11_attend_41 rfl ⟨_, rfl, rfl⟩
    · rintro X S9 rfl
      obtain rfl := Option.some.inj h
      exact zx_out hX hxt rfl
  · rintro X S9 rfl
    obtain rfl := Option.some.inj h
    exact zx_out hX hxt rfl
set_option maxHeartbeats 4000000 in
set_option maxRecDepth 100000 in
theorem zt_X11_reset {l : Launch} {V : zm_V} (hlt : l.stackTraces = false) {N : Nat} {S : zm_S} {out : ((Int32 ⊕ String) × zm_S)} {d : Nat} {a0 : Nat} (hd : 7 ≤ d) (h : zf_X11_reset N a0 S = some out) : zm_Met l zk_E V yX11_reset (.code yX11_reset cX11_reset 1 (some .int)) d [.ref a0] S 1 6 (zq_i out) (zq_x out) := by
  refine zm_of (by decide +kernel) (Nat.le_of_ble_eq_true rfl) ?_
  intro p e R s m args below meth c hRR hX hr hxt
  have hR : R.frames = d ∧ R.locals = 64 * d := by rw [hRR]; exact ⟨rfl, rfl⟩
  have hX : zm_X p R s m args meth c RX11 "reset" cX11_reset 1 zk_E V 1 6 := hX
  unfold zf_X11_reset at h
  refine zw_sub (lv' := [(0, .ref a0)]) (List.forall_mem_cons.mpr ⟨rfl, zs_nil⟩) ?_
  refine zw_aload_n hX dX11_reset_0 rfl ?_
  obtain ⟨v1, g, h⟩ := zb_some h
  refine zw_geti hX zl_X11_104 dX11_reset_1 g ?_
  obtain ⟨r, g, h⟩ := zb_some h
  refine zc_S (as := [.int v1]) hX (zt_X11_needState hlt (d := d - 1) (by omega) g) zl_X11_112 dX11_reset_4 ⟨rfl, rfl, Nat.le_of_ble_eq_true rfl⟩ ⟨by omega, by omega⟩ ⟨by omega, by omega⟩ ?_ ?_
  · rintro _ S3 ⟨⟨u2, rfl⟩, rfl⟩
    try dsimp only at h
    refine zw_aload_n hX dX11_reset_7 rfl ?_
    obtain ⟨b4, g, h⟩ := zb_some h
    refine zw_getr hX zl_X11_85 dX11_reset_8 g ?_
    refine zw_aload_n hX dX11_reset_11 rfl ?_
    obtain ⟨v5, g, h⟩ := zb_some h
    refine zw_geti hX zl_X11_312 dX11_reset_12 g ?_
    obtain ⟨_, gi, h⟩ := zb_some h
    obtain ⟨r7, g, h⟩ := zb_some h
    refine zc_Vi (as := [.int v5]) hX gi (zt_X4_resetLatched (d := d - 1) (by omega) g) zl_X11_399 rfl dX11_reset_15 ⟨rfl, rfl, Nat.le_of_ble_eq_true rfl⟩ ⟨by omega, by omega⟩ ?_
    obtain rfl := Option.some.inj h
    exact zw_iret hX hr dX11_reset_18 rfl ⟨_, rfl, rfl⟩
  · rintro X S9 rfl
    obtain rfl := Option.some.inj h
    exact zx_out hX hxt rfl
set_option maxHeartbeats 4000000 in
set_option maxRecDepth 100000 in
theorem zt_X11_act_J25 {p : Program} {l : Launch} {e : Env} {R : Room} {s : State} {m : MethodId} {args : Array Value} {below : List Frame} {meth : Method} {c : Code} {V : zm_V} {mc ms d rc rs : Nat} (hlt : l.stackTraces = false) (hxt : ∀ x ∈ c.exceptionTable.toList, False) (hX : zm_X p R s m args meth c RX11 "act" cX11_act 3 zk_E V mc ms) (hr : meth.sig.returnType = (some .int)) (hR : R.frames = d ∧ R.locals = 64 * d) (hd : 7 ≤ d) {N : Nat} {a0 : Nat} {i1 : Int32} {i2 : Int32} {t0 : Int32} {out : ((Int32 ⊕ String) × zm_S)} (hc : 2 ≤ rc ∧ 12 ≤ rs) {S : zm_S} (h : zf_X11_act_J25 N a0 i1 i2 t0 S = some out) : zw p l e R s m args below meth c (vx_MQ below (zm_Qc zk_E V (zq_i out)) (zm_XC zk_E V (zq_x out)) args s mc ms (fun q => V.2.2.2.1 ≤ q)) 3 zk_E V mc ms 25 [(0, .ref a0), (1, .int i1), (2, .int i2)] [.int t0] S rc rs := by
  unfold zf_X11_act_J25 at h
  obtain ⟨r, g, h⟩ := zb_some h
  refine zc_S (as := [.int t0]) hX (zt_X11_needArgument hlt (d := d - 1) (by omega) g) zl_X11_100 dX11_act_25 ⟨rfl, rfl, Nat.le_of_ble_eq_true rfl⟩ ⟨by omega, by omega⟩ ⟨by omega, by omega⟩ ?_ ?_
  · rintro _ S5 ⟨⟨u4, rfl⟩, rfl⟩
    try dsimp only at h
    refine zw_aload_n hX dX11_act_28 rfl ?_
    obtain ⟨v6, g, h⟩ := zb_some h
    refine zw_geti hX zl_X11_104 dX11_act_29 g ?_
    obtain ⟨r, g, h⟩ := zb_some h
    refine zc_S (as := [.int v6]) hX (zt_X11_needState hlt (d := d - 1) (by omega) g) zl_X11_112 dX11_act_32 ⟨rfl, rfl, Nat.le_of_ble_eq_true rfl⟩ ⟨by omega, by omega⟩ ⟨by omega, by omega⟩ ?_ ?_
    · rintro _ S8 ⟨⟨u7, rfl⟩, rfl⟩
      try dsimp only at h
      refine zw_aload_n hX dX11_act_35 rfl ?_
      obtain ⟨b9, g, h⟩ := zb_some h
      refine zw_getr hX zl_X11_85 dX11_act_36 g ?_
      refine zw_iload_n hX dX11_act_39 rfl ?_
      refine zw_iload_n hX dX11_act_40 rfl ?_
      obtain ⟨_, gi, h⟩ := zb_some h
      obtain ⟨r11, g, h⟩ := zb_some h
      refine zc_Vi (as := [.int i1, .int i2]) hX gi (zt_X4_actFact (d := d - 1) (by omega) g) zl_X11_405 rfl dX11_act_41 ⟨rfl, rfl, Nat.le_of_ble_eq_true rfl⟩ ⟨by omega, by omega⟩ ?_
      obtain rfl := Option.some.inj h
      exact zw_iret hX hr dX11_act_44 rfl ⟨_, rfl, rfl⟩
    · rintro X S9 rfl
      obtain rfl := Option.some.inj h
      exact zx_out hX hxt rfl
  · rintro X S9 rfl
    obtain rfl := Option.some.inj h
    exact zx_out hX hxt rfl
set_option maxHeartbeats 4000000 in
set_option maxRecDepth 100000 in
theorem zt_X11_act_J24 {p : Program} {l : Launch} {e : Env} {R : Room} {s : State} {m : MethodId} {args : Array Value} {below : List Frame} {meth : Method} {c : Code} {V : zm_V} {mc ms d rc rs : Nat} (hlt : l.stackTraces = false) (hxt : ∀ x ∈ c.exceptionTable.toList, False) (hX : zm_X p R s m args meth c RX11 "act" cX11_act 3 zk_E V mc ms) (hr : meth.sig.returnType = (some .int)) (hR : R.frames = d ∧ R.locals = 64 * d) (hd : 7 ≤ d) {N : Nat} {a0 : Nat} {i1 : Int32} {i2 : Int32} {out : ((Int32 ⊕ String) × zm_S)} (hc : 2 ≤ rc ∧ 12 ≤ rs) {S : zm_S} (h : zf_X11_act_J24 N a0 i1 i2 S = some out) : zw p l e R s m args below meth c (vx_MQ below (zm_Qc zk_E V (zq_i out)) (zm_XC zk_E V (zq_x out)) args s mc ms (fun q => V.2.2.2.1 ≤ q)) 3 zk_E V mc ms 24 [(0, .ref a0), (1, .int i1), (2, .int i2)] [] S rc rs := by
  unfold zf_X11_act_J24 at h
  refine zw_iconst (v := (0 : Int32)) hX dX11_act_24 (by decide) ?_
  refine zw_sub (lv' := [(0, .ref a0), (1, .int i1), (2, .int i2)]) (List.forall_mem_cons.mpr ⟨rfl, (List.forall_mem_cons.mpr ⟨rfl, (List.forall_mem_cons.mpr ⟨rfl, zs_nil⟩)⟩)⟩) ?_
  exact zt_X11_act_J25 hlt hxt hX hr hR hd ⟨by omega, by omega⟩ h
set_option maxHeartbeats 4000000 in
set_option maxRecDepth 100000 in
theorem zt_X11_act {l : Launch} {V : zm_V} (hlt : l.stackTraces = false) {N : Nat} {S : zm_S} {out : ((Int32 ⊕ String) × zm_S)} {d : Nat} {a0 : Nat} {i1 : Int32} {i2 : Int32} (hd : 7 ≤ d) (h : zf_X11_act N a0 i1 i2 S = some out) : zm_Met l zk_E V yX11_act (.code yX11_act cX11_act 3 (some .int)) d [.ref a0, .int i1, .int i2] S 2 12 (zq_i out) (zq_x out) := by
  refine zm_of (by decide +kernel) (Nat.le_of_ble_eq_true rfl) ?_
  intro p e R s m args below meth c hRR hX hr hxt
  have hR : R.frames = d ∧ R.locals = 64 * d := by rw [hRR]; exact ⟨rfl, rfl⟩
  have hX : zm_X p R s m args meth c RX11 "act" cX11_act 3 zk_E V 2 12 := hX
  unfold zf_X11_act at h
  refine zw_sub (lv' := [(0, .ref a0), (1, .int i1), (2, .int i2)]) (List.forall_mem_cons.mpr ⟨rfl, (List.forall_mem_cons.mpr ⟨rfl, (List.forall_mem_cons.mpr ⟨rfl, zs_nil⟩)⟩)⟩) ?_
  refine zw_aload_n hX dX11_act_0 rfl ?_
  obtain ⟨b1, g, h⟩ := zb_some h
  refine zw_getr hX zl_X11_85 dX11_act_1 g ?_
  refine zw_iload_n hX dX11_act_4 rfl ?_
  obtain ⟨_, gi, h⟩ := zb_some h
  obtain ⟨r3, g, h⟩ := zb_some h
  refine zc_Vi (as := [.int i1]) hX gi (zt_X4_isAct (d := d - 1) (by omega) g) zl_X11_402 rfl dX11_act_5 ⟨rfl, rfl, Nat.le_of_ble_eq_true rfl⟩ ⟨by omega, by omega⟩ ?_
  refine zw_if_eq (tgt := 24) hX dX11_act_8 (by decide) (fun c8 => ?_) (fun c8 => ?_)
  · rw [if_pos c8] at h
    refine zw_sub (lv' := [(0, .ref a0), (1, .int i1), (2, .int i2)]) (List.forall_mem_cons.mpr ⟨rfl, (List.forall_mem_cons.mpr ⟨rfl, (List.forall_mem_cons.mpr ⟨rfl, zs_nil⟩)⟩)⟩) ?_
    exact zt_X11_act_J24 hlt hxt hX hr hR hd ⟨by omega, by omega⟩ h
  · rw [if_neg c8] at h
    refine zw_iload_n hX dX11_act_11 rfl ?_
    refine zw_iconst (v := (0 : Int32)) hX dX11_act_12 (by decide) ?_
    refine zw_iconst (v := (5 : Int32)) hX dX11_act_13 (by decide) ?_
    obtain ⟨r13, g, h⟩ := zb_some h
    refine zc_Si (as := [.int i2, .int (0 : Int32), .int (5 : Int32)]) hX (zt_X11_isWithin (d := d - 1) (by omega) g) zl_X11_133 dX11_act_14 ⟨rfl, rfl, Nat.le_of_ble_eq_true rfl⟩ ⟨by omega, by omega⟩ ?_
    refine zw_if_eq (tgt := 24) hX dX11_act_17 (by decide) (fun c17 => ?_) (fun c17 => ?_)
    · rw [if_pos c17] at h
      refine zw_sub (lv' := [(0, .ref a0), (1, .int i1), (2, .int i2)]) (List.forall_mem_cons.mpr ⟨rfl, (List.forall_mem_cons.mpr ⟨rfl, (List.forall_mem_cons.mpr ⟨rfl, zs_nil⟩)⟩)⟩) ?_
      exact zt_X11_act_J24 hlt hxt hX hr hR hd ⟨by omega, by omega⟩ h
    · rw [if_neg c17] at h
      refine zw_iconst (v := (1 : Int32)) hX dX11_act_20 (by decide) ?_
      refine zw_goto (tgt := 25) hX dX11_act_21 (by decide) ?_
      refine zw_sub (lv' := [(0, .ref a0), (1, .int i1), (2, .int i2)]) (List.forall_mem_cons.mpr ⟨rfl, (List.forall_mem_cons.mpr ⟨rfl, (List.forall_mem_cons.mpr ⟨rfl, zs_nil⟩)⟩)⟩) ?_
      exact zt_X11_act_J25 hlt hxt hX hr hR hd ⟨by omega, by omega⟩ h
set_option maxHeartbeats 4000000 in
set_option maxRecDepth 100000 in
theorem zt_X11_zone_J25 {p : Program} {l : Launch} {e : Env} {R : Room} {s : State} {m : MethodId} {args : Array Value} {below : List Frame} {meth : Method} {c : Code} {V : zm_V} {mc ms d rc rs : Nat} (hlt : l.stackTraces = false) (hxt : ∀ x ∈ c.exceptionTable.toList, False) (hX : zm_X p R s m args meth c RX11 "zone" cX11_zone 3 zk_E V mc ms) (hr : meth.sig.returnType = (some .int)) (hR : R.frames = d ∧ R.locals = 64 * d) (hd : 7 ≤ d) {N : Nat} {a0 : Nat} {i1 : Int32} {i2 : Int32} {t0 : Int32} {out : ((Int32 ⊕ String) × zm_S)} (hc : 2 ≤ rc ∧ 12 ≤ rs) {S : zm_S} (h : zf_X11_zone_J25 N a0 i1 i2 t0 S = some out) : zw p l e R s m args below meth c (vx_MQ below (zm_Qc zk_E V (zq_i out)) (zm_XC zk_E V (zq_x out)) args s mc ms (fun q => V.2.2.2.1 ≤ q)) 3 zk_E V mc ms 25 [(0, .ref a0), (1, .int i1), (2, .int i2)] [.int t0] S rc rs := by
  unfold zf_X11_zone_J25 at h
  obtain ⟨r, g, h⟩ := zb_some h
  refine zc_S (as := [.int t0]) hX (zt_X11_needArgument hlt (d := d - 1) (by omega) g) zl_X11_100 dX11_zone_25 ⟨rfl, rfl, Nat.le_of_ble_eq_true rfl⟩ ⟨by omega, by omega⟩ ⟨by omega, by omega⟩ ?_ ?_
  · rintro _ S5 ⟨⟨u4, rfl⟩, rfl⟩
    try dsimp only at h
    refine zw_aload_n hX dX11_zone_28 rfl ?_
    obtain ⟨v6, g, h⟩ := zb_some h
    refine zw_geti hX zl_X11_104 dX11_zone_29 g ?_
    obtain ⟨r, g, h⟩ := zb_some h
    refine zc_S (as := [.int v6]) hX (zt_X11_needState hlt (d := d - 1) (by omega) g) zl_X11_112 dX11_zone_32 ⟨rfl, rfl, Nat.le_of_ble_eq_true rfl⟩ ⟨by omega, by omega⟩ ⟨by omega, by omega⟩ ?_ ?_
    · rintro _ S8 ⟨⟨u7, rfl⟩, rfl⟩
      try dsimp only at h
      refine zw_aload_n hX dX11_zone_35 rfl ?_
      obtain ⟨b9, g, h⟩ := zb_some h
      refine zw_getr hX zl_X11_85 dX11_zone_36 g ?_
      refine zw_iload_n hX dX11_zone_39 rfl ?_
      refine zw_iload_n hX dX11_zone_40 rfl ?_
      refine zw_aload_n hX dX11_zone_41 rfl ?_
      obtain ⟨v10, g, h⟩ := zb_some h
      refine zw_geti hX zl_X11_312 dX11_zone_42 g ?_
      obtain ⟨_, gi, h⟩ := zb_some h
      obtain ⟨r12, g, h⟩ := zb_some h
      refine zc_Vi (as := [.int i1, .int i2, .int v10]) hX gi (zt_X4_zoneFact (d := d - 1) (by omega) g) zl_X11_411 rfl dX11_zone_45 ⟨rfl, rfl, Nat.le_of_ble_eq_true rfl⟩ ⟨by omega, by omega⟩ ?_
      obtain rfl := Option.some.inj h
      exact zw_iret hX hr dX11_zone_48 rfl ⟨_, rfl, rfl⟩
    · rintro X S9 rfl
      obtain rfl := Option.some.inj h
      exact zx_out hX hxt rfl
  · rintro X S9 rfl
    obtain rfl := Option.some.inj h
    exact zx_out hX hxt rfl
set_option maxHeartbeats 4000000 in
set_option maxRecDepth 100000 in
theorem zt_X11_zone_J24 {p : Program} {l : Launch} {e : Env} {R : Room} {s : State} {m : MethodId} {args : Array Value} {below : List Frame} {meth : Method} {c : Code} {V : zm_V} {mc ms d rc rs : Nat} (hlt : l.stackTraces = false) (hxt : ∀ x ∈ c.exceptionTable.toList, False) (hX : zm_X p R s m args meth c RX11 "zone" cX11_zone 3 zk_E V mc ms) (hr : meth.sig.returnType = (some .int)) (hR : R.frames = d ∧ R.locals = 64 * d) (hd : 7 ≤ d) {N : Nat} {a0 : Nat} {i1 : Int32} {i2 : Int32} {out : ((Int32 ⊕ String) × zm_S)} (hc : 2 ≤ rc ∧ 12 ≤ rs) {S : zm_S} (h : zf_X11_zone_J24 N a0 i1 i2 S = some out) : zw p l e R s m args below meth c (vx_MQ below (zm_Qc zk_E V (zq_i out)) (zm_XC zk_E V (zq_x out)) args s mc ms (fun q => V.2.2.2.1 ≤ q)) 3 zk_E V mc ms 24 [(0, .ref a0), (1, .int i1), (2, .int i2)] [] S rc rs := by
  unfold zf_X11_zone_J24 at h
  refine zw_iconst (v := (0 : Int32)) hX dX11_zone_24 (by decide) ?_
  refine zw_sub (lv' := [(0, .ref a0), (1, .int i1), (2, .int i2)]) (List.forall_mem_cons.mpr ⟨rfl, (List.forall_mem_cons.mpr ⟨rfl, (List.forall_mem_cons.mpr ⟨rfl, zs_nil⟩)⟩)⟩) ?_
  exact zt_X11_zone_J25 hlt hxt hX hr hR hd ⟨by omega, by omega⟩ h
set_option maxHeartbeats 4000000 in
set_option maxRecDepth 100000 in
theorem zt_X11_zone {l : Launch} {V : zm_V} (hlt : l.stackTraces = false) {N : Nat} {S : zm_S} {out : ((Int32 ⊕ String) × zm_S)} {d : Nat} {a0 : Nat} {i1 : Int32} {i2 : Int32} (hd : 7 ≤ d) (h : zf_X11_zone N a0 i1 i2 S = some out) : zm_Met l zk_E V yX11_zone (.code yX11_zone cX11_zone 3 (some .int)) d [.ref a0, .int i1, .int i2] S 2 12 (zq_i out) (zq_x out) := by
  refine zm_of (by decide +kernel) (Nat.le_of_ble_eq_true rfl) ?_
  intro p e R s m args below meth c hRR hX hr hxt
  have hR : R.frames = d ∧ R.locals = 64 * d := by rw [hRR]; exact ⟨rfl, rfl⟩
  have hX : zm_X p R s m args meth c RX11 "zone" cX11_zone 3 zk_E V 2 12 := hX
  unfold zf_X11_zone at h
  refine zw_sub (lv' := [(0, .ref a0), (1, .int i1), (2, .int i2)]) (List.forall_mem_cons.mpr ⟨rfl, (List.forall_mem_cons.mpr ⟨rfl, (List.forall_mem_cons.mpr ⟨rfl, zs_nil⟩)⟩)⟩) ?_
  refine zw_aload_n hX dX11_zone_0 rfl ?_
  obtain ⟨b1, g, h⟩ := zb_some h
  refine zw_getr hX zl_X11_85 dX11_zone_1 g ?_
  refine zw_iload_n hX dX11_zone_4 rfl ?_
  obtain ⟨_, gi, h⟩ := zb_some h
  obtain ⟨r3, g, h⟩ := zb_some h
  refine zc_Vi (as := [.int i1]) hX gi (zt_X4_isZone (d := d - 1) (by omega) g) zl_X11_408 rfl dX11_zone_5 ⟨rfl, rfl, Nat.le_of_ble_eq_true rfl⟩ ⟨by omega, by omega⟩ ?_
  refine zw_if_eq (tgt := 24) hX dX11_zone_8 (by decide) (fun c8 => ?_) (fun c8 => ?_)
  · rw [if_pos c8] at h
    refine zw_sub (lv' := [(0, .ref a0), (1, .int i1), (2, .int i2)]) (List.forall_mem_cons.mpr ⟨rfl, (List.forall_mem_cons.mpr ⟨rfl, (List.forall_mem_cons.mpr ⟨rfl, zs_nil⟩)⟩)⟩) ?_
    exact zt_X11_zone_J24 hlt hxt hX hr hR hd ⟨by omega, by omega⟩ h
  · rw [if_neg c8] at h
    refine zw_iload_n hX dX11_zone_11 rfl ?_
    refine zw_iconst (v := (0 : Int32)) hX dX11_zone_12 (by decide) ?_
    refine zw_iconst (v := (3 : Int32)) hX dX11_zone_13 (by decide) ?_
    obtain ⟨r14, g, h⟩ := zb_some h
    refine zc_Si (as := [.int i2, .int (0 : Int32), .int (3 : Int32)]) hX (zt_X11_isWithin (d := d - 1) (by omega) g) zl_X11_133 dX11_zone_14 ⟨rfl, rfl, Nat.le_of_ble_eq_true rfl⟩ ⟨by omega, by omega⟩ ?_
    refine zw_if_eq (tgt := 24) hX dX11_zone_17 (by decide) (fun c17 => ?_) (fun c17 => ?_)
    · rw [if_pos c17] at h
      refine zw_sub (lv' := [(0, .ref a0), (1, .int i1), (2, .int i2)]) (List.forall_mem_cons.mpr ⟨rfl, (List.forall_mem_cons.mpr ⟨rfl, (List.forall_mem_cons.mpr ⟨rfl, zs_nil⟩)⟩)⟩) ?_
      exact zt_X11_zone_J24 hlt hxt hX hr hR hd ⟨by omega, by omega⟩ h
    · rw [if_neg c17] at h
      refine zw_iconst (v := (1 : Int32)) hX dX11_zone_20 (by decide) ?_
      refine zw_goto (tgt := 25) hX dX11_zone_21 (by decide) ?_
      refine zw_sub (lv' := [(0, .ref a0), (1, .int i1), (2, .int i2)]) (List.forall_mem_cons.mpr ⟨rfl, (List.forall_mem_cons.mpr ⟨rfl, (List.forall_mem_cons.mpr ⟨rfl, zs_nil⟩)⟩)⟩) ?_
      exact zt_X11_zone_J25 hlt hxt hX hr hR hd ⟨by omega, by omega⟩ h
set_option maxHeartbeats 4000000 in
set_option maxRecDepth 100000 in
theorem zt_X11_event_J31 {p : Program} {l : Launch} {e : Env} {R : Room} {s : State} {m : MethodId} {args : Array Value} {below : List Frame} {meth : Method} {c : Code} {V : zm_V} {mc ms d rc rs : Nat} (hlt : l.stackTraces = false) (hxt : ∀ x ∈ c.exceptionTable.toList, False) (hX : zm_X p R s m args meth c RX11 "event" cX11_event 3 zk_E V mc ms) (hr : meth.sig.returnType = (some .int)) (hR : R.frames = d ∧ R.locals = 64 * d) (hd : 7 ≤ d) {N : Nat} {a0 : Nat} {i1 : Int32} {i2 : Int32} {t0 : Int32} {out : ((Int32 ⊕ String) × zm_S)} (hc : 2 ≤ rc ∧ 12 ≤ rs) {S : zm_S} (h : zf_X11_event_J31 N a0 i1 i2 t0 S = some out) : zw p l e R s m args below meth c (vx_MQ below (zm_Qc zk_E V (zq_i out)) (zm_XC zk_E V (zq_x out)) args s mc ms (fun q => V.2.2.2.1 ≤ q)) 3 zk_E V mc ms 31 [(0, .ref a0), (1, .int i1), (2, .int i2)] [.int t0] S rc rs := by
  unfold zf_X11_event_J31 at h
  obtain ⟨r, g, h⟩ := zb_some h
  refine zc_S (as := [.int t0]) hX (zt_X11_needArgument hlt (d := d - 1) (by omega) g) zl_X11_100 dX11_event_31 ⟨rfl, rfl, Nat.le_of_ble_eq_true rfl⟩ ⟨by omega, by omega⟩ ⟨by omega, by omega⟩ ?_ ?_
  · rintro _ S7 ⟨⟨u6, rfl⟩, rfl⟩
    try dsimp only at h
    refine zw_aload_n hX dX11_event_34 rfl ?_
    obtain ⟨v8, g, h⟩ := zb_some h
    refine zw_geti hX zl_X11_104 dX11_event_35 g ?_
    obtain ⟨r, g, h⟩ := zb_some h
    refine zc_S (as := [.int v8]) hX (zt_X11_needState hlt (d := d - 1) (by omega) g) zl_X11_112 dX11_event_38 ⟨rfl, rfl, Nat.le_of_ble_eq_true rfl⟩ ⟨by omega, by omega⟩ ⟨by omega, by omega⟩ ?_ ?_
    · rintro _ S10 ⟨⟨u9, rfl⟩, rfl⟩
      try dsimp only at h
      refine zw_aload_n hX dX11_event_41 rfl ?_
      obtain ⟨b11, g, h⟩ := zb_some h
      refine zw_getr hX zl_X11_85 dX11_event_42 g ?_
      refine zw_iload_n hX dX11_event_45 rfl ?_
      refine zw_iload_n hX dX11_event_46 rfl ?_
      obtain ⟨_, gi, h⟩ := zb_some h
      obtain ⟨r13, g, h⟩ := zb_some h
      refine zc_Vi (as := [.int i1, .int i2]) hX gi (zt_X4_eventFact (d := d - 1) (by omega) g) zl_X11_417 rfl dX11_event_47 ⟨rfl, rfl, Nat.le_of_ble_eq_true rfl⟩ ⟨by omega, by omega⟩ ?_
      obtain rfl := Option.some.inj h
      exact zw_iret hX hr dX11_event_50 rfl ⟨_, rfl, rfl⟩
    · rintro X S9 rfl
      obtain rfl := Option.some.inj h
      exact zx_out hX hxt rfl
  · rintro X S9 rfl
    obtain rfl := Option.some.inj h
    exact zx_out hX hxt rfl
set_option maxHeartbeats 4000000 in
set_option maxRecDepth 100000 in
theorem zt_X11_event_J30 {p : Program} {l : Launch} {e : Env} {R : Room} {s : State} {m : MethodId} {args : Array Value} {below : List Frame} {meth : Method} {c : Code} {V : zm_V} {mc ms d rc rs : Nat} (hlt : l.stackTraces = false) (hxt : ∀ x ∈ c.exceptionTable.toList, False) (hX : zm_X p R s m args meth c RX11 "event" cX11_event 3 zk_E V mc ms) (hr : meth.sig.returnType = (some .int)) (hR : R.frames = d ∧ R.locals = 64 * d) (hd : 7 ≤ d) {N : Nat} {a0 : Nat} {i1 : Int32} {i2 : Int32} {out : ((Int32 ⊕ String) × zm_S)} (hc : 2 ≤ rc ∧ 12 ≤ rs) {S : zm_S} (h : zf_X11_event_J30 N a0 i1 i2 S = some out) : zw p l e R s m args below meth c (vx_MQ below (zm_Qc zk_E V (zq_i out)) (zm_XC zk_E V (zq_x out)) args s mc ms (fun q => V.2.2.2.1 ≤ q)) 3 zk_E V mc ms 30 [(0, .ref a0), (1, .int i1), (2, .int i2)] [] S rc rs := by
  unfold zf_X11_event_J30 at h
  refine zw_iconst (v := (0 : Int32)) hX dX11_event_30 (by decide) ?_
  refine zw_sub (lv' := [(0, .ref a0), (1, .int i1), (2, .int i2)]) (List.forall_mem_cons.mpr ⟨rfl, (List.forall_mem_cons.mpr ⟨rfl, (List.forall_mem_cons.mpr ⟨rfl, zs_nil⟩)⟩)⟩) ?_
  exact zt_X11_event_J31 hlt hxt hX hr hR hd ⟨by omega, by omega⟩ h
set_option maxHeartbeats 4000000 in
set_option maxRecDepth 100000 in
theorem zt_X11_event {l : Launch} {V : zm_V} (hlt : l.stackTraces = false) {N : Nat} {S : zm_S} {out : ((Int32 ⊕ String) × zm_S)} {d : Nat} {a0 : Nat} {i1 : Int32} {i2 : Int32} (hd : 7 ≤ d) (h : zf_X11_event N a0 i1 i2 S = some out) : zm_Met l zk_E V yX11_event (.code yX11_event cX11_event 3 (some .int)) d [.ref a0, .int i1, .int i2] S 2 12 (zq_i out) (zq_x out) := by
  refine zm_of (by decide +kernel) (Nat.le_of_ble_eq_true rfl) ?_
  intro p e R s m args below meth c hRR hX hr hxt
  have hR : R.frames = d ∧ R.locals = 64 * d := by rw [hRR]; exact ⟨rfl, rfl⟩
  have hX : zm_X p R s m args meth c RX11 "event" cX11_event 3 zk_E V 2 12 := hX
  unfold zf_X11_event at h
  refine zw_sub (lv' := [(0, .ref a0), (1, .int i1), (2, .int i2)]) (List.forall_mem_cons.mpr ⟨rfl, (List.forall_mem_cons.mpr ⟨rfl, (List.forall_mem_cons.mpr ⟨rfl, zs_nil⟩)⟩)⟩) ?_
  refine zw_iload_n hX dX11_event_0 rfl ?_
  refine zw_iconst (v := (0 : Int32)) hX dX11_event_1 (by decide) ?_
  refine zw_aload_n hX dX11_event_2 rfl ?_
  obtain ⟨b1, g, h⟩ := zb_some h
  refine zw_getr hX zl_X11_85 dX11_event_3 g ?_
  obtain ⟨_, gi, h⟩ := zb_some h
  obtain ⟨r3, g, h⟩ := zb_some h
  refine zc_Vi (as := []) hX gi (zt_X4_keptEvents (d := d - 1) (by omega) g) zl_X11_414 rfl dX11_event_6 ⟨rfl, rfl, Nat.le_of_ble_eq_true rfl⟩ ⟨by omega, by omega⟩ ?_
  refine zw_iconst (v := (1 : Int32)) hX dX11_event_9 (by decide) ?_
  refine zw_isub hX dX11_event_10 ?_
  obtain ⟨r5, g, h⟩ := zb_some h
  refine zc_Si (as := [.int i1, .int (0 : Int32), .int (r3.1 - (1 : Int32))]) hX (zt_X11_isWithin (d := d - 1) (by omega) g) zl_X11_133 dX11_event_11 ⟨rfl, rfl, Nat.le_of_ble_eq_true rfl⟩ ⟨by omega, by omega⟩ ?_
  refine zw_if_eq (tgt := 30) hX dX11_event_14 (by decide) (fun c14 => ?_) (fun c14 => ?_)
  · rw [if_pos c14] at h
    refine zw_sub (lv' := [(0, .ref a0), (1, .int i1), (2, .int i2)]) (List.forall_mem_cons.mpr ⟨rfl, (List.forall_mem_cons.mpr ⟨rfl, (List.forall_mem_cons.mpr ⟨rfl, zs_nil⟩)⟩)⟩) ?_
    exact zt_X11_event_J30 hlt hxt hX hr hR hd ⟨by omega, by omega⟩ h
  · rw [if_neg c14] at h
    refine zw_iload_n hX dX11_event_17 rfl ?_
    refine zw_iconst (v := (0 : Int32)) hX dX11_event_18 (by decide) ?_
    refine zw_iconst (v := (2 : Int32)) hX dX11_event_19 (by decide) ?_
    obtain ⟨r15, g, h⟩ := zb_some h
    refine zc_Si (as := [.int i2, .int (0 : Int32), .int (2 : Int32)]) hX (zt_X11_isWithin (d := d - 1) (by omega) g) zl_X11_133 dX11_event_20 ⟨rfl, rfl, Nat.le_of_ble_eq_true rfl⟩ ⟨by omega, by omega⟩ ?_
    refine zw_if_eq (tgt := 30) hX dX11_event_23 (by decide) (fun c23 => ?_) (fun c23 => ?_)
    · rw [if_pos c23] at h
      refine zw_sub (lv' := [(0, .ref a0), (1, .int i1), (2, .int i2)]) (List.forall_mem_cons.mpr ⟨rfl, (List.forall_mem_cons.mpr ⟨rfl, (List.forall_mem_cons.mpr ⟨rfl, zs_nil⟩)⟩)⟩) ?_
      exact zt_X11_event_J30 hlt hxt hX hr hR hd ⟨by omega, by omega⟩ h
    · rw [if_neg c23] at h
      refine zw_iconst (v := (1 : Int32)) hX dX11_event_26 (by decide) ?_
      refine zw_goto (tgt := 31) hX dX11_event_27 (by decide) ?_
      refine zw_sub (lv' := [(0, .ref a0), (1, .int i1), (2, .int i2)]) (List.forall_mem_cons.mpr ⟨rfl, (List.forall_mem_cons.mpr ⟨rfl, (List.forall_mem_cons.mpr ⟨rfl, zs_nil⟩)⟩)⟩) ?_
      exact zt_X11_event_J31 hlt hxt hX hr hR hd ⟨by omega, by omega⟩ h
set_option maxHeartbeats 4000000 in
set_option maxRecDepth 100000 in
theorem zt_X11_block_J34 {p : Program} {l : Launch} {e : Env} {R : Room} {s : State} {m : MethodId} {args : Array Value} {below : List Frame} {meth : Method} {c : Code} {V : zm_V} {mc ms d rc rs : Nat} (hlt : l.stackTraces = false) (hxt : ∀ x ∈ c.exceptionTable.toList, False) (hX : zm_X p R s m args meth c RX11 "block" cX11_block 2 zk_E V mc ms) (hr : meth.sig.returnType = (some .int)) (hR : R.frames = d ∧ R.locals = 64 * d) (hd : 7 ≤ d) {N : Nat} {a0 : Nat} {i1 : Int32} {t0 : Int32} {out : ((Int32 ⊕ String) × zm_S)} (hc : 1 ≤ rc ∧ 6 ≤ rs) {S : zm_S} (h : zf_X11_block_J34 N a0 i1 t0 S = some out) : zw p l e R s m args below meth c (vx_MQ below (zm_Qc zk_E V (zq_i out)) (zm_XC zk_E V (zq_x out)) args s mc ms (fun q => V.2.2.2.1 ≤ q)) 2 zk_E V mc ms 34 [(0, .ref a0), (1, .int i1)] [.int t0] S rc rs := by
  unfold zf_X11_block_J34 at h
  obtain ⟨r, g, h⟩ := zb_some h
  refine zc_S (as := [.int t0]) hX (zt_X11_needState hlt (d := d - 1) (by omega) g) zl_X11_112 dX11_block_34 ⟨rfl, rfl, Nat.le_of_ble_eq_true rfl⟩ ⟨by omega, by omega⟩ ⟨by omega, by omega⟩ ?_ ?_
  · rintro _ S7 ⟨⟨u6, rfl⟩, rfl⟩
    try dsimp only at h
    refine zw_aload_n hX dX11_block_37 rfl ?_
    obtain ⟨b8, g, h⟩ := zb_some h
    refine zw_getr hX zl_X11_67 dX11_block_38 g ?_
    refine zw_iload_n hX dX11_block_41 rfl ?_
    obtain ⟨_, gi, h⟩ := zb_some h
    obtain ⟨r10, g, h⟩ := zb_some h
    refine zc_Vi (as := [.int i1]) hX gi (zt_X9_addBlock (d := d - 1) (by omega) g) zl_X11_423 rfl dX11_block_42 ⟨rfl, rfl, Nat.le_of_ble_eq_true rfl⟩ ⟨by omega, by omega⟩ ?_
    obtain rfl := Option.some.inj h
    exact zw_iret hX hr dX11_block_45 rfl ⟨_, rfl, rfl⟩
  · rintro X S9 rfl
    obtain rfl := Option.some.inj h
    exact zx_out hX hxt rfl
set_option maxHeartbeats 4000000 in
set_option maxRecDepth 100000 in
theorem zt_X11_block_J33 {p : Program} {l : Launch} {e : Env} {R : Room} {s : State} {m : MethodId} {args : Array Value} {below : List Frame} {meth : Method} {c : Code} {V : zm_V} {mc ms d rc rs : Nat} (hlt : l.stackTraces = false) (hxt : ∀ x ∈ c.exceptionTable.toList, False) (hX : zm_X p R s m args meth c RX11 "block" cX11_block 2 zk_E V mc ms) (hr : meth.sig.returnType = (some .int)) (hR : R.frames = d ∧ R.locals = 64 * d) (hd : 7 ≤ d) {N : Nat} {a0 : Nat} {i1 : Int32} {out : ((Int32 ⊕ String) × zm_S)} (hc : 1 ≤ rc ∧ 6 ≤ rs) {S : zm_S} (h : zf_X11_block_J33 N a0 i1 S = some out) : zw p l e R s m args below meth c (vx_MQ below (zm_Qc zk_E V (zq_i out)) (zm_XC zk_E V (zq_x out)) args s mc ms (fun q => V.2.2.2.1 ≤ q)) 2 zk_E V mc ms 33 [(0, .ref a0), (1, .int i1)] [] S rc rs := by
  unfold zf_X11_block_J33 at h
  refine zw_iconst (v := (0 : Int32)) hX dX11_block_33 (by decide) ?_
  refine zw_sub (lv' := [(0, .ref a0), (1, .int i1)]) (List.forall_mem_cons.mpr ⟨rfl, (List.forall_mem_cons.mpr ⟨rfl, zs_nil⟩)⟩) ?_
  exact zt_X11_block_J34 hlt hxt hX hr hR hd ⟨by omega, by omega⟩ h
set_option maxHeartbeats 4000000 in
set_option maxRecDepth 100000 in
theorem zt_X11_block {l : Launch} {V : zm_V} (hlt : l.stackTraces = false) {N : Nat} {S : zm_S} {out : ((Int32 ⊕ String) × zm_S)} {d : Nat} {a0 : Nat} {i1 : Int32} (hd : 7 ≤ d) (h : zf_X11_block N a0 i1 S = some out) : zm_Met l zk_E V yX11_block (.code yX11_block cX11_block 2 (some .int)) d [.ref a0, .int i1] S 2 12 (zq_i out) (zq_x out) := by
  refine zm_of (by decide +kernel) (Nat.le_of_ble_eq_true rfl) ?_
  intro p e R s m args below meth c hRR hX hr hxt
  have hR : R.frames = d ∧ R.locals = 64 * d := by rw [hRR]; exact ⟨rfl, rfl⟩
  have hX : zm_X p R s m args meth c RX11 "block" cX11_block 2 zk_E V 2 12 := hX
  unfold zf_X11_block at h
  refine zw_sub (lv' := [(0, .ref a0), (1, .int i1)]) (List.forall_mem_cons.mpr ⟨rfl, (List.forall_mem_cons.mpr ⟨rfl, zs_nil⟩)⟩) ?_
  refine zw_iload_n hX dX11_block_0 rfl ?_
  refine zw_iconst (v := (0 : Int32)) hX dX11_block_1 (by decide) ?_
  refine zw_bipush (v := (25 : Int32)) hX dX11_block_2 (by decide) ?_
  obtain ⟨r2, g, h⟩ := zb_some h
  refine zc_Si (as := [.int i1, .int (0 : Int32), .int (25 : Int32)]) hX (zt_X11_isWithin (d := d - 1) (by omega) g) zl_X11_133 dX11_block_4 ⟨rfl, rfl, Nat.le_of_ble_eq_true rfl⟩ ⟨by omega, by omega⟩ ?_
  obtain ⟨r, g, h⟩ := zb_some h
  refine zc_S (as := [.int r2.1]) hX (zt_X11_needArgument hlt (d := d - 1) (by omega) g) zl_X11_100 dX11_block_7 ⟨rfl, rfl, Nat.le_of_ble_eq_true rfl⟩ ⟨by omega, by omega⟩ ⟨by omega, by omega⟩ ?_ ?_
  · rintro _ S4 ⟨⟨u3, rfl⟩, rfl⟩
    try dsimp only at h
    refine zw_aload_n hX dX11_block_10 rfl ?_
    obtain ⟨v5, g, h⟩ := zb_some h
    refine zw_geti hX zl_X11_104 dX11_block_11 g ?_
    refine zw_if_eq (tgt := 33) hX dX11_block_14 (by decide) (fun c14 => ?_) (fun c14 => ?_)
    · rw [if_pos c14] at h
      refine zw_sub (lv' := [(0, .ref a0), (1, .int i1)]) (List.forall_mem_cons.mpr ⟨rfl, (List.forall_mem_cons.mpr ⟨rfl, zs_nil⟩)⟩) ?_
      exact zt_X11_block_J33 hlt hxt hX hr hR hd ⟨by omega, by omega⟩ h
    · rw [if_neg c14] at h
      refine zw_aload_n hX dX11_block_17 rfl ?_
      obtain ⟨b11, g, h⟩ := zb_some h
      refine zw_getr hX zl_X11_67 dX11_block_18 g ?_
      obtain ⟨v12, g, h⟩ := zb_some h
      refine zw_getNi hX zl_X11_420 dX11_block_21 g ?_
      refine zw_bipush (v := (40 : Int32)) hX dX11_block_24 (by decide) ?_
      refine zw_icmp_ge (tgt := 33) hX dX11_block_26 (by decide) (fun c26 => ?_) (fun c26 => ?_)
      · rw [if_pos c26] at h
        refine zw_sub (lv' := [(0, .ref a0), (1, .int i1)]) (List.forall_mem_cons.mpr ⟨rfl, (List.forall_mem_cons.mpr ⟨rfl, zs_nil⟩)⟩) ?_
        exact zt_X11_block_J33 hlt hxt hX hr hR hd ⟨by omega, by omega⟩ h
      · rw [if_neg c26] at h
        refine zw_iconst (v := (1 : Int32)) hX dX11_block_29 (by decide) ?_
        refine zw_goto (tgt := 34) hX dX11_block_30 (by decide) ?_
        refine zw_sub (lv' := [(0, .ref a0), (1, .int i1)]) (List.forall_mem_cons.mpr ⟨rfl, (List.forall_mem_cons.mpr ⟨rfl, zs_nil⟩)⟩) ?_
        exact zt_X11_block_J34 hlt hxt hX hr hR hd ⟨by omega, by omega⟩ h
  · rintro X S9 rfl
    obtain rfl := Option.some.inj h
    exact zx_out hX hxt rfl
set_option maxHeartbeats 4000000 in
set_option maxRecDepth 100000 in
theorem zt_X11_isBlock {l : Launch} {V : zm_V} {N : Nat} {S : zm_S} {out : (Int32 × zm_S)} {d : Nat} {a0 : Nat} {i1 : Int32} (hd : 2 ≤ d) (h : zf_X11_isBlock N a0 i1 S = some out) : zm_Met l zk_E V yX11_isBlock (.code yX11_isBlock cX11_isBlock 2 (some .boolean)) d [.ref a0, .int i1] S 0 0 (zo_i out) zo_x := by
  refine zm_of (by decide +kernel) (Nat.le_of_ble_eq_true rfl) ?_
  intro p e R s m args below meth c hRR hX hr hxt
  have hR : R.frames = d ∧ R.locals = 64 * d := by rw [hRR]; exact ⟨rfl, rfl⟩
  have hX : zm_X p R s m args meth c RX11 "isBlock" cX11_isBlock 2 zk_E V 0 0 := hX
  unfold zf_X11_isBlock at h
  refine zw_sub (lv' := [(0, .ref a0), (1, .int i1)]) (List.forall_mem_cons.mpr ⟨rfl, (List.forall_mem_cons.mpr ⟨rfl, zs_nil⟩)⟩) ?_
  refine zw_iload_n hX dX11_isBlock_0 rfl ?_
  refine zw_iconst (v := (0 : Int32)) hX dX11_isBlock_1 (by decide) ?_
  refine zw_aload_n hX dX11_isBlock_2 rfl ?_
  obtain ⟨b1, g, h⟩ := zb_some h
  refine zw_getr hX zl_X11_67 dX11_isBlock_3 g ?_
  obtain ⟨v2, g, h⟩ := zb_some h
  refine zw_getNi hX zl_X11_420 dX11_isBlock_6 g ?_
  refine zw_iconst (v := (1 : Int32)) hX dX11_isBlock_9 (by decide) ?_
  refine zw_isub hX dX11_isBlock_10 ?_
  obtain ⟨r4, g, h⟩ := zb_some h
  refine zc_Si (as := [.int i1, .int (0 : Int32), .int (v2 - (1 : Int32))]) hX (zt_X11_isWithin (d := d - 1) (by omega) g) zl_X11_133 dX11_isBlock_11 ⟨rfl, rfl, Nat.le_of_ble_eq_true rfl⟩ ⟨by omega, by omega⟩ ?_
  by_cases cz : r4.1 = 0 ∨ r4.1 = 1
  · rw [if_pos cz] at h
    obtain rfl := Option.some.inj h
    exact zw_iret hX hr dX11_isBlock_14 (zn_z cz) ⟨rfl, rfl⟩
  · rw [if_neg cz] at h
    cases h
set_option maxHeartbeats 4000000 in
set_option maxRecDepth 100000 in
theorem zt_X11_wire_J35 {p : Program} {l : Launch} {e : Env} {R : Room} {s : State} {m : MethodId} {args : Array Value} {below : List Frame} {meth : Method} {c : Code} {V : zm_V} {mc ms d rc rs : Nat} (hlt : l.stackTraces = false) (hxt : ∀ x ∈ c.exceptionTable.toList, False) (hX : zm_X p R s m args meth c RX11 "wire" cX11_wire 4 zk_E V mc ms) (hr : meth.sig.returnType = (some .int)) (hR : R.frames = d ∧ R.locals = 64 * d) (hd : 7 ≤ d) {N : Nat} {a0 : Nat} {i1 : Int32} {i2 : Int32} {i3 : Int32} {t0 : Int32} {out : ((Int32 ⊕ String) × zm_S)} (hc : 2 ≤ rc ∧ 12 ≤ rs) {S : zm_S} (h : zf_X11_wire_J35 N a0 i1 i2 i3 t0 S = some out) : zw p l e R s m args below meth c (vx_MQ below (zm_Qc zk_E V (zq_i out)) (zm_XC zk_E V (zq_x out)) args s mc ms (fun q => V.2.2.2.1 ≤ q)) 4 zk_E V mc ms 35 [(0, .ref a0), (1, .int i1), (2, .int i2), (3, .int i3)] [.int t0] S rc rs := by
  unfold zf_X11_wire_J35 at h
  obtain ⟨r, g, h⟩ := zb_some h
  refine zc_S (as := [.int t0]) hX (zt_X11_needArgument hlt (d := d - 1) (by omega) g) zl_X11_100 dX11_wire_35 ⟨rfl, rfl, Nat.le_of_ble_eq_true rfl⟩ ⟨by omega, by omega⟩ ⟨by omega, by omega⟩ ?_ ?_
  · rintro _ S4 ⟨⟨u3, rfl⟩, rfl⟩
    try dsimp only at h
    refine zw_aload_n hX dX11_wire_38 rfl ?_
    obtain ⟨v5, g, h⟩ := zb_some h
    refine zw_geti hX zl_X11_104 dX11_wire_39 g ?_
    obtain ⟨r, g, h⟩ := zb_some h
    refine zc_S (as := [.int v5]) hX (zt_X11_needState hlt (d := d - 1) (by omega) g) zl_X11_112 dX11_wire_42 ⟨rfl, rfl, Nat.le_of_ble_eq_true rfl⟩ ⟨by omega, by omega⟩ ⟨by omega, by omega⟩ ?_ ?_
    · rintro _ S7 ⟨⟨u6, rfl⟩, rfl⟩
      try dsimp only at h
      refine zw_aload_n hX dX11_wire_45 rfl ?_
      obtain ⟨b8, g, h⟩ := zb_some h
      refine zw_getr hX zl_X11_67 dX11_wire_46 g ?_
      refine zw_iload_n hX dX11_wire_49 rfl ?_
      refine zw_iload_n hX dX11_wire_50 rfl ?_
      refine zw_iload_n hX dX11_wire_51 rfl ?_
      obtain ⟨_, gi, h⟩ := zb_some h
      obtain ⟨r10, g, h⟩ := zb_some h
      refine zc_Vi (as := [.int i1, .int i2, .int i3]) hX gi (zt_X9_setInput (d := d - 1) (by omega) g) zl_X11_429 rfl dX11_wire_52 ⟨rfl, rfl, Nat.le_of_ble_eq_true rfl⟩ ⟨by omega, by omega⟩ ?_
      obtain rfl := Option.some.inj h
      exact zw_iret hX hr dX11_wire_55 rfl ⟨_, rfl, rfl⟩
    · rintro X S9 rfl
      obtain rfl := Option.some.inj h
      exact zx_out hX hxt rfl
  · rintro X S9 rfl
    obtain rfl := Option.some.inj h
    exact zx_out hX hxt rfl
set_option maxHeartbeats 4000000 in
set_option maxRecDepth 100000 in
theorem zt_X11_wire_J34 {p : Program} {l : Launch} {e : Env} {R : Room} {s : State} {m : MethodId} {args : Array Value} {below : List Frame} {meth : Method} {c : Code} {V : zm_V} {mc ms d rc rs : Nat} (hlt : l.stackTraces = false) (hxt : ∀ x ∈ c.exceptionTable.toList, False) (hX : zm_X p R s m args meth c RX11 "wire" cX11_wire 4 zk_E V mc ms) (hr : meth.sig.returnType = (some .int)) (hR : R.frames = d ∧ R.locals = 64 * d) (hd : 7 ≤ d) {N : Nat} {a0 : Nat} {i1 : Int32} {i2 : Int32} {i3 : Int32} {out : ((Int32 ⊕ String) × zm_S)} (hc : 2 ≤ rc ∧ 12 ≤ rs) {S : zm_S} (h : zf_X11_wire_J34 N a0 i1 i2 i3 S = some out) : zw p l e R s m args below meth c (vx_MQ below (zm_Qc zk_E V (zq_i out)) (zm_XC zk_E V (zq_x out)) args s mc ms (fun q => V.2.2.2.1 ≤ q)) 4 zk_E V mc ms 34 [(0, .ref a0), (1, .int i1), (2, .int i2), (3, .int i3)] [] S rc rs := by
  unfold zf_X11_wire_J34 at h
  refine zw_iconst (v := (0 : Int32)) hX dX11_wire_34 (by decide) ?_
  refine zw_sub (lv' := [(0, .ref a0), (1, .int i1), (2, .int i2), (3, .int i3)]) (List.forall_mem_cons.mpr ⟨rfl, (List.forall_mem_cons.mpr ⟨rfl, (List.forall_mem_cons.mpr ⟨rfl, (List.forall_mem_cons.mpr ⟨rfl, zs_nil⟩)⟩)⟩)⟩) ?_
  exact zt_X11_wire_J35 hlt hxt hX hr hR hd ⟨by omega, by omega⟩ h
set_option maxHeartbeats 4000000 in
set_option maxRecDepth 100000 in
theorem zt_X11_wire_J30 {p : Program} {l : Launch} {e : Env} {R : Room} {s : State} {m : MethodId} {args : Array Value} {below : List Frame} {meth : Method} {c : Code} {V : zm_V} {mc ms d rc rs : Nat} (hlt : l.stackTraces = false) (hxt : ∀ x ∈ c.exceptionTable.toList, False) (hX : zm_X p R s m args meth c RX11 "wire" cX11_wire 4 zk_E V mc ms) (hr : meth.sig.returnType = (some .int)) (hR : R.frames = d ∧ R.locals = 64 * d) (hd : 7 ≤ d) {N : Nat} {a0 : Nat} {i1 : Int32} {i2 : Int32} {i3 : Int32} {out : ((Int32 ⊕ String) × zm_S)} (hc : 2 ≤ rc ∧ 12 ≤ rs) {S : zm_S} (h : zf_X11_wire_J30 N a0 i1 i2 i3 S = some out) : zw p l e R s m args below meth c (vx_MQ below (zm_Qc zk_E V (zq_i out)) (zm_XC zk_E V (zq_x out)) args s mc ms (fun q => V.2.2.2.1 ≤ q)) 4 zk_E V mc ms 30 [(0, .ref a0), (1, .int i1), (2, .int i2), (3, .int i3)] [] S rc rs := by
  unfold zf_X11_wire_J30 at h
  refine zw_iconst (v := (1 : Int32)) hX dX11_wire_30 (by decide) ?_
  refine zw_goto (tgt := 35) hX dX11_wire_31 (by decide) ?_
  refine zw_sub (lv' := [(0, .ref a0), (1, .int i1), (2, .int i2), (3, .int i3)]) (List.forall_mem_cons.mpr ⟨rfl, (List.forall_mem_cons.mpr ⟨rfl, (List.forall_mem_cons.mpr ⟨rfl, (List.forall_mem_cons.mpr ⟨rfl, zs_nil⟩)⟩)⟩)⟩) ?_
  exact zt_X11_wire_J35 hlt hxt hX hr hR hd ⟨by omega, by omega⟩ h
set_option maxHeartbeats 4000000 in
set_option maxRecDepth 100000 in
theorem zt_X11_wire {l : Launch} {V : zm_V} (hlt : l.stackTraces = false) {N : Nat} {S : zm_S} {out : ((Int32 ⊕ String) × zm_S)} {d : Nat} {a0 : Nat} {i1 : Int32} {i2 : Int32} {i3 : Int32} (hd : 7 ≤ d) (h : zf_X11_wire N a0 i1 i2 i3 S = some out) : zm_Met l zk_E V yX11_wire (.code yX11_wire cX11_wire 4 (some .int)) d [.ref a0, .int i1, .int i2, .int i3] S 2 12 (zq_i out) (zq_x out) := by
  refine zm_of (by decide +kernel) (Nat.le_of_ble_eq_true rfl) ?_
  intro p e R s m args below meth c hRR hX hr hxt
  have hR : R.frames = d ∧ R.locals = 64 * d := by rw [hRR]; exact ⟨rfl, rfl⟩
  have hX : zm_X p R s m args meth c RX11 "wire" cX11_wire 4 zk_E V 2 12 := hX
  unfold zf_X11_wire at h
  refine zw_sub (lv' := [(0, .ref a0), (1, .int i1), (2, .int i2), (3, .int i3)]) (List.forall_mem_cons.mpr ⟨rfl, (List.forall_mem_cons.mpr ⟨rfl, (List.forall_mem_cons.mpr ⟨rfl, (List.forall_mem_cons.mpr ⟨rfl, zs_nil⟩)⟩)⟩)⟩) ?_
  refine zw_aload_n hX dX11_wire_0 rfl ?_
  refine zw_iload_n hX dX11_wire_1 rfl ?_
  obtain ⟨_, gi, h⟩ := zb_some h
  obtain ⟨r2, g, h⟩ := zb_some h
  refine zc_Vi (as := [.int i1]) hX gi (zt_X11_isBlock (d := d - 1) (by omega) g) zl_X11_426 rfl dX11_wire_2 ⟨rfl, rfl, Nat.le_of_ble_eq_true rfl⟩ ⟨by omega, by omega⟩ ?_
  refine zw_if_eq (tgt := 34) hX dX11_wire_5 (by decide) (fun c5 => ?_) (fun c5 => ?_)
  · rw [if_pos c5] at h
    refine zw_sub (lv' := [(0, .ref a0), (1, .int i1), (2, .int i2), (3, .int i3)]) (List.forall_mem_cons.mpr ⟨rfl, (List.forall_mem_cons.mpr ⟨rfl, (List.forall_mem_cons.mpr ⟨rfl, (List.forall_mem_cons.mpr ⟨rfl, zs_nil⟩)⟩)⟩)⟩) ?_
    exact zt_X11_wire_J34 hlt hxt hX hr hR hd ⟨by omega, by omega⟩ h
  · rw [if_neg c5] at h
    refine zw_iload_n hX dX11_wire_8 rfl ?_
    refine zw_iconst (v := (0 : Int32)) hX dX11_wire_9 (by decide) ?_
    refine zw_iconst (v := (2 : Int32)) hX dX11_wire_10 (by decide) ?_
    obtain ⟨r12, g, h⟩ := zb_some h
    refine zc_Si (as := [.int i2, .int (0 : Int32), .int (2 : Int32)]) hX (zt_X11_isWithin (d := d - 1) (by omega) g) zl_X11_133 dX11_wire_11 ⟨rfl, rfl, Nat.le_of_ble_eq_true rfl⟩ ⟨by omega, by omega⟩ ?_
    refine zw_if_eq (tgt := 34) hX dX11_wire_14 (by decide) (fun c14 => ?_) (fun c14 => ?_)
    · rw [if_pos c14] at h
      refine zw_sub (lv' := [(0, .ref a0), (1, .int i1), (2, .int i2), (3, .int i3)]) (List.forall_mem_cons.mpr ⟨rfl, (List.forall_mem_cons.mpr ⟨rfl, (List.forall_mem_cons.mpr ⟨rfl, (List.forall_mem_cons.mpr ⟨rfl, zs_nil⟩)⟩)⟩)⟩) ?_
      exact zt_X11_wire_J34 hlt hxt hX hr hR hd ⟨by omega, by omega⟩ h
    · rw [if_neg c14] at h
      refine zw_iload_n hX dX11_wire_17 rfl ?_
      refine zw_iconst (v := (-1 : Int32)) hX dX11_wire_18 (by decide) ?_
      refine zw_icmp_eq (tgt := 30) hX dX11_wire_19 (by decide) (fun c19 => ?_) (fun c19 => ?_)
      · rw [if_pos c19] at h
        refine zw_sub (lv' := [(0, .ref a0), (1, .int i1), (2, .int i2), (3, .int i3)]) (List.forall_mem_cons.mpr ⟨rfl, (List.forall_mem_cons.mpr ⟨rfl, (List.forall_mem_cons.mpr ⟨rfl, (List.forall_mem_cons.mpr ⟨rfl, zs_nil⟩)⟩)⟩)⟩) ?_
        exact zt_X11_wire_J30 hlt hxt hX hr hR hd ⟨by omega, by omega⟩ h
      · rw [if_neg c19] at h
        refine zw_aload_n hX dX11_wire_22 rfl ?_
        refine zw_iload_n hX dX11_wire_23 rfl ?_
        obtain ⟨_, gi, h⟩ := zb_some h
        obtain ⟨r14, g, h⟩ := zb_some h
        refine zc_Vi (as := [.int i3]) hX gi (zt_X11_isBlock (d := d - 1) (by omega) g) zl_X11_426 rfl dX11_wire_24 ⟨rfl, rfl, Nat.le_of_ble_eq_true rfl⟩ ⟨by omega, by omega⟩ ?_
        refine zw_if_eq (tgt := 34) hX dX11_wire_27 (by decide) (fun c27 => ?_) (fun c27 => ?_)
        · rw [if_pos c27] at h
          refine zw_sub (lv' := [(0, .ref a0), (1, .int i1), (2, .int i2), (3, .int i3)]) (List.forall_mem_cons.mpr ⟨rfl, (List.forall_mem_cons.mpr ⟨rfl, (List.forall_mem_cons.mpr ⟨rfl, (List.forall_mem_cons.mpr ⟨rfl, zs_nil⟩)⟩)⟩)⟩) ?_
          exact zt_X11_wire_J34 hlt hxt hX hr hR hd ⟨by omega, by omega⟩ h
        · rw [if_neg c27] at h
          refine zw_sub (lv' := [(0, .ref a0), (1, .int i1), (2, .int i2), (3, .int i3)]) (List.forall_mem_cons.mpr ⟨rfl, (List.forall_mem_cons.mpr ⟨rfl, (List.forall_mem_cons.mpr ⟨rfl, (List.forall_mem_cons.mpr ⟨rfl, zs_nil⟩)⟩)⟩)⟩) ?_
          exact zt_X11_wire_J30 hlt hxt hX hr hR hd ⟨by omega, by omega⟩ h
set_option maxHeartbeats 4000000 in
set_option maxRecDepth 100000 in
theorem zt_X11_numbers {l : Launch} {V : zm_V} (hlt : l.stackTraces = false) {N : Nat} {S : zm_S} {out : ((Unit ⊕ String) × zm_S)} {d : Nat} {a0 : Nat} {i1 : Int32} {i2 : Int32} {i3 : Int32} (hd : 7 ≤ d) (h : zf_X11_numbers N a0 i1 i2 i3 S = some out) : zm_Met l zk_E V yX11_numbers (.code yX11_numbers cX11_numbers 4 none) d [.ref a0, .int i1, .int i2, .int i3] S 2 12 (zq_v out) (zq_x out) := by
  refine zm_of (by decide +kernel) (Nat.le_of_ble_eq_true rfl) ?_
  intro p e R s m args below meth c hRR hX hr hxt
  have hR : R.frames = d ∧ R.locals = 64 * d := by rw [hRR]; exact ⟨rfl, rfl⟩
  have hX : zm_X p R s m args meth c RX11 "numbers" cX11_numbers 4 zk_E V 2 12 := hX
  unfold zf_X11_numbers at h
  refine zw_sub (lv' := [(0, .ref a0), (1, .int i1), (2, .int i2), (3, .int i3)]) (List.forall_mem_cons.mpr ⟨rfl, (List.forall_mem_cons.mpr ⟨rfl, (List.forall_mem_cons.mpr ⟨rfl, (List.forall_mem_cons.mpr ⟨rfl, zs_nil⟩)⟩)⟩)⟩) ?_
  refine zw_aload_n hX dX11_numbers_0 rfl ?_
  refine zw_iload_n hX dX11_numbers_1 rfl ?_
  obtain ⟨_, gi, h⟩ := zb_some h
  obtain ⟨r2, g, h⟩ := zb_some h
  refine zc_Vi (as := [.int i1]) hX gi (zt_X11_isBlock (d := d - 1) (by omega) g) zl_X11_426 rfl dX11_numbers_2 ⟨rfl, rfl, Nat.le_of_ble_eq_true rfl⟩ ⟨by omega, by omega⟩ ?_
  obtain ⟨r, g, h⟩ := zb_some h
  refine zc_S (as := [.int r2.1]) hX (zt_X11_needArgument hlt (d := d - 1) (by omega) g) zl_X11_100 dX11_numbers_5 ⟨rfl, rfl, Nat.le_of_ble_eq_true rfl⟩ ⟨by omega, by omega⟩ ⟨by omega, by omega⟩ ?_ ?_
  · rintro _ S4 ⟨⟨u3, rfl⟩, rfl⟩
    try dsimp only at h
    refine zw_aload_n hX dX11_numbers_8 rfl ?_
    obtain ⟨v5, g, h⟩ := zb_some h
    refine zw_geti hX zl_X11_104 dX11_numbers_9 g ?_
    obtain ⟨r, g, h⟩ := zb_some h
    refine zc_S (as := [.int v5]) hX (zt_X11_needState hlt (d := d - 1) (by omega) g) zl_X11_112 dX11_numbers_12 ⟨rfl, rfl, Nat.le_of_ble_eq_true rfl⟩ ⟨by omega, by omega⟩ ⟨by omega, by omega⟩ ?_ ?_
    · rintro _ S7 ⟨⟨u6, rfl⟩, rfl⟩
      try dsimp only at h
      refine zw_aload_n hX dX11_numbers_15 rfl ?_
      obtain ⟨b8, g, h⟩ := zb_some h
      refine zw_getr hX zl_X11_67 dX11_numbers_16 g ?_
      obtain ⟨b9, g, h⟩ := zb_some h
      refine zw_getNr hX zl_X11_432 dX11_numbers_19 g ?_
      refine zw_iload_n hX dX11_numbers_22 rfl ?_
      refine zw_iload_n hX dX11_numbers_23 rfl ?_
      obtain ⟨S10, g, h⟩ := zb_some h
      refine zw_si hX dX11_numbers_24 g ?_
      refine zw_aload_n hX dX11_numbers_25 rfl ?_
      obtain ⟨b11, g, h⟩ := zb_some h
      refine zw_getr hX zl_X11_67 dX11_numbers_26 g ?_
      obtain ⟨b12, g, h⟩ := zb_some h
      refine zw_getNr hX zl_X11_435 dX11_numbers_29 g ?_
      refine zw_iload_n hX dX11_numbers_32 rfl ?_
      refine zw_iload_n hX dX11_numbers_33 rfl ?_
      obtain ⟨S13, g, h⟩ := zb_some h
      refine zw_si hX dX11_numbers_34 g ?_
      obtain rfl := Option.some.inj h
      exact zw_vret hX hr dX11_numbers_35 ⟨⟨_, rfl⟩, rfl⟩
    · rintro X S9 rfl
      obtain rfl := Option.some.inj h
      exact zx_out hX hxt rfl
  · rintro X S9 rfl
    obtain rfl := Option.some.inj h
    exact zx_out hX hxt rfl
set_option maxHeartbeats 4000000 in
set_option maxRecDepth 100000 in
theorem zt_X11_row_J52 {p : Program} {l : Launch} {e : Env} {R : Room} {s : State} {m : MethodId} {args : Array Value} {below : List Frame} {meth : Method} {c : Code} {V : zm_V} {mc ms d rc rs : Nat} (hlt : l.stackTraces = false) (hxt : ∀ x ∈ c.exceptionTable.toList, False) (hX : zm_X p R s m args meth c RX11 "row" cX11_row 5 zk_E V mc ms) (hr : meth.sig.returnType = (some .int)) (hR : R.frames = d ∧ R.locals = 64 * d) (hd : 7 ≤ d) {N : Nat} {a0 : Nat} {i1 : Int32} {i2 : Int32} {i3 : Int32} {t0 : Int32} {out : ((Int32 ⊕ String) × zm_S)} (hc : 1 ≤ rc ∧ 6 ≤ rs) {S : zm_S} (h : zf_X11_row_J52 N a0 i1 i2 i3 t0 S = some out) : zw p l e R s m args below meth c (vx_MQ below (zm_Qc zk_E V (zq_i out)) (zm_XC zk_E V (zq_x out)) args s mc ms (fun q => V.2.2.2.1 ≤ q)) 5 zk_E V mc ms 52 [(0, .ref a0), (1, .int i1), (2, .int i2), (3, .int i3)] [.int t0] S rc rs := by
  unfold zf_X11_row_J52 at h
  obtain ⟨r, g, h⟩ := zb_some h
  refine zc_S (as := [.int t0]) hX (zt_X11_needState hlt (d := d - 1) (by omega) g) zl_X11_112 dX11_row_52 ⟨rfl, rfl, Nat.le_of_ble_eq_true rfl⟩ ⟨by omega, by omega⟩ ⟨by omega, by omega⟩ ?_ ?_
  · rintro _ S7 ⟨⟨u6, rfl⟩, rfl⟩
    try dsimp only at h
    refine zw_aload_n hX dX11_row_55 rfl ?_
    obtain ⟨b8, g, h⟩ := zb_some h
    refine zw_getr hX zl_X11_67 dX11_row_56 g ?_
    obtain ⟨b9, g, h⟩ := zb_some h
    refine zw_getNr hX zl_X11_441 dX11_row_59 g ?_
    refine zw_iload_n hX dX11_row_62 rfl ?_
    obtain ⟨b10, g, h⟩ := zb_some h
    refine zw_xr hX dX11_row_63 g ?_
    refine zw_iload_n hX dX11_row_64 rfl ?_
    obtain ⟨v11, g, h⟩ := zb_some h
    refine zw_xi hX dX11_row_65 g ?_
    refine zw_istore hX dX11_row_66 (by decide) ?_
    refine zw_aload_n hX dX11_row_68 rfl ?_
    obtain ⟨b12, g, h⟩ := zb_some h
    refine zw_getr hX zl_X11_67 dX11_row_69 g ?_
    obtain ⟨b13, g, h⟩ := zb_some h
    refine zw_getNr hX zl_X11_441 dX11_row_72 g ?_
    refine zw_iload_n hX dX11_row_75 rfl ?_
    obtain ⟨b14, g, h⟩ := zb_some h
    refine zw_xr hX dX11_row_76 g ?_
    refine zw_iload_n hX dX11_row_77 rfl ?_
    refine zw_iload_n hX dX11_row_78 rfl ?_
    obtain ⟨S15, g, h⟩ := zb_some h
    refine zw_si hX dX11_row_79 g ?_
    refine zw_iload hX dX11_row_80 rfl ?_
    obtain rfl := Option.some.inj h
    exact zw_iret hX hr dX11_row_82 rfl ⟨_, rfl, rfl⟩
  · rintro X S9 rfl
    obtain rfl := Option.some.inj h
    exact zx_out hX hxt rfl
set_option maxHeartbeats 4000000 in
set_option maxRecDepth 100000 in
theorem zt_X11_row_J51 {p : Program} {l : Launch} {e : Env} {R : Room} {s : State} {m : MethodId} {args : Array Value} {below : List Frame} {meth : Method} {c : Code} {V : zm_V} {mc ms d rc rs : Nat} (hlt : l.stackTraces = false) (hxt : ∀ x ∈ c.exceptionTable.toList, False) (hX : zm_X p R s m args meth c RX11 "row" cX11_row 5 zk_E V mc ms) (hr : meth.sig.returnType = (some .int)) (hR : R.frames = d ∧ R.locals = 64 * d) (hd : 7 ≤ d) {N : Nat} {a0 : Nat} {i1 : Int32} {i2 : Int32} {i3 : Int32} {out : ((Int32 ⊕ String) × zm_S)} (hc : 1 ≤ rc ∧ 6 ≤ rs) {S : zm_S} (h : zf_X11_row_J51 N a0 i1 i2 i3 S = some out) : zw p l e R s m args below meth c (vx_MQ below (zm_Qc zk_E V (zq_i out)) (zm_XC zk_E V (zq_x out)) args s mc ms (fun q => V.2.2.2.1 ≤ q)) 5 zk_E V mc ms 51 [(0, .ref a0), (1, .int i1), (2, .int i2), (3, .int i3)] [] S rc rs := by
  unfold zf_X11_row_J51 at h
  refine zw_iconst (v := (0 : Int32)) hX dX11_row_51 (by decide) ?_
  refine zw_sub (lv' := [(0, .ref a0), (1, .int i1), (2, .int i2), (3, .int i3)]) (List.forall_mem_cons.mpr ⟨rfl, (List.forall_mem_cons.mpr ⟨rfl, (List.forall_mem_cons.mpr ⟨rfl, (List.forall_mem_cons.mpr ⟨rfl, zs_nil⟩)⟩)⟩)⟩) ?_
  exact zt_X11_row_J52 hlt hxt hX hr hR hd ⟨by omega, by omega⟩ h
set_option maxHeartbeats 4000000 in
set_option maxRecDepth 100000 in
theorem zt_X11_row_J23 {p : Program} {l : Launch} {e : Env} {R : Room} {s : State} {m : MethodId} {args : Array Value} {below : List Frame} {meth : Method} {c : Code} {V : zm_V} {mc ms d rc rs : Nat} (hlt : l.stackTraces = false) (hxt : ∀ x ∈ c.exceptionTable.toList, False) (hX : zm_X p R s m args meth c RX11 "row" cX11_row 5 zk_E V mc ms) (hr : meth.sig.returnType = (some .int)) (hR : R.frames = d ∧ R.locals = 64 * d) (hd : 7 ≤ d) {N : Nat} {a0 : Nat} {i1 : Int32} {i2 : Int32} {i3 : Int32} {t0 : Int32} {out : ((Int32 ⊕ String) × zm_S)} (hc : 2 ≤ rc ∧ 12 ≤ rs) {S : zm_S} (h : zf_X11_row_J23 N a0 i1 i2 i3 t0 S = some out) : zw p l e R s m args below meth c (vx_MQ below (zm_Qc zk_E V (zq_i out)) (zm_XC zk_E V (zq_x out)) args s mc ms (fun q => V.2.2.2.1 ≤ q)) 5 zk_E V mc ms 23 [(0, .ref a0), (1, .int i1), (2, .int i2), (3, .int i3)] [.int t0] S rc rs := by
  unfold zf_X11_row_J23 at h
  obtain ⟨r, g, h⟩ := zb_some h
  refine zc_S (as := [.int t0]) hX (zt_X11_needArgument hlt (d := d - 1) (by omega) g) zl_X11_100 dX11_row_23 ⟨rfl, rfl, Nat.le_of_ble_eq_true rfl⟩ ⟨by omega, by omega⟩ ⟨by omega, by omega⟩ ?_ ?_
  · rintro _ S4 ⟨⟨u3, rfl⟩, rfl⟩
    try dsimp only at h
    refine zw_aload_n hX dX11_row_26 rfl ?_
    obtain ⟨v5, g, h⟩ := zb_some h
    refine zw_geti hX zl_X11_104 dX11_row_27 g ?_
    refine zw_if_eq (tgt := 51) hX dX11_row_30 (by decide) (fun c30 => ?_) (fun c30 => ?_)
    · rw [if_pos c30] at h
      refine zw_sub (lv' := [(0, .ref a0), (1, .int i1), (2, .int i2), (3, .int i3)]) (List.forall_mem_cons.mpr ⟨rfl, (List.forall_mem_cons.mpr ⟨rfl, (List.forall_mem_cons.mpr ⟨rfl, (List.forall_mem_cons.mpr ⟨rfl, zs_nil⟩)⟩)⟩)⟩) ?_
      exact zt_X11_row_J51 hlt hxt hX hr hR hd ⟨by omega, by omega⟩ h
    · rw [if_neg c30] at h
      refine zw_aload_n hX dX11_row_33 rfl ?_
      obtain ⟨b16, g, h⟩ := zb_some h
      refine zw_getr hX zl_X11_67 dX11_row_34 g ?_
      obtain ⟨b17, g, h⟩ := zb_some h
      refine zw_getNr hX zl_X11_438 dX11_row_37 g ?_
      refine zw_iload_n hX dX11_row_40 rfl ?_
      obtain ⟨v18, g, h⟩ := zb_some h
      refine zw_xi hX dX11_row_41 g ?_
      refine zw_bipush (v := (15 : Int32)) hX dX11_row_42 (by decide) ?_
      refine zw_icmp_ne (tgt := 51) hX dX11_row_44 (by decide) (fun c44 => ?_) (fun c44 => ?_)
      · rw [if_neg c44] at h
        refine zw_sub (lv' := [(0, .ref a0), (1, .int i1), (2, .int i2), (3, .int i3)]) (List.forall_mem_cons.mpr ⟨rfl, (List.forall_mem_cons.mpr ⟨rfl, (List.forall_mem_cons.mpr ⟨rfl, (List.forall_mem_cons.mpr ⟨rfl, zs_nil⟩)⟩)⟩)⟩) ?_
        exact zt_X11_row_J51 hlt hxt hX hr hR hd ⟨by omega, by omega⟩ h
      · rw [if_pos c44] at h
        refine zw_iconst (v := (1 : Int32)) hX dX11_row_47 (by decide) ?_
        refine zw_goto (tgt := 52) hX dX11_row_48 (by decide) ?_
        refine zw_sub (lv' := [(0, .ref a0), (1, .int i1), (2, .int i2), (3, .int i3)]) (List.forall_mem_cons.mpr ⟨rfl, (List.forall_mem_cons.mpr ⟨rfl, (List.forall_mem_cons.mpr ⟨rfl, (List.forall_mem_cons.mpr ⟨rfl, zs_nil⟩)⟩)⟩)⟩) ?_
        exact zt_X11_row_J52 hlt hxt hX hr hR hd ⟨by omega, by omega⟩ h
  · rintro X S9 rfl
    obtain rfl := Option.some.inj h
    exact zx_out hX hxt rfl
set_option maxHeartbeats 4000000 in
set_option maxRecDepth 100000 in
theorem zt_X11_row_J22 {p : Program} {l : Launch} {e : Env} {R : Room} {s : State} {m : MethodId} {args : Array Value} {below : List Frame} {meth : Method} {c : Code} {V : zm_V} {mc ms d rc rs : Nat} (hlt : l.stackTraces = false) (hxt : ∀ x ∈ c.exceptionTable.toList, False) (hX : zm_X p R s m args meth c RX11 "row" cX11_row 5 zk_E V mc ms) (hr : meth.sig.returnType = (some .int)) (hR : R.frames = d ∧ R.locals = 64 * d) (hd : 7 ≤ d) {N : Nat} {a0 : Nat} {i1 : Int32} {i2 : Int32} {i3 : Int32} {out : ((Int32 ⊕ String) × zm_S)} (hc : 2 ≤ rc ∧ 12 ≤ rs) {S : zm_S} (h : zf_X11_row_J22 N a0 i1 i2 i3 S = some out) : zw p l e R s m args below meth c (vx_MQ below (zm_Qc zk_E V (zq_i out)) (zm_XC zk_E V (zq_x out)) args s mc ms (fun q => V.2.2.2.1 ≤ q)) 5 zk_E V mc ms 22 [(0, .ref a0), (1, .int i1), (2, .int i2), (3, .int i3)] [] S rc rs := by
  unfold zf_X11_row_J22 at h
  refine zw_iconst (v := (0 : Int32)) hX dX11_row_22 (by decide) ?_
  refine zw_sub (lv' := [(0, .ref a0), (1, .int i1), (2, .int i2), (3, .int i3)]) (List.forall_mem_cons.mpr ⟨rfl, (List.forall_mem_cons.mpr ⟨rfl, (List.forall_mem_cons.mpr ⟨rfl, (List.forall_mem_cons.mpr ⟨rfl, zs_nil⟩)⟩)⟩)⟩) ?_
  exact zt_X11_row_J23 hlt hxt hX hr hR hd ⟨by omega, by omega⟩ h
set_option maxHeartbeats 4000000 in
set_option maxRecDepth 100000 in
theorem zt_X11_row {l : Launch} {V : zm_V} (hlt : l.stackTraces = false) {N : Nat} {S : zm_S} {out : ((Int32 ⊕ String) × zm_S)} {d : Nat} {a0 : Nat} {i1 : Int32} {i2 : Int32} {i3 : Int32} (hd : 7 ≤ d) (h : zf_X11_row N a0 i1 i2 i3 S = some out) : zm_Met l zk_E V yX11_row (.code yX11_row cX11_row 5 (some .int)) d [.ref a0, .int i1, .int i2, .int i3] S 2 12 (zq_i out) (zq_x out) := by
  refine zm_of (by decide +kernel) (Nat.le_of_ble_eq_true rfl) ?_
  intro p e R s m args below meth c hRR hX hr hxt
  have hR : R.frames = d ∧ R.locals = 64 * d := by rw [hRR]; exact ⟨rfl, rfl⟩
  have hX : zm_X p R s m args meth c RX11 "row" cX11_row 5 zk_E V 2 12 := hX
  unfold zf_X11_row at h
  refine zw_sub (lv' := [(0, .ref a0), (1, .int i1), (2, .int i2), (3, .int i3)]) (List.forall_mem_cons.mpr ⟨rfl, (List.forall_mem_cons.mpr ⟨rfl, (List.forall_mem_cons.mpr ⟨rfl, (List.forall_mem_cons.mpr ⟨rfl, zs_nil⟩)⟩)⟩)⟩) ?_
  refine zw_aload_n hX dX11_row_0 rfl ?_
  refine zw_iload_n hX dX11_row_1 rfl ?_
  obtain ⟨_, gi, h⟩ := zb_some h
  obtain ⟨r2, g, h⟩ := zb_some h
  refine zc_Vi (as := [.int i1]) hX gi (zt_X11_isBlock (d := d - 1) (by omega) g) zl_X11_426 rfl dX11_row_2 ⟨rfl, rfl, Nat.le_of_ble_eq_true rfl⟩ ⟨by omega, by omega⟩ ?_
  refine zw_if_eq (tgt := 22) hX dX11_row_5 (by decide) (fun c5 => ?_) (fun c5 => ?_)
  · rw [if_pos c5] at h
    refine zw_sub (lv' := [(0, .ref a0), (1, .int i1), (2, .int i2), (3, .int i3)]) (List.forall_mem_cons.mpr ⟨rfl, (List.forall_mem_cons.mpr ⟨rfl, (List.forall_mem_cons.mpr ⟨rfl, (List.forall_mem_cons.mpr ⟨rfl, zs_nil⟩)⟩)⟩)⟩) ?_
    exact zt_X11_row_J22 hlt hxt hX hr hR hd ⟨by omega, by omega⟩ h
  · rw [if_neg c5] at h
    refine zw_iload_n hX dX11_row_8 rfl ?_
    refine zw_iconst (v := (0 : Int32)) hX dX11_row_9 (by decide) ?_
    refine zw_bipush (v := (7 : Int32)) hX dX11_row_10 (by decide) ?_
    obtain ⟨r20, g, h⟩ := zb_some h
    refine zc_Si (as := [.int i2, .int (0 : Int32), .int (7 : Int32)]) hX (zt_X11_isWithin (d := d - 1) (by omega) g) zl_X11_133 dX11_row_12 ⟨rfl, rfl, Nat.le_of_ble_eq_true rfl⟩ ⟨by omega, by omega⟩ ?_
    refine zw_if_eq (tgt := 22) hX dX11_row_15 (by decide) (fun c15 => ?_) (fun c15 => ?_)
    · rw [if_pos c15] at h
      refine zw_sub (lv' := [(0, .ref a0), (1, .int i1), (2, .int i2), (3, .int i3)]) (List.forall_mem_cons.mpr ⟨rfl, (List.forall_mem_cons.mpr ⟨rfl, (List.forall_mem_cons.mpr ⟨rfl, (List.forall_mem_cons.mpr ⟨rfl, zs_nil⟩)⟩)⟩)⟩) ?_
      exact zt_X11_row_J22 hlt hxt hX hr hR hd ⟨by omega, by omega⟩ h
    · rw [if_neg c15] at h
      refine zw_iconst (v := (1 : Int32)) hX dX11_row_18 (by decide) ?_
      refine zw_goto (tgt := 23) hX dX11_row_19 (by decide) ?_
      refine zw_sub (lv' := [(0, .ref a0), (1, .int i1), (2, .int i2), (3, .int i3)]) (List.forall_mem_cons.mpr ⟨rfl, (List.forall_mem_cons.mpr ⟨rfl, (List.forall_mem_cons.mpr ⟨rfl, (List.forall_mem_cons.mpr ⟨rfl, zs_nil⟩)⟩)⟩)⟩) ?_
      exact zt_X11_row_J23 hlt hxt hX hr hR hd ⟨by omega, by omega⟩ h
set_option maxHeartbeats 4000000 in
set_option maxRecDepth 100000 in
theorem zt_X11_safe {l : Launch} {V : zm_V} (hlt : l.stackTraces = false) {N : Nat} {S : zm_S} {out : ((Int32 ⊕ String) × zm_S)} {d : Nat} {a0 : Nat} {i1 : Int32} {i2 : Int32} (hd : 7 ≤ d) (h : zf_X11_safe N a0 i1 i2 S = some out) : zm_Met l zk_E V yX11_safe (.code yX11_safe cX11_safe 4 (some .int)) d [.ref a0, .int i1, .int i2] S 2 12 (zq_i out) (zq_x out) := by
  refine zm_of (by decide +kernel) (Nat.le_of_ble_eq_true rfl) ?_
  intro p e R s m args below meth c hRR hX hr hxt
  have hR : R.frames = d ∧ R.locals = 64 * d := by rw [hRR]; exact ⟨rfl, rfl⟩
  have hX : zm_X p R s m args meth c RX11 "safe" cX11_safe 4 zk_E V 2 12 := hX
  unfold zf_X11_safe at h
  refine zw_sub (lv' := [(0, .ref a0), (1, .int i1), (2, .int i2)]) (List.forall_mem_cons.mpr ⟨rfl, (List.forall_mem_cons.mpr ⟨rfl, (List.forall_mem_cons.mpr ⟨rfl, zs_nil⟩)⟩)⟩) ?_
  refine zw_aload_n hX dX11_safe_0 rfl ?_
  refine zw_iload_n hX dX11_safe_1 rfl ?_
  obtain ⟨_, gi, h⟩ := zb_some h
  obtain ⟨r2, g, h⟩ := zb_some h
  refine zc_Vi (as := [.int i1]) hX gi (zt_X11_isBlock (d := d - 1) (by omega) g) zl_X11_426 rfl dX11_safe_2 ⟨rfl, rfl, Nat.le_of_ble_eq_true rfl⟩ ⟨by omega, by omega⟩ ?_
  obtain ⟨r, g, h⟩ := zb_some h
  refine zc_S (as := [.int r2.1]) hX (zt_X11_needArgument hlt (d := d - 1) (by omega) g) zl_X11_100 dX11_safe_5 ⟨rfl, rfl, Nat.le_of_ble_eq_true rfl⟩ ⟨by omega, by omega⟩ ⟨by omega, by omega⟩ ?_ ?_
  · rintro _ S4 ⟨⟨u3, rfl⟩, rfl⟩
    try dsimp only at h
    refine zw_aload_n hX dX11_safe_8 rfl ?_
    obtain ⟨v5, g, h⟩ := zb_some h
    refine zw_geti hX zl_X11_104 dX11_safe_9 g ?_
    obtain ⟨r, g, h⟩ := zb_some h
    refine zc_S (as := [.int v5]) hX (zt_X11_needState hlt (d := d - 1) (by omega) g) zl_X11_112 dX11_safe_12 ⟨rfl, rfl, Nat.le_of_ble_eq_true rfl⟩ ⟨by omega, by omega⟩ ⟨by omega, by omega⟩ ?_ ?_
    · rintro _ S7 ⟨⟨u6, rfl⟩, rfl⟩
      try dsimp only at h
      refine zw_aload_n hX dX11_safe_15 rfl ?_
      obtain ⟨b8, g, h⟩ := zb_some h
      refine zw_getr hX zl_X11_67 dX11_safe_16 g ?_
      obtain ⟨b9, g, h⟩ := zb_some h
      refine zw_getNr hX zl_X11_445 dX11_safe_19 g ?_
      refine zw_iload_n hX dX11_safe_22 rfl ?_
      obtain ⟨v10, g, h⟩ := zb_some h
      refine zw_xi hX dX11_safe_23 g ?_
      refine zw_istore_n hX dX11_safe_24 (by decide) ?_
      refine zw_aload_n hX dX11_safe_25 rfl ?_
      obtain ⟨b11, g, h⟩ := zb_some h
      refine zw_getr hX zl_X11_67 dX11_safe_26 g ?_
      obtain ⟨b12, g, h⟩ := zb_some h
      refine zw_getNr hX zl_X11_445 dX11_safe_29 g ?_
      refine zw_iload_n hX dX11_safe_32 rfl ?_
      refine zw_iload_n hX dX11_safe_33 rfl ?_
      obtain ⟨S13, g, h⟩ := zb_some h
      refine zw_si hX dX11_safe_34 g ?_
      refine zw_iload_n hX dX11_safe_35 rfl ?_
      obtain rfl := Option.some.inj h
      exact zw_iret hX hr dX11_safe_36 rfl ⟨_, rfl, rfl⟩
    · rintro X S9 rfl
      obtain rfl := Option.some.inj h
      exact zx_out hX hxt rfl
  · rintro X S9 rfl
    obtain rfl := Option.some.inj h
    exact zx_out hX hxt rfl
set_option maxHeartbeats 4000000 in
set_option maxRecDepth 100000 in
theorem zt_X11_hand {l : Launch} {V : zm_V} (hlt : l.stackTraces = false) {N : Nat} {S : zm_S} {out : ((Int32 ⊕ String) × zm_S)} {d : Nat} {a0 : Nat} {i1 : Int32} {i2 : Int32} {i3 : Int32} (hd : 7 ≤ d) (h : zf_X11_hand N a0 i1 i2 i3 S = some out) : zm_Met l zk_E V yX11_hand (.code yX11_hand cX11_hand 5 (some .boolean)) d [.ref a0, .int i1, .int i2, .int i3] S 2 12 (zq_i out) (zq_x out) := by
  refine zm_of (by decide +kernel) (Nat.le_of_ble_eq_true rfl) ?_
  intro p e R s m args below meth c hRR hX hr hxt
  have hR : R.frames = d ∧ R.locals = 64 * d := by rw [hRR]; exact ⟨rfl, rfl⟩
  have hX : zm_X p R s m args meth c RX11 "hand" cX11_hand 5 zk_E V 2 12 := hX
  unfold zf_X11_hand at h
  refine zw_sub (lv' := [(0, .ref a0), (1, .int i1), (2, .int i2), (3, .int i3)]) (List.forall_mem_cons.mpr ⟨rfl, (List.forall_mem_cons.mpr ⟨rfl, (List.forall_mem_cons.mpr ⟨rfl, (List.forall_mem_cons.mpr ⟨rfl, zs_nil⟩)⟩)⟩)⟩) ?_
  refine zw_aload_n hX dX11_hand_0 rfl ?_
  refine zw_iload_n hX dX11_hand_1 rfl ?_
  obtain ⟨_, gi, h⟩ := zb_some h
  obtain ⟨r2, g, h⟩ := zb_some h
  refine zc_Vi (as := [.int i1]) hX gi (zt_X11_isBlock (d := d - 1) (by omega) g) zl_X11_426 rfl dX11_hand_2 ⟨rfl, rfl, Nat.le_of_ble_eq_true rfl⟩ ⟨by omega, by omega⟩ ?_
  obtain ⟨r, g, h⟩ := zb_some h
  refine zc_S (as := [.int r2.1]) hX (zt_X11_needArgument hlt (d := d - 1) (by omega) g) zl_X11_100 dX11_hand_5 ⟨rfl, rfl, Nat.le_of_ble_eq_true rfl⟩ ⟨by omega, by omega⟩ ⟨by omega, by omega⟩ ?_ ?_
  · rintro _ S4 ⟨⟨u3, rfl⟩, rfl⟩
    try dsimp only at h
    refine zw_aload_n hX dX11_hand_8 rfl ?_
    obtain ⟨v5, g, h⟩ := zb_some h
    refine zw_geti hX zl_X11_104 dX11_hand_9 g ?_
    obtain ⟨r, g, h⟩ := zb_some h
    refine zc_S (as := [.int v5]) hX (zt_X11_needState hlt (d := d - 1) (by omega) g) zl_X11_112 dX11_hand_12 ⟨rfl, rfl, Nat.le_of_ble_eq_true rfl⟩ ⟨by omega, by omega⟩ ⟨by omega, by omega⟩ ?_ ?_
    · rintro _ S7 ⟨⟨u6, rfl⟩, rfl⟩
      try dsimp only at h
      refine zw_aload_n hX dX11_hand_15 rfl ?_
      obtain ⟨b8, g, h⟩ := zb_some h
      refine zw_getr hX zl_X11_67 dX11_hand_16 g ?_
      obtain ⟨b9, g, h⟩ := zb_some h
      refine zw_getNr hX zl_X11_448 dX11_hand_19 g ?_
      refine zw_iload_n hX dX11_hand_22 rfl ?_
      obtain ⟨v10, g, h⟩ := zb_some h
      refine zw_xz hX dX11_hand_23 g ?_
      refine zw_istore hX dX11_hand_24 (by decide) ?_
      refine zw_aload_n hX dX11_hand_26 rfl ?_
      obtain ⟨b11, g, h⟩ := zb_some h
      refine zw_getr hX zl_X11_67 dX11_hand_27 g ?_
      obtain ⟨b12, g, h⟩ := zb_some h
      refine zw_getNr hX zl_X11_448 dX11_hand_30 g ?_
      refine zw_iload_n hX dX11_hand_33 rfl ?_
      refine zw_iload_n hX dX11_hand_34 rfl ?_
      obtain ⟨S13, g, h⟩ := zb_some h
      refine zw_sz hX dX11_hand_35 g ?_
      refine zw_aload_n hX dX11_hand_36 rfl ?_
      obtain ⟨b14, g, h⟩ := zb_some h
      refine zw_getr hX zl_X11_67 dX11_hand_37 g ?_
      obtain ⟨b15, g, h⟩ := zb_some h
      refine zw_getNr hX zl_X11_451 dX11_hand_40 g ?_
      refine zw_iload_n hX dX11_hand_43 rfl ?_
      refine zw_iload_n hX dX11_hand_44 rfl ?_
      obtain ⟨S16, g, h⟩ := zb_some h
      refine zw_si hX dX11_hand_45 g ?_
      refine zw_iload hX dX11_hand_46 rfl ?_
      by_cases cz : v10 = 0 ∨ v10 = 1
      · rw [if_pos cz] at h
        obtain rfl := Option.some.inj h
        exact zw_iret hX hr dX11_hand_48 (zn_z cz) ⟨_, rfl, rfl⟩
      · rw [if_neg cz] at h
        cases h
    · rintro X S9 rfl
      obtain rfl := Option.some.inj h
      exact zx_out hX hxt rfl
  · rintro X S9 rfl
    obtain rfl := Option.some.inj h
    exact zx_out hX hxt rfl
set_option maxHeartbeats 4000000 in
set_option maxRecDepth 100000 in
theorem zt_X11_bind_J23 {p : Program} {l : Launch} {e : Env} {R : Room} {s : State} {m : MethodId} {args : Array Value} {below : List Frame} {meth : Method} {c : Code} {V : zm_V} {mc ms d rc rs : Nat} (hlt : l.stackTraces = false) (hxt : ∀ x ∈ c.exceptionTable.toList, False) (hX : zm_X p R s m args meth c RX11 "bind" cX11_bind 4 zk_E V mc ms) (hr : meth.sig.returnType = (some .int)) (hR : R.frames = d ∧ R.locals = 64 * d) (hd : 7 ≤ d) {N : Nat} {a0 : Nat} {i1 : Int32} {i2 : Int32} {t0 : Int32} {out : ((Int32 ⊕ String) × zm_S)} (hc : 2 ≤ rc ∧ 12 ≤ rs) {S : zm_S} (h : zf_X11_bind_J23 N a0 i1 i2 t0 S = some out) : zw p l e R s m args below meth c (vx_MQ below (zm_Qc zk_E V (zq_i out)) (zm_XC zk_E V (zq_x out)) args s mc ms (fun q => V.2.2.2.1 ≤ q)) 4 zk_E V mc ms 23 [(0, .ref a0), (1, .int i1), (2, .int i2)] [.int t0] S rc rs := by
  unfold zf_X11_bind_J23 at h
  obtain ⟨r, g, h⟩ := zb_some h
  refine zc_S (as := [.int t0]) hX (zt_X11_needArgument hlt (d := d - 1) (by omega) g) zl_X11_100 dX11_bind_23 ⟨rfl, rfl, Nat.le_of_ble_eq_true rfl⟩ ⟨by omega, by omega⟩ ⟨by omega, by omega⟩ ?_ ?_
  · rintro _ S4 ⟨⟨u3, rfl⟩, rfl⟩
    try dsimp only at h
    refine zw_aload_n hX dX11_bind_26 rfl ?_
    obtain ⟨v5, g, h⟩ := zb_some h
    refine zw_geti hX zl_X11_104 dX11_bind_27 g ?_
    obtain ⟨r, g, h⟩ := zb_some h
    refine zc_S (as := [.int v5]) hX (zt_X11_needState hlt (d := d - 1) (by omega) g) zl_X11_112 dX11_bind_30 ⟨rfl, rfl, Nat.le_of_ble_eq_true rfl⟩ ⟨by omega, by omega⟩ ⟨by omega, by omega⟩ ?_ ?_
    · rintro _ S7 ⟨⟨u6, rfl⟩, rfl⟩
      try dsimp only at h
      refine zw_aload_n hX dX11_bind_33 rfl ?_
      obtain ⟨b8, g, h⟩ := zb_some h
      refine zw_getr hX zl_X11_67 dX11_bind_34 g ?_
      obtain ⟨b9, g, h⟩ := zb_some h
      refine zw_getNr hX zl_X11_454 dX11_bind_37 g ?_
      refine zw_iload_n hX dX11_bind_40 rfl ?_
      obtain ⟨v10, g, h⟩ := zb_some h
      refine zw_xi hX dX11_bind_41 g ?_
      refine zw_istore_n hX dX11_bind_42 (by decide) ?_
      refine zw_aload_n hX dX11_bind_43 rfl ?_
      obtain ⟨b11, g, h⟩ := zb_some h
      refine zw_getr hX zl_X11_67 dX11_bind_44 g ?_
      obtain ⟨b12, g, h⟩ := zb_some h
      refine zw_getNr hX zl_X11_454 dX11_bind_47 g ?_
      refine zw_iload_n hX dX11_bind_50 rfl ?_
      refine zw_iload_n hX dX11_bind_51 rfl ?_
      obtain ⟨S13, g, h⟩ := zb_some h
      refine zw_si hX dX11_bind_52 g ?_
      refine zw_iload_n hX dX11_bind_53 rfl ?_
      obtain rfl := Option.some.inj h
      exact zw_iret hX hr dX11_bind_54 rfl ⟨_, rfl, rfl⟩
    · rintro X S9 rfl
      obtain rfl := Option.some.inj h
      exact zx_out hX hxt rfl
  · rintro X S9 rfl
    obtain rfl := Option.some.inj h
    exact zx_out hX hxt rfl
set_option maxHeartbeats 4000000 in
set_option maxRecDepth 100000 in
theorem zt_X11_bind_J22 {p : Program} {l : Launch} {e : Env} {R : Room} {s : State} {m : MethodId} {args : Array Value} {below : List Frame} {meth : Method} {c : Code} {V : zm_V} {mc ms d rc rs : Nat} (hlt : l.stackTraces = false) (hxt : ∀ x ∈ c.exceptionTable.toList, False) (hX : zm_X p R s m args meth c RX11 "bind" cX11_bind 4 zk_E V mc ms) (hr : meth.sig.returnType = (some .int)) (hR : R.frames = d ∧ R.locals = 64 * d) (hd : 7 ≤ d) {N : Nat} {a0 : Nat} {i1 : Int32} {i2 : Int32} {out : ((Int32 ⊕ String) × zm_S)} (hc : 2 ≤ rc ∧ 12 ≤ rs) {S : zm_S} (h : zf_X11_bind_J22 N a0 i1 i2 S = some out) : zw p l e R s m args below meth c (vx_MQ below (zm_Qc zk_E V (zq_i out)) (zm_XC zk_E V (zq_x out)) args s mc ms (fun q => V.2.2.2.1 ≤ q)) 4 zk_E V mc ms 22 [(0, .ref a0), (1, .int i1), (2, .int i2)] [] S rc rs := by
  unfold zf_X11_bind_J22 at h
  refine zw_iconst (v := (0 : Int32)) hX dX11_bind_22 (by decide) ?_
  refine zw_sub (lv' := [(0, .ref a0), (1, .int i1), (2, .int i2)]) (List.forall_mem_cons.mpr ⟨rfl, (List.forall_mem_cons.mpr ⟨rfl, (List.forall_mem_cons.mpr ⟨rfl, zs_nil⟩)⟩)⟩) ?_
  exact zt_X11_bind_J23 hlt hxt hX hr hR hd ⟨by omega, by omega⟩ h
set_option maxHeartbeats 4000000 in
set_option maxRecDepth 100000 in
theorem zt_X11_bind {l : Launch} {V : zm_V} (hlt : l.stackTraces = false) {N : Nat} {S : zm_S} {out : ((Int32 ⊕ String) × zm_S)} {d : Nat} {a0 : Nat} {i1 : Int32} {i2 : Int32} (hd : 7 ≤ d) (h : zf_X11_bind N a0 i1 i2 S = some out) : zm_Met l zk_E V yX11_bind (.code yX11_bind cX11_bind 4 (some .int)) d [.ref a0, .int i1, .int i2] S 2 12 (zq_i out) (zq_x out) := by
  refine zm_of (by decide +kernel) (Nat.le_of_ble_eq_true rfl) ?_
  intro p e R s m args below meth c hRR hX hr hxt
  have hR : R.frames = d ∧ R.locals = 64 * d := by rw [hRR]; exact ⟨rfl, rfl⟩
  have hX : zm_X p R s m args meth c RX11 "bind" cX11_bind 4 zk_E V 2 12 := hX
  unfold zf_X11_bind at h
  refine zw_sub (lv' := [(0, .ref a0), (1, .int i1), (2, .int i2)]) (List.forall_mem_cons.mpr ⟨rfl, (List.forall_mem_cons.mpr ⟨rfl, (List.forall_mem_cons.mpr ⟨rfl, zs_nil⟩)⟩)⟩) ?_
  refine zw_aload_n hX dX11_bind_0 rfl ?_
  refine zw_iload_n hX dX11_bind_1 rfl ?_
  obtain ⟨_, gi, h⟩ := zb_some h
  obtain ⟨r2, g, h⟩ := zb_some h
  refine zc_Vi (as := [.int i1]) hX gi (zt_X11_isBlock (d := d - 1) (by omega) g) zl_X11_426 rfl dX11_bind_2 ⟨rfl, rfl, Nat.le_of_ble_eq_true rfl⟩ ⟨by omega, by omega⟩ ?_
  refine zw_if_eq (tgt := 22) hX dX11_bind_5 (by decide) (fun c5 => ?_) (fun c5 => ?_)
  · rw [if_pos c5] at h
    refine zw_sub (lv' := [(0, .ref a0), (1, .int i1), (2, .int i2)]) (List.forall_mem_cons.mpr ⟨rfl, (List.forall_mem_cons.mpr ⟨rfl, (List.forall_mem_cons.mpr ⟨rfl, zs_nil⟩)⟩)⟩) ?_
    exact zt_X11_bind_J22 hlt hxt hX hr hR hd ⟨by omega, by omega⟩ h
  · rw [if_neg c5] at h
    refine zw_iload_n hX dX11_bind_8 rfl ?_
    refine zw_iconst (v := (-1 : Int32)) hX dX11_bind_9 (by decide) ?_
    refine zw_bipush (v := (9 : Int32)) hX dX11_bind_10 (by decide) ?_
    obtain ⟨r15, g, h⟩ := zb_some h
    refine zc_Si (as := [.int i2, .int (-1 : Int32), .int (9 : Int32)]) hX (zt_X11_isWithin (d := d - 1) (by omega) g) zl_X11_133 dX11_bind_12 ⟨rfl, rfl, Nat.le_of_ble_eq_true rfl⟩ ⟨by omega, by omega⟩ ?_
    refine zw_if_eq (tgt := 22) hX dX11_bind_15 (by decide) (fun c15 => ?_) (fun c15 => ?_)
    · rw [if_pos c15] at h
      refine zw_sub (lv' := [(0, .ref a0), (1, .int i1), (2, .int i2)]) (List.forall_mem_cons.mpr ⟨rfl, (List.forall_mem_cons.mpr ⟨rfl, (List.forall_mem_cons.mpr ⟨rfl, zs_nil⟩)⟩)⟩) ?_
      exact zt_X11_bind_J22 hlt hxt hX hr hR hd ⟨by omega, by omega⟩ h
    · rw [if_neg c15] at h
      refine zw_iconst (v := (1 : Int32)) hX dX11_bind_18 (by decide) ?_
      refine zw_goto (tgt := 23) hX dX11_bind_19 (by decide) ?_
      refine zw_sub (lv' := [(0, .ref a0), (1, .int i1), (2, .int i2)]) (List.forall_mem_cons.mpr ⟨rfl, (List.forall_mem_cons.mpr ⟨rfl, (List.forall_mem_cons.mpr ⟨rfl, zs_nil⟩)⟩)⟩) ?_
      exact zt_X11_bind_J23 hlt hxt hX hr hR hd ⟨by omega, by omega⟩ h
set_option maxHeartbeats 4000000 in
set_option maxRecDepth 100000 in
theorem zt_X11_point {l : Launch} {V : zm_V} (hlt : l.stackTraces = false) {N : Nat} {S : zm_S} {out : ((Int32 ⊕ String) × zm_S)} {d : Nat} {a0 : Nat} {i1 : Int32} {i2 : Int32} (hd : 7 ≤ d) (h : zf_X11_point N a0 i1 i2 S = some out) : zm_Met l zk_E V yX11_point (.code yX11_point cX11_point 4 (some .int)) d [.ref a0, .int i1, .int i2] S 2 12 (zq_i out) (zq_x out) := by
  refine zm_of (by decide +kernel) (Nat.le_of_ble_eq_true rfl) ?_
  intro p e R s m args below meth c hRR hX hr hxt
  have hR : R.frames = d ∧ R.locals = 64 * d := by rw [hRR]; exact ⟨rfl, rfl⟩
  have hX : zm_X p R s m args meth c RX11 "point" cX11_point 4 zk_E V 2 12 := hX
  unfold zf_X11_point at h
  refine zw_sub (lv' := [(0, .ref a0), (1, .int i1), (2, .int i2)]) (List.forall_mem_cons.mpr ⟨rfl, (List.forall_mem_cons.mpr ⟨rfl, (List.forall_mem_cons.mpr ⟨rfl, zs_nil⟩)⟩)⟩) ?_
  refine zw_iload_n hX dX11_point_0 rfl ?_
  refine zw_iconst (v := (4 : Int32)) hX dX11_point_1 (by decide) ?_
  refine zw_bipush (v := (9 : Int32)) hX dX11_point_2 (by decide) ?_
  obtain ⟨r2, g, h⟩ := zb_some h
  refine zc_Si (as := [.int i1, .int (4 : Int32), .int (9 : Int32)]) hX (zt_X11_isWithin (d := d - 1) (by omega) g) zl_X11_133 dX11_point_4 ⟨rfl, rfl, Nat.le_of_ble_eq_true rfl⟩ ⟨by omega, by omega⟩ ?_
  obtain ⟨r, g, h⟩ := zb_some h
  refine zc_S (as := [.int r2.1]) hX (zt_X11_needArgument hlt (d := d - 1) (by omega) g) zl_X11_100 dX11_point_7 ⟨rfl, rfl, Nat.le_of_ble_eq_true rfl⟩ ⟨by omega, by omega⟩ ⟨by omega, by omega⟩ ?_ ?_
  · rintro _ S4 ⟨⟨u3, rfl⟩, rfl⟩
    try dsimp only at h
    refine zw_aload_n hX dX11_point_10 rfl ?_
    obtain ⟨v5, g, h⟩ := zb_some h
    refine zw_geti hX zl_X11_104 dX11_point_11 g ?_
    obtain ⟨r, g, h⟩ := zb_some h
    refine zc_S (as := [.int v5]) hX (zt_X11_needState hlt (d := d - 1) (by omega) g) zl_X11_112 dX11_point_14 ⟨rfl, rfl, Nat.le_of_ble_eq_true rfl⟩ ⟨by omega, by omega⟩ ⟨by omega, by omega⟩ ?_ ?_
    · rintro _ S7 ⟨⟨u6, rfl⟩, rfl⟩
      try dsimp only at h
      refine zw_aload_n hX dX11_point_17 rfl ?_
      obtain ⟨b8, g, h⟩ := zb_some h
      refine zw_getr hX zl_X11_67 dX11_point_18 g ?_
      obtain ⟨b9, g, h⟩ := zb_some h
      refine zw_getNr hX zl_X11_457 dX11_point_21 g ?_
      refine zw_iload_n hX dX11_point_24 rfl ?_
      obtain ⟨v10, g, h⟩ := zb_some h
      refine zw_xi hX dX11_point_25 g ?_
      refine zw_istore_n hX dX11_point_26 (by decide) ?_
      refine zw_aload_n hX dX11_point_27 rfl ?_
      obtain ⟨b11, g, h⟩ := zb_some h
      refine zw_getr hX zl_X11_67 dX11_point_28 g ?_
      obtain ⟨b12, g, h⟩ := zb_some h
      refine zw_getNr hX zl_X11_457 dX11_point_31 g ?_
      refine zw_iload_n hX dX11_point_34 rfl ?_
      refine zw_iload_n hX dX11_point_35 rfl ?_
      obtain ⟨S13, g, h⟩ := zb_some h
      refine zw_si hX dX11_point_36 g ?_
      refine zw_iload_n hX dX11_point_37 rfl ?_
      obtain rfl := Option.some.inj h
      exact zw_iret hX hr dX11_point_38 rfl ⟨_, rfl, rfl⟩
    · rintro X S9 rfl
      obtain rfl := Option.some.inj h
      exact zx_out hX hxt rfl
  · rintro X S9 rfl
    obtain rfl := Option.some.inj h
    exact zx_out hX hxt rfl
set_option maxHeartbeats 4000000 in
set_option maxRecDepth 100000 in
theorem zt_X11_pointAt {l : Launch} {V : zm_V} (hlt : l.stackTraces = false) {N : Nat} {S : zm_S} {out : ((Int32 ⊕ String) × zm_S)} {d : Nat} {a0 : Nat} {i1 : Int32} (hd : 7 ≤ d) (h : zf_X11_pointAt N a0 i1 S = some out) : zm_Met l zk_E V yX11_pointAt (.code yX11_pointAt cX11_pointAt 2 (some .int)) d [.ref a0, .int i1] S 2 12 (zq_i out) (zq_x out) := by
  refine zm_of (by decide +kernel) (Nat.le_of_ble_eq_true rfl) ?_
  intro p e R s m args below meth c hRR hX hr hxt
  have hR : R.frames = d ∧ R.locals = 64 * d := by rw [hRR]; exact ⟨rfl, rfl⟩
  have hX : zm_X p R s m args meth c RX11 "pointAt" cX11_pointAt 2 zk_E V 2 12 := hX
  unfold zf_X11_pointAt at h
  refine zw_sub (lv' := [(0, .ref a0), (1, .int i1)]) (List.forall_mem_cons.mpr ⟨rfl, (List.forall_mem_cons.mpr ⟨rfl, zs_nil⟩)⟩) ?_
  refine zw_iload_n hX dX11_pointAt_0 rfl ?_
  refine zw_iconst (v := (0 : Int32)) hX dX11_pointAt_1 (by decide) ?_
  refine zw_bipush (v := (9 : Int32)) hX dX11_pointAt_2 (by decide) ?_
  obtain ⟨r2, g, h⟩ := zb_some h
  refine zc_Si (as := [.int i1, .int (0 : Int32), .int (9 : Int32)]) hX (zt_X11_isWithin (d := d - 1) (by omega) g) zl_X11_133 dX11_pointAt_4 ⟨rfl, rfl, Nat.le_of_ble_eq_true rfl⟩ ⟨by omega, by omega⟩ ?_
  obtain ⟨r, g, h⟩ := zb_some h
  refine zc_S (as := [.int r2.1]) hX (zt_X11_needArgument hlt (d := d - 1) (by omega) g) zl_X11_100 dX11_pointAt_7 ⟨rfl, rfl, Nat.le_of_ble_eq_true rfl⟩ ⟨by omega, by omega⟩ ⟨by omega, by omega⟩ ?_ ?_
  · rintro _ S4 ⟨⟨u3, rfl⟩, rfl⟩
    try dsimp only at h
    refine zw_aload_n hX dX11_pointAt_10 rfl ?_
    obtain ⟨v5, g, h⟩ := zb_some h
    refine zw_geti hX zl_X11_104 dX11_pointAt_11 g ?_
    obtain ⟨r, g, h⟩ := zb_some h
    refine zc_S (as := [.int v5]) hX (zt_X11_needState hlt (d := d - 1) (by omega) g) zl_X11_112 dX11_pointAt_14 ⟨rfl, rfl, Nat.le_of_ble_eq_true rfl⟩ ⟨by omega, by omega⟩ ⟨by omega, by omega⟩ ?_ ?_
    · rintro _ S7 ⟨⟨u6, rfl⟩, rfl⟩
      try dsimp only at h
      refine zw_aload_n hX dX11_pointAt_17 rfl ?_
      obtain ⟨b8, g, h⟩ := zb_some h
      refine zw_getr hX zl_X11_67 dX11_pointAt_18 g ?_
      obtain ⟨b9, g, h⟩ := zb_some h
      refine zw_getNr hX zl_X11_457 dX11_pointAt_21 g ?_
      refine zw_iload_n hX dX11_pointAt_24 rfl ?_
      obtain ⟨v10, g, h⟩ := zb_some h
      refine zw_xi hX dX11_pointAt_25 g ?_
      obtain rfl := Option.some.inj h
      exact zw_iret hX hr dX11_pointAt_26 rfl ⟨_, rfl, rfl⟩
    · rintro X S9 rfl
      obtain rfl := Option.some.inj h
      exact zx_out hX hxt rfl
  · rintro X S9 rfl
    obtain rfl := Option.some.inj h
    exact zx_out hX hxt rfl
set_option maxHeartbeats 4000000 in
set_option maxRecDepth 100000 in
theorem zt_X11_order {l : Launch} {V : zm_V} (hlt : l.stackTraces = false) {N : Nat} {S : zm_S} {out : ((Int32 ⊕ String) × zm_S)} {d : Nat} {a0 : Nat} (hd : 7 ≤ d) (h : zf_X11_order N a0 S = some out) : zm_Met l zk_E V yX11_order (.code yX11_order cX11_order 1 (some .int)) d [.ref a0] S 1 6 (zq_i out) (zq_x out) := by
  refine zm_of (by decide +kernel) (Nat.le_of_ble_eq_true rfl) ?_
  intro p e R s m args below meth c hRR hX hr hxt
  have hR : R.frames = d ∧ R.locals = 64 * d := by rw [hRR]; exact ⟨rfl, rfl⟩
  have hX : zm_X p R s m args meth c RX11 "order" cX11_order 1 zk_E V 1 6 := hX
  unfold zf_X11_order at h
  refine zw_sub (lv' := [(0, .ref a0)]) (List.forall_mem_cons.mpr ⟨rfl, zs_nil⟩) ?_
  refine zw_aload_n hX dX11_order_0 rfl ?_
  obtain ⟨v1, g, h⟩ := zb_some h
  refine zw_geti hX zl_X11_104 dX11_order_1 g ?_
  obtain ⟨r, g, h⟩ := zb_some h
  refine zc_S (as := [.int v1]) hX (zt_X11_needState hlt (d := d - 1) (by omega) g) zl_X11_112 dX11_order_4 ⟨rfl, rfl, Nat.le_of_ble_eq_true rfl⟩ ⟨by omega, by omega⟩ ⟨by omega, by omega⟩ ?_ ?_
  · rintro _ S3 ⟨⟨u2, rfl⟩, rfl⟩
    try dsimp only at h
    refine zw_aload_n hX dX11_order_7 rfl ?_
    obtain ⟨b4, g, h⟩ := zb_some h
    refine zw_getr hX zl_X11_67 dX11_order_8 g ?_
    obtain ⟨_, gi, h⟩ := zb_some h
    obtain ⟨r6, g, h⟩ := zb_some h
    refine zc_Vv (as := []) hX gi (zt_X9_sortBlocks (d := d - 1) (by omega) g) zl_X11_459 rfl dX11_order_11 ⟨rfl, rfl, Nat.le_of_ble_eq_true rfl⟩ ⟨by omega, by omega⟩ ?_
    refine zw_aload_n hX dX11_order_14 rfl ?_
    obtain ⟨b7, g, h⟩ := zb_some h
    refine zw_getr hX zl_X11_67 dX11_order_15 g ?_
    obtain ⟨v8, g, h⟩ := zb_some h
    refine zw_getNi hX zl_X11_462 dX11_order_18 g ?_
    obtain rfl := Option.some.inj h
    exact zw_iret hX hr dX11_order_21 rfl ⟨_, rfl, rfl⟩
  · rintro X S9 rfl
    obtain rfl := Option.some.inj h
    exact zx_out hX hxt rfl
set_option maxHeartbeats 4000000 in
set_option maxRecDepth 100000 in
theorem zt_X11_out_J22 {p : Program} {l : Launch} {e : Env} {R : Room} {s : State} {m : MethodId} {args : Array Value} {below : List Frame} {meth : Method} {c : Code} {V : zm_V} {mc ms d rc rs : Nat} (hlt : l.stackTraces = false) (hxt : ∀ x ∈ c.exceptionTable.toList, False) (hX : zm_X p R s m args meth c RX11 "out" cX11_out 3 zk_E V mc ms) (hr : meth.sig.returnType = (some .int)) (hR : R.frames = d ∧ R.locals = 64 * d) (hd : 7 ≤ d) {N : Nat} {a0 : Nat} {i1 : Int32} {i2 : Int32} {t0 : Int32} {out : ((Int32 ⊕ String) × zm_S)} (hc : 2 ≤ rc ∧ 12 ≤ rs) {S : zm_S} (h : zf_X11_out_J22 N a0 i1 i2 t0 S = some out) : zw p l e R s m args below meth c (vx_MQ below (zm_Qc zk_E V (zq_i out)) (zm_XC zk_E V (zq_x out)) args s mc ms (fun q => V.2.2.2.1 ≤ q)) 3 zk_E V mc ms 22 [(0, .ref a0), (1, .int i1), (2, .int i2)] [.int t0] S rc rs := by
  unfold zf_X11_out_J22 at h
  obtain ⟨r, g, h⟩ := zb_some h
  refine zc_S (as := [.int t0]) hX (zt_X11_needArgument hlt (d := d - 1) (by omega) g) zl_X11_100 dX11_out_22 ⟨rfl, rfl, Nat.le_of_ble_eq_true rfl⟩ ⟨by omega, by omega⟩ ⟨by omega, by omega⟩ ?_ ?_
  · rintro _ S4 ⟨⟨u3, rfl⟩, rfl⟩
    try dsimp only at h
    refine zw_aload_n hX dX11_out_25 rfl ?_
    obtain ⟨v5, g, h⟩ := zb_some h
    refine zw_geti hX zl_X11_104 dX11_out_26 g ?_
    obtain ⟨r, g, h⟩ := zb_some h
    refine zc_S (as := [.int v5]) hX (zt_X11_needState hlt (d := d - 1) (by omega) g) zl_X11_112 dX11_out_29 ⟨rfl, rfl, Nat.le_of_ble_eq_true rfl⟩ ⟨by omega, by omega⟩ ⟨by omega, by omega⟩ ?_ ?_
    · rintro _ S7 ⟨⟨u6, rfl⟩, rfl⟩
      try dsimp only at h
      refine zw_aload_n hX dX11_out_32 rfl ?_
      obtain ⟨b8, g, h⟩ := zb_some h
      refine zw_getr hX zl_X11_67 dX11_out_33 g ?_
      refine zw_iload_n hX dX11_out_36 rfl ?_
      refine zw_iload_n hX dX11_out_37 rfl ?_
      obtain ⟨_, gi, h⟩ := zb_some h
      obtain ⟨r10, g, h⟩ := zb_some h
      refine zc_Vi (as := [.int i1, .int i2]) hX gi (zt_X9_blockFact (d := d - 1) (by omega) g) zl_X11_465 rfl dX11_out_38 ⟨rfl, rfl, Nat.le_of_ble_eq_true rfl⟩ ⟨by omega, by omega⟩ ?_
      obtain rfl := Option.some.inj h
      exact zw_iret hX hr dX11_out_41 rfl ⟨_, rfl, rfl⟩
    · rintro X S9 rfl
      obtain rfl := Option.some.inj h
      exact zx_out hX hxt rfl
  · rintro X S9 rfl
    obtain rfl := Option.some.inj h
    exact zx_out hX hxt rfl
set_option maxHeartbeats 4000000 in
set_option maxRecDepth 100000 in
theorem zt_X11_out_J21 {p : Program} {l : Launch} {e : Env} {R : Room} {s : State} {m : MethodId} {args : Array Value} {below : List Frame} {meth : Method} {c : Code} {V : zm_V} {mc ms d rc rs : Nat} (hlt : l.stackTraces = false) (hxt : ∀ x ∈ c.exceptionTable.toList, False) (hX : zm_X p R s m args meth c RX11 "out" cX11_out 3 zk_E V mc ms) (hr : meth.sig.returnType = (some .int)) (hR : R.frames = d ∧ R.locals = 64 * d) (hd : 7 ≤ d) {N : Nat} {a0 : Nat} {i1 : Int32} {i2 : Int32} {out : ((Int32 ⊕ String) × zm_S)} (hc : 2 ≤ rc ∧ 12 ≤ rs) {S : zm_S} (h : zf_X11_out_J21 N a0 i1 i2 S = some out) : zw p l e R s m args below meth c (vx_MQ below (zm_Qc zk_E V (zq_i out)) (zm_XC zk_E V (zq_x out)) args s mc ms (fun q => V.2.2.2.1 ≤ q)) 3 zk_E V mc ms 21 [(0, .ref a0), (1, .int i1), (2, .int i2)] [] S rc rs := by
  unfold zf_X11_out_J21 at h
  refine zw_iconst (v := (0 : Int32)) hX dX11_out_21 (by decide) ?_
  refine zw_sub (lv' := [(0, .ref a0), (1, .int i1), (2, .int i2)]) (List.forall_mem_cons.mpr ⟨rfl, (List.forall_mem_cons.mpr ⟨rfl, (List.forall_mem_cons.mpr ⟨rfl, zs_nil⟩)⟩)⟩) ?_
  exact zt_X11_out_J22 hlt hxt hX hr hR hd ⟨by omega, by omega⟩ h
set_option maxHeartbeats 4000000 in
set_option maxRecDepth 100000 in
theorem zt_X11_out {l : Launch} {V : zm_V} (hlt : l.stackTraces = false) {N : Nat} {S : zm_S} {out : ((Int32 ⊕ String) × zm_S)} {d : Nat} {a0 : Nat} {i1 : Int32} {i2 : Int32} (hd : 7 ≤ d) (h : zf_X11_out N a0 i1 i2 S = some out) : zm_Met l zk_E V yX11_out (.code yX11_out cX11_out 3 (some .int)) d [.ref a0, .int i1, .int i2] S 2 12 (zq_i out) (zq_x out) := by
  refine zm_of (by decide +kernel) (Nat.le_of_ble_eq_true rfl) ?_
  intro p e R s m args below meth c hRR hX hr hxt
  have hR : R.frames = d ∧ R.locals = 64 * d := by rw [hRR]; exact ⟨rfl, rfl⟩
  have hX : zm_X p R s m args meth c RX11 "out" cX11_out 3 zk_E V 2 12 := hX
  unfold zf_X11_out at h
  refine zw_sub (lv' := [(0, .ref a0), (1, .int i1), (2, .int i2)]) (List.forall_mem_cons.mpr ⟨rfl, (List.forall_mem_cons.mpr ⟨rfl, (List.forall_mem_cons.mpr ⟨rfl, zs_nil⟩)⟩)⟩) ?_
  refine zw_aload_n hX dX11_out_0 rfl ?_
  refine zw_iload_n hX dX11_out_1 rfl ?_
  obtain ⟨_, gi, h⟩ := zb_some h
  obtain ⟨r2, g, h⟩ := zb_some h
  refine zc_Vi (as := [.int i1]) hX gi (zt_X11_isBlock (d := d - 1) (by omega) g) zl_X11_426 rfl dX11_out_2 ⟨rfl, rfl, Nat.le_of_ble_eq_true rfl⟩ ⟨by omega, by omega⟩ ?_
  refine zw_if_eq (tgt := 21) hX dX11_out_5 (by decide) (fun c5 => ?_) (fun c5 => ?_)
  · rw [if_pos c5] at h
    refine zw_sub (lv' := [(0, .ref a0), (1, .int i1), (2, .int i2)]) (List.forall_mem_cons.mpr ⟨rfl, (List.forall_mem_cons.mpr ⟨rfl, (List.forall_mem_cons.mpr ⟨rfl, zs_nil⟩)⟩)⟩) ?_
    exact zt_X11_out_J21 hlt hxt hX hr hR hd ⟨by omega, by omega⟩ h
  · rw [if_neg c5] at h
    refine zw_iload_n hX dX11_out_8 rfl ?_
    refine zw_iconst (v := (0 : Int32)) hX dX11_out_9 (by decide) ?_
    refine zw_iconst (v := (3 : Int32)) hX dX11_out_10 (by decide) ?_
    obtain ⟨r12, g, h⟩ := zb_some h
    refine zc_Si (as := [.int i2, .int (0 : Int32), .int (3 : Int32)]) hX (zt_X11_isWithin (d := d - 1) (by omega) g) zl_X11_133 dX11_out_11 ⟨rfl, rfl, Nat.le_of_ble_eq_true rfl⟩ ⟨by omega, by omega⟩ ?_
    refine zw_if_eq (tgt := 21) hX dX11_out_14 (by decide) (fun c14 => ?_) (fun c14 => ?_)
    · rw [if_pos c14] at h
      refine zw_sub (lv' := [(0, .ref a0), (1, .int i1), (2, .int i2)]) (List.forall_mem_cons.mpr ⟨rfl, (List.forall_mem_cons.mpr ⟨rfl, (List.forall_mem_cons.mpr ⟨rfl, zs_nil⟩)⟩)⟩) ?_
      exact zt_X11_out_J21 hlt hxt hX hr hR hd ⟨by omega, by omega⟩ h
    · rw [if_neg c14] at h
      refine zw_iconst (v := (1 : Int32)) hX dX11_out_17 (by decide) ?_
      refine zw_goto (tgt := 22) hX dX11_out_18 (by decide) ?_
      refine zw_sub (lv' := [(0, .ref a0), (1, .int i1), (2, .int i2)]) (List.forall_mem_cons.mpr ⟨rfl, (List.forall_mem_cons.mpr ⟨rfl, (List.forall_mem_cons.mpr ⟨rfl, zs_nil⟩)⟩)⟩) ?_
      exact zt_X11_out_J22 hlt hxt hX hr hR hd ⟨by omega, by omega⟩ h
set_option maxHeartbeats 4000000 in
set_option maxRecDepth 100000 in
theorem zt_X11_failed {l : Launch} {V : zm_V} (hlt : l.stackTraces = false) {N : Nat} {S : zm_S} {out : ((Int32 ⊕ String) × zm_S)} {d : Nat} {a0 : Nat} {i1 : Int32} (hd : 7 ≤ d) (h : zf_X11_failed N a0 i1 S = some out) : zm_Met l zk_E V yX11_failed (.code yX11_failed cX11_failed 2 (some .int)) d [.ref a0, .int i1] S 2 12 (zq_i out) (zq_x out) := by
  refine zm_of (by decide +kernel) (Nat.le_of_ble_eq_true rfl) ?_
  intro p e R s m args below meth c hRR hX hr hxt
  have hR : R.frames = d ∧ R.locals = 64 * d := by rw [hRR]; exact ⟨rfl, rfl⟩
  have hX : zm_X p R s m args meth c RX11 "failed" cX11_failed 2 zk_E V 2 12 := hX
  unfold zf_X11_failed at h
  refine zw_sub (lv' := [(0, .ref a0), (1, .int i1)]) (List.forall_mem_cons.mpr ⟨rfl, (List.forall_mem_cons.mpr ⟨rfl, zs_nil⟩)⟩) ?_
  refine zw_iload_n hX dX11_failed_0 rfl ?_
  refine zw_iconst (v := (0 : Int32)) hX dX11_failed_1 (by decide) ?_
  refine zw_iconst (v := (3 : Int32)) hX dX11_failed_2 (by decide) ?_
  obtain ⟨r2, g, h⟩ := zb_some h
  refine zc_Si (as := [.int i1, .int (0 : Int32), .int (3 : Int32)]) hX (zt_X11_isWithin (d := d - 1) (by omega) g) zl_X11_133 dX11_failed_3 ⟨rfl, rfl, Nat.le_of_ble_eq_true rfl⟩ ⟨by omega, by omega⟩ ?_
  obtain ⟨r, g, h⟩ := zb_some h
  refine zc_S (as := [.int r2.1]) hX (zt_X11_needArgument hlt (d := d - 1) (by omega) g) zl_X11_100 dX11_failed_6 ⟨rfl, rfl, Nat.le_of_ble_eq_true rfl⟩ ⟨by omega, by omega⟩ ⟨by omega, by omega⟩ ?_ ?_
  · rintro _ S4 ⟨⟨u3, rfl⟩, rfl⟩
    try dsimp only at h
    refine zw_aload_n hX dX11_failed_9 rfl ?_
    obtain ⟨v5, g, h⟩ := zb_some h
    refine zw_geti hX zl_X11_104 dX11_failed_10 g ?_
    obtain ⟨r, g, h⟩ := zb_some h
    refine zc_S (as := [.int v5]) hX (zt_X11_needState hlt (d := d - 1) (by omega) g) zl_X11_112 dX11_failed_13 ⟨rfl, rfl, Nat.le_of_ble_eq_true rfl⟩ ⟨by omega, by omega⟩ ⟨by omega, by omega⟩ ?_ ?_
    · rintro _ S7 ⟨⟨u6, rfl⟩, rfl⟩
      try dsimp only at h
      refine zw_aload_n hX dX11_failed_16 rfl ?_
      obtain ⟨b8, g, h⟩ := zb_some h
      refine zw_getr hX zl_X11_67 dX11_failed_17 g ?_
      obtain ⟨b9, g, h⟩ := zb_some h
      refine zw_getNr hX zl_X11_468 dX11_failed_20 g ?_
      refine zw_iload_n hX dX11_failed_23 rfl ?_
      obtain ⟨v10, g, h⟩ := zb_some h
      refine zw_xi hX dX11_failed_24 g ?_
      obtain rfl := Option.some.inj h
      exact zw_iret hX hr dX11_failed_25 rfl ⟨_, rfl, rfl⟩
    · rintro X S9 rfl
      obtain rfl := Option.some.inj h
      exact zx_out hX hxt rfl
  · rintro X S9 rfl
    obtain rfl := Option.some.inj h
    exact zx_out hX hxt rfl
set_option maxHeartbeats 4000000 in
set_option maxRecDepth 100000 in
theorem zt_X11_isStation {l : Launch} {V : zm_V} {N : Nat} {S : zm_S} {out : (Int32 × zm_S)} {d : Nat} {i0 : Int32} (hd : 2 ≤ d) (h : zf_X11_isStation N i0 S = some out) : zm_Met l zk_E V yX11_isStation (.code yX11_isStation cX11_isStation 1 (some .boolean)) d [.int i0] S 0 0 (zo_i out) zo_x := by
  refine zm_of (by decide +kernel) (Nat.le_of_ble_eq_true rfl) ?_
  intro p e R s m args below meth c hRR hX hr hxt
  have hR : R.frames = d ∧ R.locals = 64 * d := by rw [hRR]; exact ⟨rfl, rfl⟩
  have hX : zm_X p R s m args meth c RX11 "isStation" cX11_isStation 1 zk_E V 0 0 := hX
  unfold zf_X11_isStation at h
  refine zw_sub (lv' := [(0, .int i0)]) (List.forall_mem_cons.mpr ⟨rfl, zs_nil⟩) ?_
  refine zw_iload_n hX dX11_isStation_0 rfl ?_
  refine zw_iconst (v := (0 : Int32)) hX dX11_isStation_1 (by decide) ?_
  refine zw_bipush (v := (7 : Int32)) hX dX11_isStation_2 (by decide) ?_
  obtain ⟨r2, g, h⟩ := zb_some h
  refine zc_Si (as := [.int i0, .int (0 : Int32), .int (7 : Int32)]) hX (zt_X11_isWithin (d := d - 1) (by omega) g) zl_X11_133 dX11_isStation_4 ⟨rfl, rfl, Nat.le_of_ble_eq_true rfl⟩ ⟨by omega, by omega⟩ ?_
  by_cases cz : r2.1 = 0 ∨ r2.1 = 1
  · rw [if_pos cz] at h
    obtain rfl := Option.some.inj h
    exact zw_iret hX hr dX11_isStation_7 (zn_z cz) ⟨rfl, rfl⟩
  · rw [if_neg cz] at h
    cases h
set_option maxHeartbeats 4000000 in
set_option maxRecDepth 100000 in
theorem zt_X11_address_J23 {p : Program} {l : Launch} {e : Env} {R : Room} {s : State} {m : MethodId} {args : Array Value} {below : List Frame} {meth : Method} {c : Code} {V : zm_V} {mc ms d rc rs : Nat} (hlt : l.stackTraces = false) (hxt : ∀ x ∈ c.exceptionTable.toList, False) (hX : zm_X p R s m args meth c RX11 "address" cX11_address 3 zk_E V mc ms) (hr : meth.sig.returnType = (some .int)) (hR : R.frames = d ∧ R.locals = 64 * d) (hd : 7 ≤ d) {N : Nat} {a0 : Nat} {i1 : Int32} {i2 : Int32} {t0 : Int32} {out : ((Int32 ⊕ String) × zm_S)} (hc : 2 ≤ rc ∧ 12 ≤ rs) {S : zm_S} (h : zf_X11_address_J23 N a0 i1 i2 t0 S = some out) : zw p l e R s m args below meth c (vx_MQ below (zm_Qc zk_E V (zq_i out)) (zm_XC zk_E V (zq_x out)) args s mc ms (fun q => V.2.2.2.1 ≤ q)) 3 zk_E V mc ms 23 [(0, .ref a0), (1, .int i1), (2, .int i2)] [.int t0] S rc rs := by
  unfold zf_X11_address_J23 at h
  obtain ⟨r, g, h⟩ := zb_some h
  refine zc_S (as := [.int t0]) hX (zt_X11_needArgument hlt (d := d - 1) (by omega) g) zl_X11_100 dX11_address_23 ⟨rfl, rfl, Nat.le_of_ble_eq_true rfl⟩ ⟨by omega, by omega⟩ ⟨by omega, by omega⟩ ?_ ?_
  · rintro _ S4 ⟨⟨u3, rfl⟩, rfl⟩
    try dsimp only at h
    refine zw_aload_n hX dX11_address_26 rfl ?_
    obtain ⟨v5, g, h⟩ := zb_some h
    refine zw_geti hX zl_X11_104 dX11_address_27 g ?_
    obtain ⟨r, g, h⟩ := zb_some h
    refine zc_S (as := [.int v5]) hX (zt_X11_needState hlt (d := d - 1) (by omega) g) zl_X11_112 dX11_address_30 ⟨rfl, rfl, Nat.le_of_ble_eq_true rfl⟩ ⟨by omega, by omega⟩ ⟨by omega, by omega⟩ ?_ ?_
    · rintro _ S7 ⟨⟨u6, rfl⟩, rfl⟩
      try dsimp only at h
      refine zw_aload_n hX dX11_address_33 rfl ?_
      obtain ⟨b8, g, h⟩ := zb_some h
      refine zw_getr hX zl_X11_76 dX11_address_34 g ?_
      refine zw_iload_n hX dX11_address_37 rfl ?_
      refine zw_iload_n hX dX11_address_38 rfl ?_
      obtain ⟨_, gi, h⟩ := zb_some h
      obtain ⟨r10, g, h⟩ := zb_some h
      refine zc_Vi (as := [.int i1, .int i2]) hX gi (zt_X1_setAddress (d := d - 1) (by omega) g) zl_X11_475 rfl dX11_address_39 ⟨rfl, rfl, Nat.le_of_ble_eq_true rfl⟩ ⟨by omega, by omega⟩ ?_
      obtain rfl := Option.some.inj h
      exact zw_iret hX hr dX11_address_42 rfl ⟨_, rfl, rfl⟩
    · rintro X S9 rfl
      obtain rfl := Option.some.inj h
      exact zx_out hX hxt rfl
  · rintro X S9 rfl
    obtain rfl := Option.some.inj h
    exact zx_out hX hxt rfl
set_option maxHeartbeats 4000000 in
set_option maxRecDepth 100000 in
theorem zt_X11_address_J22 {p : Program} {l : Launch} {e : Env} {R : Room} {s : State} {m : MethodId} {args : Array Value} {below : List Frame} {meth : Method} {c : Code} {V : zm_V} {mc ms d rc rs : Nat} (hlt : l.stackTraces = false) (hxt : ∀ x ∈ c.exceptionTable.toList, False) (hX : zm_X p R s m args meth c RX11 "address" cX11_address 3 zk_E V mc ms) (hr : meth.sig.returnType = (some .int)) (hR : R.frames = d ∧ R.locals = 64 * d) (hd : 7 ≤ d) {N : Nat} {a0 : Nat} {i1 : Int32} {i2 : Int32} {out : ((Int32 ⊕ String) × zm_S)} (hc : 2 ≤ rc ∧ 12 ≤ rs) {S : zm_S} (h : zf_X11_address_J22 N a0 i1 i2 S = some out) : zw p l e R s m args below meth c (vx_MQ below (zm_Qc zk_E V (zq_i out)) (zm_XC zk_E V (zq_x out)) args s mc ms (fun q => V.2.2.2.1 ≤ q)) 3 zk_E V mc ms 22 [(0, .ref a0), (1, .int i1), (2, .int i2)] [] S rc rs := by
  unfold zf_X11_address_J22 at h
  refine zw_iconst (v := (0 : Int32)) hX dX11_address_22 (by decide) ?_
  refine zw_sub (lv' := [(0, .ref a0), (1, .int i1), (2, .int i2)]) (List.forall_mem_cons.mpr ⟨rfl, (List.forall_mem_cons.mpr ⟨rfl, (List.forall_mem_cons.mpr ⟨rfl, zs_nil⟩)⟩)⟩) ?_
  exact zt_X11_address_J23 hlt hxt hX hr hR hd ⟨by omega, by omega⟩ h
set_option maxHeartbeats 4000000 in
set_option maxRecDepth 100000 in
theorem zt_X11_address {l : Launch} {V : zm_V} (hlt : l.stackTraces = false) {N : Nat} {S : zm_S} {out : ((Int32 ⊕ String) × zm_S)} {d : Nat} {a0 : Nat} {i1 : Int32} {i2 : Int32} (hd : 7 ≤ d) (h : zf_X11_address N a0 i1 i2 S = some out) : zm_Met l zk_E V yX11_address (.code yX11_address cX11_address 3 (some .int)) d [.ref a0, .int i1, .int i2] S 2 12 (zq_i out) (zq_x out) := by
  refine zm_of (by decide +kernel) (Nat.le_of_ble_eq_true rfl) ?_
  intro p e R s m args below meth c hRR hX hr hxt
  have hR : R.frames = d ∧ R.locals = 64 * d := by rw [hRR]; exact ⟨rfl, rfl⟩
  have hX : zm_X p R s m args meth c RX11 "address" cX11_address 3 zk_E V 2 12 := hX
  unfold zf_X11_address at h
  refine zw_sub (lv' := [(0, .ref a0), (1, .int i1), (2, .int i2)]) (List.forall_mem_cons.mpr ⟨rfl, (List.forall_mem_cons.mpr ⟨rfl, (List.forall_mem_cons.mpr ⟨rfl, zs_nil⟩)⟩)⟩) ?_
  refine zw_iload_n hX dX11_address_0 rfl ?_
  obtain ⟨r2, g, h⟩ := zb_some h
  refine zc_Si (as := [.int i1]) hX (zt_X11_isStation (d := d - 1) (by omega) g) zl_X11_471 dX11_address_1 ⟨rfl, rfl, Nat.le_of_ble_eq_true rfl⟩ ⟨by omega, by omega⟩ ?_
  refine zw_if_eq (tgt := 22) hX dX11_address_4 (by decide) (fun c4 => ?_) (fun c4 => ?_)
  · rw [if_pos c4] at h
    refine zw_sub (lv' := [(0, .ref a0), (1, .int i1), (2, .int i2)]) (List.forall_mem_cons.mpr ⟨rfl, (List.forall_mem_cons.mpr ⟨rfl, (List.forall_mem_cons.mpr ⟨rfl, zs_nil⟩)⟩)⟩) ?_
    exact zt_X11_address_J22 hlt hxt hX hr hR hd ⟨by omega, by omega⟩ h
  · rw [if_neg c4] at h
    refine zw_iload_n hX dX11_address_7 rfl ?_
    refine zw_iconst (v := (0 : Int32)) hX dX11_address_8 (by decide) ?_
    refine zw_ldcw (v := (65535 : Int32)) hX dX11_address_9 zl_X11_474 ?_
    obtain ⟨r12, g, h⟩ := zb_some h
    refine zc_Si (as := [.int i2, .int (0 : Int32), .int (65535 : Int32)]) hX (zt_X11_isWithin (d := d - 1) (by omega) g) zl_X11_133 dX11_address_12 ⟨rfl, rfl, Nat.le_of_ble_eq_true rfl⟩ ⟨by omega, by omega⟩ ?_
    refine zw_if_eq (tgt := 22) hX dX11_address_15 (by decide) (fun c15 => ?_) (fun c15 => ?_)
    · rw [if_pos c15] at h
      refine zw_sub (lv' := [(0, .ref a0), (1, .int i1), (2, .int i2)]) (List.forall_mem_cons.mpr ⟨rfl, (List.forall_mem_cons.mpr ⟨rfl, (List.forall_mem_cons.mpr ⟨rfl, zs_nil⟩)⟩)⟩) ?_
      exact zt_X11_address_J22 hlt hxt hX hr hR hd ⟨by omega, by omega⟩ h
    · rw [if_neg c15] at h
      refine zw_iconst (v := (1 : Int32)) hX dX11_address_18 (by decide) ?_
      refine zw_goto (tgt := 23) hX dX11_address_19 (by decide) ?_
      refine zw_sub (lv' := [(0, .ref a0), (1, .int i1), (2, .int i2)]) (List.forall_mem_cons.mpr ⟨rfl, (List.forall_mem_cons.mpr ⟨rfl, (List.forall_mem_cons.mpr ⟨rfl, zs_nil⟩)⟩)⟩) ?_
      exact zt_X11_address_J23 hlt hxt hX hr hR hd ⟨by omega, by omega⟩ h
set_option maxHeartbeats 4000000 in
set_option maxRecDepth 100000 in
theorem zt_X11_listen_J23 {p : Program} {l : Launch} {e : Env} {R : Room} {s : State} {m : MethodId} {args : Array Value} {below : List Frame} {meth : Method} {c : Code} {V : zm_V} {mc ms d rc rs : Nat} (hlt : l.stackTraces = false) (hxt : ∀ x ∈ c.exceptionTable.toList, False) (hX : zm_X p R s m args meth c RX11 "listen" cX11_listen 4 zk_E V mc ms) (hr : meth.sig.returnType = (some .boolean)) (hR : R.frames = d ∧ R.locals = 64 * d) (hd : 7 ≤ d) {N : Nat} {a0 : Nat} {i1 : Int32} {i2 : Int32} {i3 : Int32} {t0 : Int32} {out : ((Int32 ⊕ String) × zm_S)} (hc : 2 ≤ rc ∧ 12 ≤ rs) {S : zm_S} (h : zf_X11_listen_J23 N a0 i1 i2 i3 t0 S = some out) : zw p l e R s m args below meth c (vx_MQ below (zm_Qc zk_E V (zq_i out)) (zm_XC zk_E V (zq_x out)) args s mc ms (fun q => V.2.2.2.1 ≤ q)) 4 zk_E V mc ms 23 [(0, .ref a0), (1, .int i1), (2, .int i2), (3, .int i3)] [.int t0] S rc rs := by
  unfold zf_X11_listen_J23 at h
  obtain ⟨r, g, h⟩ := zb_some h
  refine zc_S (as := [.int t0]) hX (zt_X11_needArgument hlt (d := d - 1) (by omega) g) zl_X11_100 dX11_listen_23 ⟨rfl, rfl, Nat.le_of_ble_eq_true rfl⟩ ⟨by omega, by omega⟩ ⟨by omega, by omega⟩ ?_ ?_
  · rintro _ S4 ⟨⟨u3, rfl⟩, rfl⟩
    try dsimp only at h
    refine zw_aload_n hX dX11_listen_26 rfl ?_
    obtain ⟨v5, g, h⟩ := zb_some h
    refine zw_geti hX zl_X11_104 dX11_listen_27 g ?_
    obtain ⟨r, g, h⟩ := zb_some h
    refine zc_S (as := [.int v5]) hX (zt_X11_needState hlt (d := d - 1) (by omega) g) zl_X11_112 dX11_listen_30 ⟨rfl, rfl, Nat.le_of_ble_eq_true rfl⟩ ⟨by omega, by omega⟩ ⟨by omega, by omega⟩ ?_ ?_
    · rintro _ S7 ⟨⟨u6, rfl⟩, rfl⟩
      try dsimp only at h
      refine zw_aload_n hX dX11_listen_33 rfl ?_
      obtain ⟨b8, g, h⟩ := zb_some h
      refine zw_getr hX zl_X11_76 dX11_listen_34 g ?_
      refine zw_iload_n hX dX11_listen_37 rfl ?_
      refine zw_iload_n hX dX11_listen_38 rfl ?_
      refine zw_iload_n hX dX11_listen_39 rfl ?_
      obtain ⟨_, gi, h⟩ := zb_some h
      obtain ⟨r10, g, h⟩ := zb_some h
      refine zc_Vi (as := [.int i1, .int i2, .int i3]) hX gi (zt_X1_setListening (d := d - 1) (by omega) g) zl_X11_478 rfl dX11_listen_40 ⟨rfl, rfl, Nat.le_of_ble_eq_true rfl⟩ ⟨by omega, by omega⟩ ?_
      by_cases cz : r10.1 = 0 ∨ r10.1 = 1
      · rw [if_pos cz] at h
        obtain rfl := Option.some.inj h
        exact zw_iret hX hr dX11_listen_43 (zn_z cz) ⟨_, rfl, rfl⟩
      · rw [if_neg cz] at h
        cases h
    · rintro X S9 rfl
      obtain rfl := Option.some.inj h
      exact zx_out hX hxt rfl
  · rintro X S9 rfl
    obtain rfl := Option.some.inj h
    exact zx_out hX hxt rfl
set_option maxHeartbeats 4000000 in
set_option maxRecDepth 100000 in
theorem zt_X11_listen_J22 {p : Program} {l : Launch} {e : Env} {R : Room} {s : State} {m : MethodId} {args : Array Value} {below : List Frame} {meth : Method} {c : Code} {V : zm_V} {mc ms d rc rs : Nat} (hlt : l.stackTraces = false) (hxt : ∀ x ∈ c.exceptionTable.toList, False) (hX : zm_X p R s m args meth c RX11 "listen" cX11_listen 4 zk_E V mc ms) (hr : meth.sig.returnType = (some .boolean)) (hR : R.frames = d ∧ R.locals = 64 * d) (hd : 7 ≤ d) {N : Nat} {a0 : Nat} {i1 : Int32} {i2 : Int32} {i3 : Int32} {out : ((Int32 ⊕ String) × zm_S)} (hc : 2 ≤ rc ∧ 12 ≤ rs) {S : zm_S} (h : zf_X11_listen_J22 N a0 i1 i2 i3 S = some out) : zw p l e R s m args below meth c (vx_MQ below (zm_Qc zk_E V (zq_i out)) (zm_XC zk_E V (zq_x out)) args s mc ms (fun q => V.2.2.2.1 ≤ q)) 4 zk_E V mc ms 22 [(0, .ref a0), (1, .int i1), (2, .int i2), (3, .int i3)] [] S rc rs := by
  unfold zf_X11_listen_J22 at h
  refine zw_iconst (v := (0 : Int32)) hX dX11_listen_22 (by decide) ?_
  refine zw_sub (lv' := [(0, .ref a0), (1, .int i1), (2, .int i2), (3, .int i3)]) (List.forall_mem_cons.mpr ⟨rfl, (List.forall_mem_cons.mpr ⟨rfl, (List.forall_mem_cons.mpr ⟨rfl, (List.forall_mem_cons.mpr ⟨rfl, zs_nil⟩)⟩)⟩)⟩) ?_
  exact zt_X11_listen_J23 hlt hxt hX hr hR hd ⟨by omega, by omega⟩ h
set_option maxHeartbeats 4000000 in
set_option maxRecDepth 100000 in
theorem zt_X11_listen {l : Launch} {V : zm_V} (hlt : l.stackTraces = false) {N : Nat} {S : zm_S} {out : ((Int32 ⊕ String) × zm_S)} {d : Nat} {a0 : Nat} {i1 : Int32} {i2 : Int32} {i3 : Int32} (hd : 7 ≤ d) (h : zf_X11_listen N a0 i1 i2 i3 S = some out) : zm_Met l zk_E V yX11_listen (.code yX11_listen cX11_listen 4 (some .boolean)) d [.ref a0, .int i1, .int i2, .int i3] S 2 12 (zq_i out) (zq_x out) := by
  refine zm_of (by decide +kernel) (Nat.le_of_ble_eq_true rfl) ?_
  intro p e R s m args below meth c hRR hX hr hxt
  have hR : R.frames = d ∧ R.locals = 64 * d := by rw [hRR]; exact ⟨rfl, rfl⟩
  have hX : zm_X p R s m args meth c RX11 "listen" cX11_listen 4 zk_E V 2 12 := hX
  unfold zf_X11_listen at h
  refine zw_sub (lv' := [(0, .ref a0), (1, .int i1), (2, .int i2), (3, .int i3)]) (List.forall_mem_cons.mpr ⟨rfl, (List.forall_mem_cons.mpr ⟨rfl, (List.forall_mem_cons.mpr ⟨rfl, (List.forall_mem_cons.mpr ⟨rfl, zs_nil⟩)⟩)⟩)⟩) ?_
  refine zw_iload_n hX dX11_listen_0 rfl ?_
  obtain ⟨r2, g, h⟩ := zb_some h
  refine zc_Si (as := [.int i1]) hX (zt_X11_isStation (d := d - 1) (by omega) g) zl_X11_471 dX11_listen_1 ⟨rfl, rfl, Nat.le_of_ble_eq_true rfl⟩ ⟨by omega, by omega⟩ ?_
  refine zw_if_eq (tgt := 22) hX dX11_listen_4 (by decide) (fun c4 => ?_) (fun c4 => ?_)
  · rw [if_pos c4] at h
    refine zw_sub (lv' := [(0, .ref a0), (1, .int i1), (2, .int i2), (3, .int i3)]) (List.forall_mem_cons.mpr ⟨rfl, (List.forall_mem_cons.mpr ⟨rfl, (List.forall_mem_cons.mpr ⟨rfl, (List.forall_mem_cons.mpr ⟨rfl, zs_nil⟩)⟩)⟩)⟩) ?_
    exact zt_X11_listen_J22 hlt hxt hX hr hR hd ⟨by omega, by omega⟩ h
  · rw [if_neg c4] at h
    refine zw_iload_n hX dX11_listen_7 rfl ?_
    refine zw_iconst (v := (0 : Int32)) hX dX11_listen_8 (by decide) ?_
    refine zw_sipush (v := (255 : Int32)) hX dX11_listen_9 (by decide) ?_
    obtain ⟨r12, g, h⟩ := zb_some h
    refine zc_Si (as := [.int i2, .int (0 : Int32), .int (255 : Int32)]) hX (zt_X11_isWithin (d := d - 1) (by omega) g) zl_X11_133 dX11_listen_12 ⟨rfl, rfl, Nat.le_of_ble_eq_true rfl⟩ ⟨by omega, by omega⟩ ?_
    refine zw_if_eq (tgt := 22) hX dX11_listen_15 (by decide) (fun c15 => ?_) (fun c15 => ?_)
    · rw [if_pos c15] at h
      refine zw_sub (lv' := [(0, .ref a0), (1, .int i1), (2, .int i2), (3, .int i3)]) (List.forall_mem_cons.mpr ⟨rfl, (List.forall_mem_cons.mpr ⟨rfl, (List.forall_mem_cons.mpr ⟨rfl, (List.forall_mem_cons.mpr ⟨rfl, zs_nil⟩)⟩)⟩)⟩) ?_
      exact zt_X11_listen_J22 hlt hxt hX hr hR hd ⟨by omega, by omega⟩ h
    · rw [if_neg c15] at h
      refine zw_iconst (v := (1 : Int32)) hX dX11_listen_18 (by decide) ?_
      refine zw_goto (tgt := 23) hX dX11_listen_19 (by decide) ?_
      refine zw_sub (lv' := [(0, .ref a0), (1, .int i1), (2, .int i2), (3, .int i3)]) (List.forall_mem_cons.mpr ⟨rfl, (List.forall_mem_cons.mpr ⟨rfl, (List.forall_mem_cons.mpr ⟨rfl, (List.forall_mem_cons.mpr ⟨rfl, zs_nil⟩)⟩)⟩)⟩) ?_
      exact zt_X11_listen_J23 hlt hxt hX hr hR hd ⟨by omega, by omega⟩ h
set_option maxHeartbeats 4000000 in
set_option maxRecDepth 100000 in
theorem zt_X11_busy {l : Launch} {V : zm_V} (hlt : l.stackTraces = false) {N : Nat} {S : zm_S} {out : ((Int32 ⊕ String) × zm_S)} {d : Nat} {a0 : Nat} {i1 : Int32} {i2 : Int32} (hd : 7 ≤ d) (h : zf_X11_busy N a0 i1 i2 S = some out) : zm_Met l zk_E V yX11_busy (.code yX11_busy cX11_busy 3 (some .boolean)) d [.ref a0, .int i1, .int i2] S 2 12 (zq_i out) (zq_x out) := by
  refine zm_of (by decide +kernel) (Nat.le_of_ble_eq_true rfl) ?_
  intro p e R s m args below meth c hRR hX hr hxt
  have hR : R.frames = d ∧ R.locals = 64 * d := by rw [hRR]; exact ⟨rfl, rfl⟩
  have hX : zm_X p R s m args meth c RX11 "busy" cX11_busy 3 zk_E V 2 12 := hX
  unfold zf_X11_busy at h
  refine zw_sub (lv' := [(0, .ref a0), (1, .int i1), (2, .int i2)]) (List.forall_mem_cons.mpr ⟨rfl, (List.forall_mem_cons.mpr ⟨rfl, (List.forall_mem_cons.mpr ⟨rfl, zs_nil⟩)⟩)⟩) ?_
  refine zw_iload_n hX dX11_busy_0 rfl ?_
  obtain ⟨r2, g, h⟩ := zb_some h
  refine zc_Si (as := [.int i1]) hX (zt_X11_isStation (d := d - 1) (by omega) g) zl_X11_471 dX11_busy_1 ⟨rfl, rfl, Nat.le_of_ble_eq_true rfl⟩ ⟨by omega, by omega⟩ ?_
  obtain ⟨r, g, h⟩ := zb_some h
  refine zc_S (as := [.int r2.1]) hX (zt_X11_needArgument hlt (d := d - 1) (by omega) g) zl_X11_100 dX11_busy_4 ⟨rfl, rfl, Nat.le_of_ble_eq_true rfl⟩ ⟨by omega, by omega⟩ ⟨by omega, by omega⟩ ?_ ?_
  · rintro _ S4 ⟨⟨u3, rfl⟩, rfl⟩
    try dsimp only at h
    refine zw_aload_n hX dX11_busy_7 rfl ?_
    obtain ⟨v5, g, h⟩ := zb_some h
    refine zw_geti hX zl_X11_104 dX11_busy_8 g ?_
    obtain ⟨r, g, h⟩ := zb_some h
    refine zc_S (as := [.int v5]) hX (zt_X11_needState hlt (d := d - 1) (by omega) g) zl_X11_112 dX11_busy_11 ⟨rfl, rfl, Nat.le_of_ble_eq_true rfl⟩ ⟨by omega, by omega⟩ ⟨by omega, by omega⟩ ?_ ?_
    · rintro _ S7 ⟨⟨u6, rfl⟩, rfl⟩
      try dsimp only at h
      refine zw_aload_n hX dX11_busy_14 rfl ?_
      obtain ⟨b8, g, h⟩ := zb_some h
      refine zw_getr hX zl_X11_76 dX11_busy_15 g ?_
      refine zw_iload_n hX dX11_busy_18 rfl ?_
      refine zw_iload_n hX dX11_busy_19 rfl ?_
      obtain ⟨_, gi, h⟩ := zb_some h
      obtain ⟨r10, g, h⟩ := zb_some h
      refine zc_Vi (as := [.int i1, .int i2]) hX gi (zt_X1_setBusy (d := d - 1) (by omega) g) zl_X11_481 rfl dX11_busy_20 ⟨rfl, rfl, Nat.le_of_ble_eq_true rfl⟩ ⟨by omega, by omega⟩ ?_
      by_cases cz : r10.1 = 0 ∨ r10.1 = 1
      · rw [if_pos cz] at h
        obtain rfl := Option.some.inj h
        exact zw_iret hX hr dX11_busy_23 (zn_z cz) ⟨_, rfl, rfl⟩
      · rw [if_neg cz] at h
        cases h
    · rintro X S9 rfl
      obtain rfl := Option.some.inj h
      exact zx_out hX hxt rfl
  · rintro X S9 rfl
    obtain rfl := Option.some.inj h
    exact zx_out hX hxt rfl
set_option maxHeartbeats 4000000 in
set_option maxRecDepth 100000 in
theorem zt_X11_send_J100 {p : Program} {l : Launch} {e : Env} {R : Room} {s : State} {m : MethodId} {args : Array Value} {below : List Frame} {meth : Method} {c : Code} {V : zm_V} {mc ms d rc rs : Nat} (hlt : l.stackTraces = false) (hxt : ∀ x ∈ c.exceptionTable.toList, False) (hX : zm_X p R s m args meth c RX11 "send" cX11_send 7 zk_E V mc ms) (hr : meth.sig.returnType = (some .int)) (hR : R.frames = d ∧ R.locals = 64 * d) (hd : 7 ≤ d) {N : Nat} {a0 : Nat} {i1 : Int32} {i2 : Int32} {i3 : Int32} {i4 : Int32} {i5 : Int32} {i6 : Int32} {t0 : Int32} {out : ((Int32 ⊕ String) × zm_S)} (hc : 1 ≤ rc ∧ 6 ≤ rs) {S : zm_S} (h : zf_X11_send_J100 N a0 i1 i2 i3 i4 i5 i6 t0 S = some out) : zw p l e R s m args below meth c (vx_MQ below (zm_Qc zk_E V (zq_i out)) (zm_XC zk_E V (zq_x out)) args s mc ms (fun q => V.2.2.2.1 ≤ q)) 7 zk_E V mc ms 100 [(0, .ref a0), (1, .int i1), (2, .int i2), (3, .int i3), (4, .int i4), (5, .int i5), (6, .int i6)] [.int t0] S rc rs := by
  unfold zf_X11_send_J100 at h
  obtain ⟨r, g, h⟩ := zb_some h
  refine zc_S (as := [.int t0]) hX (zt_X11_needState hlt (d := d - 1) (by omega) g) zl_X11_112 dX11_send_100 ⟨rfl, rfl, Nat.le_of_ble_eq_true rfl⟩ ⟨by omega, by omega⟩ ⟨by omega, by omega⟩ ?_ ?_
  · rintro _ S11 ⟨⟨u10, rfl⟩, rfl⟩
    try dsimp only at h
    refine zw_aload_n hX dX11_send_103 rfl ?_
    obtain ⟨b12, g, h⟩ := zb_some h
    refine zw_getr hX zl_X11_76 dX11_send_104 g ?_
    refine zw_iload_n hX dX11_send_107 rfl ?_
    refine zw_iload_n hX dX11_send_108 rfl ?_
    refine zw_iload_n hX dX11_send_109 rfl ?_
    refine zw_iload hX dX11_send_110 rfl ?_
    refine zw_iload hX dX11_send_112 rfl ?_
    refine zw_iload hX dX11_send_114 rfl ?_
    obtain ⟨_, gi, h⟩ := zb_some h
    obtain ⟨r14, g, h⟩ := zb_some h
    refine zc_Vi (as := [.int i1, .int i2, .int i3, .int i4, .int i5, .int i6]) hX gi (zt_X1_enqueue (d := d - 1) (by omega) g) zl_X11_487 rfl dX11_send_116 ⟨rfl, rfl, Nat.le_of_ble_eq_true rfl⟩ ⟨by omega, by omega⟩ ?_
    obtain rfl := Option.some.inj h
    exact zw_iret hX hr dX11_send_119 rfl ⟨_, rfl, rfl⟩
  · rintro X S9 rfl
    obtain rfl := Option.some.inj h
    exact zx_out hX hxt rfl
set_option maxHeartbeats 4000000 in
set_option maxRecDepth 100000 in
theorem zt_X11_send_J99 {p : Program} {l : Launch} {e : Env} {R : Room} {s : State} {m : MethodId} {args : Array Value} {below : List Frame} {meth : Method} {c : Code} {V : zm_V} {mc ms d rc rs : Nat} (hlt : l.stackTraces = false) (hxt : ∀ x ∈ c.exceptionTable.toList, False) (hX : zm_X p R s m args meth c RX11 "send" cX11_send 7 zk_E V mc ms) (hr : meth.sig.returnType = (some .int)) (hR : R.frames = d ∧ R.locals = 64 * d) (hd : 7 ≤ d) {N : Nat} {a0 : Nat} {i1 : Int32} {i2 : Int32} {i3 : Int32} {i4 : Int32} {i5 : Int32} {i6 : Int32} {out : ((Int32 ⊕ String) × zm_S)} (hc : 1 ≤ rc ∧ 6 ≤ rs) {S : zm_S} (h : zf_X11_send_J99 N a0 i1 i2 i3 i4 i5 i6 S = some out) : zw p l e R s m args below meth c (vx_MQ below (zm_Qc zk_E V (zq_i out)) (zm_XC zk_E V (zq_x out)) args s mc ms (fun q => V.2.2.2.1 ≤ q)) 7 zk_E V mc ms 99 [(0, .ref a0), (1, .int i1), (2, .int i2), (3, .int i3), (4, .int i4), (5, .int i5), (6, .int i6)] [] S rc rs := by
  unfold zf_X11_send_J99 at h
  refine zw_iconst (v := (0 : Int32)) hX dX11_send_99 (by decide) ?_
  refine zw_sub (lv' := [(0, .ref a0), (1, .int i1), (2, .int i2), (3, .int i3), (4, .int i4), (5, .int i5), (6, .int i6)]) (List.forall_mem_cons.mpr ⟨rfl, (List.forall_mem_cons.mpr ⟨rfl, (List.forall_mem_cons.mpr ⟨rfl, (List.forall_mem_cons.mpr ⟨rfl, (List.forall_mem_cons.mpr ⟨rfl, (List.forall_mem_cons.mpr ⟨rfl, (List.forall_mem_cons.mpr ⟨rfl, zs_nil⟩)⟩)⟩)⟩)⟩)⟩)⟩) ?_
  exact zt_X11_send_J100 hlt hxt hX hr hR hd ⟨by omega, by omega⟩ h
set_option maxHeartbeats 4000000 in
set_option maxRecDepth 100000 in
theorem zt_X11_send_J74 {p : Program} {l : Launch} {e : Env} {R : Room} {s : State} {m : MethodId} {args : Array Value} {below : List Frame} {meth : Method} {c : Code} {V : zm_V} {mc ms d rc rs : Nat} (hlt : l.stackTraces = false) (hxt : ∀ x ∈ c.exceptionTable.toList, False) (hX : zm_X p R s m args meth c RX11 "send" cX11_send 7 zk_E V mc ms) (hr : meth.sig.returnType = (some .int)) (hR : R.frames = d ∧ R.locals = 64 * d) (hd : 7 ≤ d) {N : Nat} {a0 : Nat} {i1 : Int32} {i2 : Int32} {i3 : Int32} {i4 : Int32} {i5 : Int32} {i6 : Int32} {t0 : Int32} {out : ((Int32 ⊕ String) × zm_S)} (hc : 2 ≤ rc ∧ 12 ≤ rs) {S : zm_S} (h : zf_X11_send_J74 N a0 i1 i2 i3 i4 i5 i6 t0 S = some out) : zw p l e R s m args below meth c (vx_MQ below (zm_Qc zk_E V (zq_i out)) (zm_XC zk_E V (zq_x out)) args s mc ms (fun q => V.2.2.2.1 ≤ q)) 7 zk_E V mc ms 74 [(0, .ref a0), (1, .int i1), (2, .int i2), (3, .int i3), (4, .int i4), (5, .int i5), (6, .int i6)] [.int t0] S rc rs := by
  unfold zf_X11_send_J74 at h
  obtain ⟨r, g, h⟩ := zb_some h
  refine zc_S (as := [.int t0]) hX (zt_X11_needArgument hlt (d := d - 1) (by omega) g) zl_X11_100 dX11_send_74 ⟨rfl, rfl, Nat.le_of_ble_eq_true rfl⟩ ⟨by omega, by omega⟩ ⟨by omega, by omega⟩ ?_ ?_
  · rintro _ S8 ⟨⟨u7, rfl⟩, rfl⟩
    try dsimp only at h
    refine zw_aload_n hX dX11_send_77 rfl ?_
    obtain ⟨v9, g, h⟩ := zb_some h
    refine zw_geti hX zl_X11_104 dX11_send_78 g ?_
    refine zw_if_eq (tgt := 99) hX dX11_send_81 (by decide) (fun c81 => ?_) (fun c81 => ?_)
    · rw [if_pos c81] at h
      refine zw_sub (lv' := [(0, .ref a0), (1, .int i1), (2, .int i2), (3, .int i3), (4, .int i4), (5, .int i5), (6, .int i6)]) (List.forall_mem_cons.mpr ⟨rfl, (List.forall_mem_cons.mpr ⟨rfl, (List.forall_mem_cons.mpr ⟨rfl, (List.forall_mem_cons.mpr ⟨rfl, (List.forall_mem_cons.mpr ⟨rfl, (List.forall_mem_cons.mpr ⟨rfl, (List.forall_mem_cons.mpr ⟨rfl, zs_nil⟩)⟩)⟩)⟩)⟩)⟩)⟩) ?_
      exact zt_X11_send_J99 hlt hxt hX hr hR hd ⟨by omega, by omega⟩ h
    · rw [if_neg c81] at h
      refine zw_aload_n hX dX11_send_84 rfl ?_
      obtain ⟨b15, g, h⟩ := zb_some h
      refine zw_getr hX zl_X11_76 dX11_send_85 g ?_
      refine zw_iload_n hX dX11_send_88 rfl ?_
      obtain ⟨_, gi, h⟩ := zb_some h
      obtain ⟨r17, g, h⟩ := zb_some h
      refine zc_Vi (as := [.int i1]) hX gi (zt_X1_hasRoomInQueue (d := d - 1) (by omega) g) zl_X11_484 rfl dX11_send_89 ⟨rfl, rfl, Nat.le_of_ble_eq_true rfl⟩ ⟨by omega, by omega⟩ ?_
      refine zw_if_eq (tgt := 99) hX dX11_send_92 (by decide) (fun c92 => ?_) (fun c92 => ?_)
      · rw [if_pos c92] at h
        refine zw_sub (lv' := [(0, .ref a0), (1, .int i1), (2, .int i2), (3, .int i3), (4, .int i4), (5, .int i5), (6, .int i6)]) (List.forall_mem_cons.mpr ⟨rfl, (List.forall_mem_cons.mpr ⟨rfl, (List.forall_mem_cons.mpr ⟨rfl, (List.forall_mem_cons.mpr ⟨rfl, (List.forall_mem_cons.mpr ⟨rfl, (List.forall_mem_cons.mpr ⟨rfl, (List.forall_mem_cons.mpr ⟨rfl, zs_nil⟩)⟩)⟩)⟩)⟩)⟩)⟩) ?_
        exact zt_X11_send_J99 hlt hxt hX hr hR hd ⟨by omega, by omega⟩ h
      · rw [if_neg c92] at h
        refine zw_iconst (v := (1 : Int32)) hX dX11_send_95 (by decide) ?_
        refine zw_goto (tgt := 100) hX dX11_send_96 (by decide) ?_
        refine zw_sub (lv' := [(0, .ref a0), (1, .int i1), (2, .int i2), (3, .int i3), (4, .int i4), (5, .int i5), (6, .int i6)]) (List.forall_mem_cons.mpr ⟨rfl, (List.forall_mem_cons.mpr ⟨rfl, (List.forall_mem_cons.mpr ⟨rfl, (List.forall_mem_cons.mpr ⟨rfl, (List.forall_mem_cons.mpr ⟨rfl, (List.forall_mem_cons.mpr ⟨rfl, (List.forall_mem_cons.mpr ⟨rfl, zs_nil⟩)⟩)⟩)⟩)⟩)⟩)⟩) ?_
        exact zt_X11_send_J100 hlt hxt hX hr hR hd ⟨by omega, by omega⟩ h
  · rintro X S9 rfl
    obtain rfl := Option.some.inj h
    exact zx_out hX hxt rfl
set_option maxHeartbeats 4000000 in
set_option maxRecDepth 100000 in
theorem zt_X11_send_J73 {p : Program} {l : Launch} {e : Env} {R : Room} {s : State} {m : MethodId} {args : Array Value} {below : List Frame} {meth : Method} {c : Code} {V : zm_V} {mc ms d rc rs : Nat} (hlt : l.stackTraces = false) (hxt : ∀ x ∈ c.exceptionTable.toList, False) (hX : zm_X p R s m args meth c RX11 "send" cX11_send 7 zk_E V mc ms) (hr : meth.sig.returnType = (some .int)) (hR : R.frames = d ∧ R.locals = 64 * d) (hd : 7 ≤ d) {N : Nat} {a0 : Nat} {i1 : Int32} {i2 : Int32} {i3 : Int32} {i4 : Int32} {i5 : Int32} {i6 : Int32} {out : ((Int32 ⊕ String) × zm_S)} (hc : 2 ≤ rc ∧ 12 ≤ rs) {S : zm_S} (h : zf_X11_send_J73 N a0 i1 i2 i3 i4 i5 i6 S = some out) : zw p l e R s m args below meth c (vx_MQ below (zm_Qc zk_E V (zq_i out)) (zm_XC zk_E V (zq_x out)) args s mc ms (fun q => V.2.2.2.1 ≤ q)) 7 zk_E V mc ms 73 [(0, .ref a0), (1, .int i1), (2, .int i2), (3, .int i3), (4, .int i4), (5, .int i5), (6, .int i6)] [] S rc rs := by
  unfold zf_X11_send_J73 at h
  refine zw_iconst (v := (0 : Int32)) hX dX11_send_73 (by decide) ?_
  refine zw_sub (lv' := [(0, .ref a0), (1, .int i1), (2, .int i2), (3, .int i3), (4, .int i4), (5, .int i5), (6, .int i6)]) (List.forall_mem_cons.mpr ⟨rfl, (List.forall_mem_cons.mpr ⟨rfl, (List.forall_mem_cons.mpr ⟨rfl, (List.forall_mem_cons.mpr ⟨rfl, (List.forall_mem_cons.mpr ⟨rfl, (List.forall_mem_cons.mpr ⟨rfl, (List.forall_mem_cons.mpr ⟨rfl, zs_nil⟩)⟩)⟩)⟩)⟩)⟩)⟩) ?_
  exact zt_X11_send_J74 hlt hxt hX hr hR hd ⟨by omega, by omega⟩ h
set_option maxHeartbeats 4000000 in
set_option maxRecDepth 100000 in
theorem zt_X11_send_J43 {p : Program} {l : Launch} {e : Env} {R : Room} {s : State} {m : MethodId} {args : Array Value} {below : List Frame} {meth : Method} {c : Code} {V : zm_V} {mc ms d rc rs : Nat} (hlt : l.stackTraces = false) (hxt : ∀ x ∈ c.exceptionTable.toList, False) (hX : zm_X p R s m args meth c RX11 "send" cX11_send 7 zk_E V mc ms) (hr : meth.sig.returnType = (some .int)) (hR : R.frames = d ∧ R.locals = 64 * d) (hd : 7 ≤ d) {N : Nat} {a0 : Nat} {i1 : Int32} {i2 : Int32} {i3 : Int32} {i4 : Int32} {i5 : Int32} {i6 : Int32} {t0 : Int32} {out : ((Int32 ⊕ String) × zm_S)} (hc : 3 ≤ rc ∧ 18 ≤ rs) {S : zm_S} (h : zf_X11_send_J43 N a0 i1 i2 i3 i4 i5 i6 t0 S = some out) : zw p l e R s m args below meth c (vx_MQ below (zm_Qc zk_E V (zq_i out)) (zm_XC zk_E V (zq_x out)) args s mc ms (fun q => V.2.2.2.1 ≤ q)) 7 zk_E V mc ms 43 [(0, .ref a0), (1, .int i1), (2, .int i2), (3, .int i3), (4, .int i4), (5, .int i5), (6, .int i6)] [.int t0] S rc rs := by
  unfold zf_X11_send_J43 at h
  obtain ⟨r, g, h⟩ := zb_some h
  refine zc_S (as := [.int t0]) hX (zt_X11_needArgument hlt (d := d - 1) (by omega) g) zl_X11_100 dX11_send_43 ⟨rfl, rfl, Nat.le_of_ble_eq_true rfl⟩ ⟨by omega, by omega⟩ ⟨by omega, by omega⟩ ?_ ?_
  · rintro _ S4 ⟨⟨u3, rfl⟩, rfl⟩
    try dsimp only at h
    refine zw_iload hX dX11_send_46 rfl ?_
    refine zw_iconst (v := (1 : Int32)) hX dX11_send_48 (by decide) ?_
    refine zw_bipush (v := (14 : Int32)) hX dX11_send_49 (by decide) ?_
    obtain ⟨r6, g, h⟩ := zb_some h
    refine zc_Si (as := [.int i5, .int (1 : Int32), .int (14 : Int32)]) hX (zt_X11_isWithin (d := d - 1) (by omega) g) zl_X11_133 dX11_send_51 ⟨rfl, rfl, Nat.le_of_ble_eq_true rfl⟩ ⟨by omega, by omega⟩ ?_
    refine zw_if_eq (tgt := 73) hX dX11_send_54 (by decide) (fun c54 => ?_) (fun c54 => ?_)
    · rw [if_pos c54] at h
      refine zw_sub (lv' := [(0, .ref a0), (1, .int i1), (2, .int i2), (3, .int i3), (4, .int i4), (5, .int i5), (6, .int i6)]) (List.forall_mem_cons.mpr ⟨rfl, (List.forall_mem_cons.mpr ⟨rfl, (List.forall_mem_cons.mpr ⟨rfl, (List.forall_mem_cons.mpr ⟨rfl, (List.forall_mem_cons.mpr ⟨rfl, (List.forall_mem_cons.mpr ⟨rfl, (List.forall_mem_cons.mpr ⟨rfl, zs_nil⟩)⟩)⟩)⟩)⟩)⟩)⟩) ?_
      exact zt_X11_send_J73 hlt hxt hX hr hR hd ⟨by omega, by omega⟩ h
    · rw [if_neg c54] at h
      refine zw_iload hX dX11_send_57 rfl ?_
      refine zw_iconst (v := (0 : Int32)) hX dX11_send_59 (by decide) ?_
      refine zw_sipush (v := (255 : Int32)) hX dX11_send_60 (by decide) ?_
      obtain ⟨r19, g, h⟩ := zb_some h
      refine zc_Si (as := [.int i6, .int (0 : Int32), .int (255 : Int32)]) hX (zt_X11_isWithin (d := d - 1) (by omega) g) zl_X11_133 dX11_send_63 ⟨rfl, rfl, Nat.le_of_ble_eq_true rfl⟩ ⟨by omega, by omega⟩ ?_
      refine zw_if_eq (tgt := 73) hX dX11_send_66 (by decide) (fun c66 => ?_) (fun c66 => ?_)
      · rw [if_pos c66] at h
        refine zw_sub (lv' := [(0, .ref a0), (1, .int i1), (2, .int i2), (3, .int i3), (4, .int i4), (5, .int i5), (6, .int i6)]) (List.forall_mem_cons.mpr ⟨rfl, (List.forall_mem_cons.mpr ⟨rfl, (List.forall_mem_cons.mpr ⟨rfl, (List.forall_mem_cons.mpr ⟨rfl, (List.forall_mem_cons.mpr ⟨rfl, (List.forall_mem_cons.mpr ⟨rfl, (List.forall_mem_cons.mpr ⟨rfl, zs_nil⟩)⟩)⟩)⟩)⟩)⟩)⟩) ?_
        exact zt_X11_send_J73 hlt hxt hX hr hR hd ⟨by omega, by omega⟩ h
      · rw [if_neg c66] at h
        refine zw_iconst (v := (1 : Int32)) hX dX11_send_69 (by decide) ?_
        refine zw_goto (tgt := 74) hX dX11_send_70 (by decide) ?_
        refine zw_sub (lv' := [(0, .ref a0), (1, .int i1), (2, .int i2), (3, .int i3), (4, .int i4), (5, .int i5), (6, .int i6)]) (List.forall_mem_cons.mpr ⟨rfl, (List.forall_mem_cons.mpr ⟨rfl, (List.forall_mem_cons.mpr ⟨rfl, (List.forall_mem_cons.mpr ⟨rfl, (List.forall_mem_cons.mpr ⟨rfl, (List.forall_mem_cons.mpr ⟨rfl, (List.forall_mem_cons.mpr ⟨rfl, zs_nil⟩)⟩)⟩)⟩)⟩)⟩)⟩) ?_
        exact zt_X11_send_J74 hlt hxt hX hr hR hd ⟨by omega, by omega⟩ h
  · rintro X S9 rfl
    obtain rfl := Option.some.inj h
    exact zx_out hX hxt rfl
set_option maxHeartbeats 4000000 in
set_option maxRecDepth 100000 in
theorem zt_X11_send_J42 {p : Program} {l : Launch} {e : Env} {R : Room} {s : State} {m : MethodId} {args : Array Value} {below : List Frame} {meth : Method} {c : Code} {V : zm_V} {mc ms d rc rs : Nat} (hlt : l.stackTraces = false) (hxt : ∀ x ∈ c.exceptionTable.toList, False) (hX : zm_X p R s m args meth c RX11 "send" cX11_send 7 zk_E V mc ms) (hr : meth.sig.returnType = (some .int)) (hR : R.frames = d ∧ R.locals = 64 * d) (hd : 7 ≤ d) {N : Nat} {a0 : Nat} {i1 : Int32} {i2 : Int32} {i3 : Int32} {i4 : Int32} {i5 : Int32} {i6 : Int32} {out : ((Int32 ⊕ String) × zm_S)} (hc : 3 ≤ rc ∧ 18 ≤ rs) {S : zm_S} (h : zf_X11_send_J42 N a0 i1 i2 i3 i4 i5 i6 S = some out) : zw p l e R s m args below meth c (vx_MQ below (zm_Qc zk_E V (zq_i out)) (zm_XC zk_E V (zq_x out)) args s mc ms (fun q => V.2.2.2.1 ≤ q)) 7 zk_E V mc ms 42 [(0, .ref a0), (1, .int i1), (2, .int i2), (3, .int i3), (4, .int i4), (5, .int i5), (6, .int i6)] [] S rc rs := by
  unfold zf_X11_send_J42 at h
  refine zw_iconst (v := (0 : Int32)) hX dX11_send_42 (by decide) ?_
  refine zw_sub (lv' := [(0, .ref a0), (1, .int i1), (2, .int i2), (3, .int i3), (4, .int i4), (5, .int i5), (6, .int i6)]) (List.forall_mem_cons.mpr ⟨rfl, (List.forall_mem_cons.mpr ⟨rfl, (List.forall_mem_cons.mpr ⟨rfl, (List.forall_mem_cons.mpr ⟨rfl, (List.forall_mem_cons.mpr ⟨rfl, (List.forall_mem_cons.mpr ⟨rfl, (List.forall_mem_cons.mpr ⟨rfl, zs_nil⟩)⟩)⟩)⟩)⟩)⟩)⟩) ?_
  exact zt_X11_send_J43 hlt hxt hX hr hR hd ⟨by omega, by omega⟩ h
set_option maxHeartbeats 4000000 in
set_option maxRecDepth 100000 in
theorem zt_X11_send_J32 {p : Program} {l : Launch} {e : Env} {R : Room} {s : State} {m : MethodId} {args : Array Value} {below : List Frame} {meth : Method} {c : Code} {V : zm_V} {mc ms d rc rs : Nat} (hlt : l.stackTraces = false) (hxt : ∀ x ∈ c.exceptionTable.toList, False) (hX : zm_X p R s m args meth c RX11 "send" cX11_send 7 zk_E V mc ms) (hr : meth.sig.returnType = (some .int)) (hR : R.frames = d ∧ R.locals = 64 * d) (hd : 7 ≤ d) {N : Nat} {a0 : Nat} {i1 : Int32} {i2 : Int32} {i3 : Int32} {i4 : Int32} {i5 : Int32} {i6 : Int32} {t0 : Int32} {t1 : Int32} {t2 : Int32} {out : ((Int32 ⊕ String) × zm_S)} (hc : 3 ≤ rc ∧ 18 ≤ rs) {S : zm_S} (h : zf_X11_send_J32 N a0 i1 i2 i3 i4 i5 i6 t0 t1 t2 S = some out) : zw p l e R s m args below meth c (vx_MQ below (zm_Qc zk_E V (zq_i out)) (zm_XC zk_E V (zq_x out)) args s mc ms (fun q => V.2.2.2.1 ≤ q)) 7 zk_E V mc ms 32 [(0, .ref a0), (1, .int i1), (2, .int i2), (3, .int i3), (4, .int i4), (5, .int i5), (6, .int i6)] [.int t2, .int t1, .int t0] S rc rs := by
  unfold zf_X11_send_J32 at h
  obtain ⟨r23, g, h⟩ := zb_some h
  refine zc_Si (as := [.int t0, .int t1, .int t2]) hX (zt_X11_isWithin (d := d - 1) (by omega) g) zl_X11_133 dX11_send_32 ⟨rfl, rfl, Nat.le_of_ble_eq_true rfl⟩ ⟨by omega, by omega⟩ ?_
  refine zw_if_eq (tgt := 42) hX dX11_send_35 (by decide) (fun c35 => ?_) (fun c35 => ?_)
  · rw [if_pos c35] at h
    refine zw_sub (lv' := [(0, .ref a0), (1, .int i1), (2, .int i2), (3, .int i3), (4, .int i4), (5, .int i5), (6, .int i6)]) (List.forall_mem_cons.mpr ⟨rfl, (List.forall_mem_cons.mpr ⟨rfl, (List.forall_mem_cons.mpr ⟨rfl, (List.forall_mem_cons.mpr ⟨rfl, (List.forall_mem_cons.mpr ⟨rfl, (List.forall_mem_cons.mpr ⟨rfl, (List.forall_mem_cons.mpr ⟨rfl, zs_nil⟩)⟩)⟩)⟩)⟩)⟩)⟩) ?_
    exact zt_X11_send_J42 hlt hxt hX hr hR hd ⟨by omega, by omega⟩ h
  · rw [if_neg c35] at h
    refine zw_iconst (v := (1 : Int32)) hX dX11_send_38 (by decide) ?_
    refine zw_goto (tgt := 43) hX dX11_send_39 (by decide) ?_
    refine zw_sub (lv' := [(0, .ref a0), (1, .int i1), (2, .int i2), (3, .int i3), (4, .int i4), (5, .int i5), (6, .int i6)]) (List.forall_mem_cons.mpr ⟨rfl, (List.forall_mem_cons.mpr ⟨rfl, (List.forall_mem_cons.mpr ⟨rfl, (List.forall_mem_cons.mpr ⟨rfl, (List.forall_mem_cons.mpr ⟨rfl, (List.forall_mem_cons.mpr ⟨rfl, (List.forall_mem_cons.mpr ⟨rfl, zs_nil⟩)⟩)⟩)⟩)⟩)⟩)⟩) ?_
    exact zt_X11_send_J43 hlt hxt hX hr hR hd ⟨by omega, by omega⟩ h
set_option maxHeartbeats 4000000 in
set_option maxRecDepth 100000 in
theorem zt_X11_send {l : Launch} {V : zm_V} (hlt : l.stackTraces = false) {N : Nat} {S : zm_S} {out : ((Int32 ⊕ String) × zm_S)} {d : Nat} {a0 : Nat} {i1 : Int32} {i2 : Int32} {i3 : Int32} {i4 : Int32} {i5 : Int32} {i6 : Int32} (hd : 7 ≤ d) (h : zf_X11_send N a0 i1 i2 i3 i4 i5 i6 S = some out) : zm_Met l zk_E V yX11_send (.code yX11_send cX11_send 7 (some .int)) d [.ref a0, .int i1, .int i2, .int i3, .int i4, .int i5, .int i6] S 3 18 (zq_i out) (zq_x out) := by
  refine zm_of (by decide +kernel) (Nat.le_of_ble_eq_true rfl) ?_
  intro p e R s m args below meth c hRR hX hr hxt
  have hR : R.frames = d ∧ R.locals = 64 * d := by rw [hRR]; exact ⟨rfl, rfl⟩
  have hX : zm_X p R s m args meth c RX11 "send" cX11_send 7 zk_E V 3 18 := hX
  unfold zf_X11_send at h
  refine zw_sub (lv' := [(0, .ref a0), (1, .int i1), (2, .int i2), (3, .int i3), (4, .int i4), (5, .int i5), (6, .int i6)]) (List.forall_mem_cons.mpr ⟨rfl, (List.forall_mem_cons.mpr ⟨rfl, (List.forall_mem_cons.mpr ⟨rfl, (List.forall_mem_cons.mpr ⟨rfl, (List.forall_mem_cons.mpr ⟨rfl, (List.forall_mem_cons.mpr ⟨rfl, (List.forall_mem_cons.mpr ⟨rfl, zs_nil⟩)⟩)⟩)⟩)⟩)⟩)⟩) ?_
  refine zw_iload_n hX dX11_send_0 rfl ?_
  obtain ⟨r2, g, h⟩ := zb_some h
  refine zc_Si (as := [.int i1]) hX (zt_X11_isStation (d := d - 1) (by omega) g) zl_X11_471 dX11_send_1 ⟨rfl, rfl, Nat.le_of_ble_eq_true rfl⟩ ⟨by omega, by omega⟩ ?_
  refine zw_if_eq (tgt := 42) hX dX11_send_4 (by decide) (fun c4 => ?_) (fun c4 => ?_)
  · rw [if_pos c4] at h
    refine zw_sub (lv' := [(0, .ref a0), (1, .int i1), (2, .int i2), (3, .int i3), (4, .int i4), (5, .int i5), (6, .int i6)]) (List.forall_mem_cons.mpr ⟨rfl, (List.forall_mem_cons.mpr ⟨rfl, (List.forall_mem_cons.mpr ⟨rfl, (List.forall_mem_cons.mpr ⟨rfl, (List.forall_mem_cons.mpr ⟨rfl, (List.forall_mem_cons.mpr ⟨rfl, (List.forall_mem_cons.mpr ⟨rfl, zs_nil⟩)⟩)⟩)⟩)⟩)⟩)⟩) ?_
    exact zt_X11_send_J42 hlt hxt hX hr hR hd ⟨by omega, by omega⟩ h
  · rw [if_neg c4] at h
    refine zw_iload_n hX dX11_send_7 rfl ?_
    refine zw_iconst (v := (0 : Int32)) hX dX11_send_8 (by decide) ?_
    refine zw_iconst (v := (3 : Int32)) hX dX11_send_9 (by decide) ?_
    obtain ⟨r21, g, h⟩ := zb_some h
    refine zc_Si (as := [.int i2, .int (0 : Int32), .int (3 : Int32)]) hX (zt_X11_isWithin (d := d - 1) (by omega) g) zl_X11_133 dX11_send_10 ⟨rfl, rfl, Nat.le_of_ble_eq_true rfl⟩ ⟨by omega, by omega⟩ ?_
    refine zw_if_eq (tgt := 42) hX dX11_send_13 (by decide) (fun c13 => ?_) (fun c13 => ?_)
    · rw [if_pos c13] at h
      refine zw_sub (lv' := [(0, .ref a0), (1, .int i1), (2, .int i2), (3, .int i3), (4, .int i4), (5, .int i5), (6, .int i6)]) (List.forall_mem_cons.mpr ⟨rfl, (List.forall_mem_cons.mpr ⟨rfl, (List.forall_mem_cons.mpr ⟨rfl, (List.forall_mem_cons.mpr ⟨rfl, (List.forall_mem_cons.mpr ⟨rfl, (List.forall_mem_cons.mpr ⟨rfl, (List.forall_mem_cons.mpr ⟨rfl, zs_nil⟩)⟩)⟩)⟩)⟩)⟩)⟩) ?_
      exact zt_X11_send_J42 hlt hxt hX hr hR hd ⟨by omega, by omega⟩ h
    · rw [if_neg c13] at h
      refine zw_iload_n hX dX11_send_16 rfl ?_
      refine zw_iconst (v := (0 : Int32)) hX dX11_send_17 (by decide) ?_
      refine zw_iload hX dX11_send_18 rfl ?_
      refine zw_if_eq (tgt := 29) hX dX11_send_20 (by decide) (fun c20 => ?_) (fun c20 => ?_)
      · rw [if_pos c20] at h
        refine zw_ldcw (v := (65535 : Int32)) hX dX11_send_29 zl_X11_474 ?_
        refine zw_sub (lv' := [(0, .ref a0), (1, .int i1), (2, .int i2), (3, .int i3), (4, .int i4), (5, .int i5), (6, .int i6)]) (List.forall_mem_cons.mpr ⟨rfl, (List.forall_mem_cons.mpr ⟨rfl, (List.forall_mem_cons.mpr ⟨rfl, (List.forall_mem_cons.mpr ⟨rfl, (List.forall_mem_cons.mpr ⟨rfl, (List.forall_mem_cons.mpr ⟨rfl, (List.forall_mem_cons.mpr ⟨rfl, zs_nil⟩)⟩)⟩)⟩)⟩)⟩)⟩) ?_
        exact zt_X11_send_J32 hlt hxt hX hr hR hd ⟨by omega, by omega⟩ h
      · rw [if_neg c20] at h
        refine zw_sipush (v := (255 : Int32)) hX dX11_send_23 (by decide) ?_
        refine zw_goto (tgt := 32) hX dX11_send_26 (by decide) ?_
        refine zw_sub (lv' := [(0, .ref a0), (1, .int i1), (2, .int i2), (3, .int i3), (4, .int i4), (5, .int i5), (6, .int i6)]) (List.forall_mem_cons.mpr ⟨rfl, (List.forall_mem_cons.mpr ⟨rfl, (List.forall_mem_cons.mpr ⟨rfl, (List.forall_mem_cons.mpr ⟨rfl, (List.forall_mem_cons.mpr ⟨rfl, (List.forall_mem_cons.mpr ⟨rfl, (List.forall_mem_cons.mpr ⟨rfl, zs_nil⟩)⟩)⟩)⟩)⟩)⟩)⟩) ?_
        exact zt_X11_send_J32 hlt hxt hX hr hR hd ⟨by omega, by omega⟩ h

