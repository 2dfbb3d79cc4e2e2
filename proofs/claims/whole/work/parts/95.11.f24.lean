/-! ===== functions of methods, by program (wip/whole/tools/gen11.py) ===== -/
theorem dX11_disturb_0 : decode cX11_disturb 0 = .ok (.iload_n 1, 1) := by decide +kernel
theorem dX11_disturb_1 : decode cX11_disturb 1 = .ok (.iconst 1, 1) := by decide +kernel
theorem dX11_disturb_2 : decode cX11_disturb 2 = .ok (.sipush 2000, 3) := by decide +kernel
theorem dX11_disturb_5 : decode cX11_disturb 5 = .ok (.invokestatic 133, 3) := by decide +kernel
theorem dX11_disturb_8 : decode cX11_disturb 8 = .ok (.invokestatic 100, 3) := by decide +kernel
theorem dX11_disturb_11 : decode cX11_disturb 11 = .ok (.aload_n 0, 1) := by decide +kernel
theorem dX11_disturb_12 : decode cX11_disturb 12 = .ok (.getfield 104, 3) := by decide +kernel
theorem dX11_disturb_15 : decode cX11_disturb 15 = .ok (.ifCond .eq 19, 3) := by decide +kernel
theorem dX11_disturb_34 : decode cX11_disturb 34 = .ok (.iconst 0, 1) := by decide +kernel
theorem dX11_disturb_35 : decode cX11_disturb 35 = .ok (.invokestatic 112, 3) := by decide +kernel
theorem dX11_disturb_38 : decode cX11_disturb 38 = .ok (.aload_n 0, 1) := by decide +kernel
theorem dX11_disturb_39 : decode cX11_disturb 39 = .ok (.getfield 76, 3) := by decide +kernel
theorem dX11_disturb_42 : decode cX11_disturb 42 = .ok (.iload_n 1, 1) := by decide +kernel
theorem dX11_disturb_43 : decode cX11_disturb 43 = .ok (.invokevirtual 494, 3) := by decide +kernel
theorem dX11_disturb_46 : decode cX11_disturb 46 = .ok (.ireturn, 1) := by decide +kernel
theorem dX11_disturb_18 : decode cX11_disturb 18 = .ok (.aload_n 0, 1) := by decide +kernel
theorem dX11_disturb_19 : decode cX11_disturb 19 = .ok (.getfield 76, 3) := by decide +kernel
theorem dX11_disturb_22 : decode cX11_disturb 22 = .ok (.getfield 491, 3) := by decide +kernel
theorem dX11_disturb_25 : decode cX11_disturb 25 = .ok (.bipush 50, 2) := by decide +kernel
theorem dX11_disturb_27 : decode cX11_disturb 27 = .ok (.if_icmp .ge 7, 3) := by decide +kernel
theorem dX11_disturb_30 : decode cX11_disturb 30 = .ok (.iconst 1, 1) := by decide +kernel
theorem dX11_disturb_31 : decode cX11_disturb 31 = .ok (.goto 4, 3) := by decide +kernel
theorem dX11_station_0 : decode cX11_station 0 = .ok (.iload_n 1, 1) := by decide +kernel
theorem dX11_station_1 : decode cX11_station 1 = .ok (.invokestatic 471, 3) := by decide +kernel
theorem dX11_station_4 : decode cX11_station 4 = .ok (.ifCond .eq 16, 3) := by decide +kernel
theorem dX11_station_20 : decode cX11_station 20 = .ok (.iconst 0, 1) := by decide +kernel
theorem dX11_station_21 : decode cX11_station 21 = .ok (.invokestatic 100, 3) := by decide +kernel
theorem dX11_station_24 : decode cX11_station 24 = .ok (.aload_n 0, 1) := by decide +kernel
theorem dX11_station_25 : decode cX11_station 25 = .ok (.getfield 104, 3) := by decide +kernel
theorem dX11_station_28 : decode cX11_station 28 = .ok (.invokestatic 112, 3) := by decide +kernel
theorem dX11_station_31 : decode cX11_station 31 = .ok (.aload_n 0, 1) := by decide +kernel
theorem dX11_station_32 : decode cX11_station 32 = .ok (.getfield 76, 3) := by decide +kernel
theorem dX11_station_35 : decode cX11_station 35 = .ok (.iload_n 1, 1) := by decide +kernel
theorem dX11_station_36 : decode cX11_station 36 = .ok (.iload_n 2, 1) := by decide +kernel
theorem dX11_station_37 : decode cX11_station 37 = .ok (.invokevirtual 497, 3) := by decide +kernel
theorem dX11_station_40 : decode cX11_station 40 = .ok (.ireturn, 1) := by decide +kernel
theorem dX11_station_7 : decode cX11_station 7 = .ok (.iload_n 2, 1) := by decide +kernel
theorem dX11_station_8 : decode cX11_station 8 = .ok (.iconst 0, 1) := by decide +kernel
theorem dX11_station_9 : decode cX11_station 9 = .ok (.iconst 5, 1) := by decide +kernel
theorem dX11_station_10 : decode cX11_station 10 = .ok (.invokestatic 133, 3) := by decide +kernel
theorem dX11_station_13 : decode cX11_station 13 = .ok (.ifCond .eq 7, 3) := by decide +kernel
theorem dX11_station_16 : decode cX11_station 16 = .ok (.iconst 1, 1) := by decide +kernel
theorem dX11_station_17 : decode cX11_station 17 = .ok (.goto 4, 3) := by decide +kernel
theorem dX11_heard_0 : decode cX11_heard 0 = .ok (.iload_n 1, 1) := by decide +kernel
theorem dX11_heard_1 : decode cX11_heard 1 = .ok (.iconst 0, 1) := by decide +kernel
theorem dX11_heard_2 : decode cX11_heard 2 = .ok (.iconst 4, 1) := by decide +kernel
theorem dX11_heard_3 : decode cX11_heard 3 = .ok (.invokestatic 133, 3) := by decide +kernel
theorem dX11_heard_6 : decode cX11_heard 6 = .ok (.invokestatic 100, 3) := by decide +kernel
theorem dX11_heard_9 : decode cX11_heard 9 = .ok (.aload_n 0, 1) := by decide +kernel
theorem dX11_heard_10 : decode cX11_heard 10 = .ok (.getfield 104, 3) := by decide +kernel
theorem dX11_heard_13 : decode cX11_heard 13 = .ok (.invokestatic 112, 3) := by decide +kernel
theorem dX11_heard_16 : decode cX11_heard 16 = .ok (.aload_n 0, 1) := by decide +kernel
theorem dX11_heard_17 : decode cX11_heard 17 = .ok (.getfield 76, 3) := by decide +kernel
theorem dX11_heard_20 : decode cX11_heard 20 = .ok (.getfield 500, 3) := by decide +kernel
theorem dX11_heard_23 : decode cX11_heard 23 = .ok (.iload_n 1, 1) := by decide +kernel
theorem dX11_heard_24 : decode cX11_heard 24 = .ok (.iaload, 1) := by decide +kernel
theorem dX11_heard_25 : decode cX11_heard 25 = .ok (.ireturn, 1) := by decide +kernel
theorem dX11_byteAt_0 : decode cX11_byteAt 0 = .ok (.iload_n 1, 1) := by decide +kernel
theorem dX11_byteAt_1 : decode cX11_byteAt 1 = .ok (.iconst (-1), 1) := by decide +kernel
theorem dX11_byteAt_2 : decode cX11_byteAt 2 = .ok (.aload_n 0, 1) := by decide +kernel
theorem dX11_byteAt_3 : decode cX11_byteAt 3 = .ok (.getfield 76, 3) := by decide +kernel
theorem dX11_byteAt_6 : decode cX11_byteAt 6 = .ok (.getfield 503, 3) := by decide +kernel
theorem dX11_byteAt_9 : decode cX11_byteAt 9 = .ok (.iconst 1, 1) := by decide +kernel
theorem dX11_byteAt_10 : decode cX11_byteAt 10 = .ok (.isub, 1) := by decide +kernel
theorem dX11_byteAt_11 : decode cX11_byteAt 11 = .ok (.invokestatic 133, 3) := by decide +kernel
theorem dX11_byteAt_14 : decode cX11_byteAt 14 = .ok (.invokestatic 100, 3) := by decide +kernel
theorem dX11_byteAt_17 : decode cX11_byteAt 17 = .ok (.aload_n 0, 1) := by decide +kernel
theorem dX11_byteAt_18 : decode cX11_byteAt 18 = .ok (.getfield 104, 3) := by decide +kernel
theorem dX11_byteAt_21 : decode cX11_byteAt 21 = .ok (.invokestatic 112, 3) := by decide +kernel
theorem dX11_byteAt_24 : decode cX11_byteAt 24 = .ok (.iload_n 1, 1) := by decide +kernel
theorem dX11_byteAt_25 : decode cX11_byteAt 25 = .ok (.iconst (-1), 1) := by decide +kernel
theorem dX11_byteAt_26 : decode cX11_byteAt 26 = .ok (.if_icmp .ne 13, 3) := by decide +kernel
theorem dX11_byteAt_39 : decode cX11_byteAt 39 = .ok (.aload_n 0, 1) := by decide +kernel
theorem dX11_byteAt_40 : decode cX11_byteAt 40 = .ok (.getfield 76, 3) := by decide +kernel
theorem dX11_byteAt_43 : decode cX11_byteAt 43 = .ok (.getfield 509, 3) := by decide +kernel
theorem dX11_byteAt_46 : decode cX11_byteAt 46 = .ok (.iload_n 1, 1) := by decide +kernel
theorem dX11_byteAt_47 : decode cX11_byteAt 47 = .ok (.iaload, 1) := by decide +kernel
theorem dX11_byteAt_48 : decode cX11_byteAt 48 = .ok (.ireturn, 1) := by decide +kernel
theorem dX11_byteAt_29 : decode cX11_byteAt 29 = .ok (.aload_n 0, 1) := by decide +kernel
theorem dX11_byteAt_30 : decode cX11_byteAt 30 = .ok (.getfield 76, 3) := by decide +kernel
theorem dX11_byteAt_33 : decode cX11_byteAt 33 = .ok (.getfield 506, 3) := by decide +kernel
theorem dX11_byteAt_36 : decode cX11_byteAt 36 = .ok (.goto 12, 3) := by decide +kernel
theorem dX11_isFloor_0 : decode cX11_isFloor 0 = .ok (.iload_n 0, 1) := by decide +kernel
theorem dX11_isFloor_1 : decode cX11_isFloor 1 = .ok (.iconst 0, 1) := by decide +kernel
theorem dX11_isFloor_2 : decode cX11_isFloor 2 = .ok (.bipush 59, 2) := by decide +kernel
theorem dX11_isFloor_4 : decode cX11_isFloor 4 = .ok (.invokestatic 133, 3) := by decide +kernel
theorem dX11_isFloor_7 : decode cX11_isFloor 7 = .ok (.ireturn, 1) := by decide +kernel
theorem dX11_car_0 : decode cX11_car 0 = .ok (.iload_n 1, 1) := by decide +kernel
theorem dX11_car_1 : decode cX11_car 1 = .ok (.invokestatic 512, 3) := by decide +kernel
theorem dX11_car_4 : decode cX11_car 4 = .ok (.ifCond .eq 16, 3) := by decide +kernel
theorem dX11_car_20 : decode cX11_car 20 = .ok (.iconst 0, 1) := by decide +kernel
theorem dX11_car_21 : decode cX11_car 21 = .ok (.invokestatic 100, 3) := by decide +kernel
theorem dX11_car_24 : decode cX11_car 24 = .ok (.aload_n 0, 1) := by decide +kernel
theorem dX11_car_25 : decode cX11_car 25 = .ok (.getfield 104, 3) := by decide +kernel
theorem dX11_car_28 : decode cX11_car 28 = .ok (.ifCond .eq 18, 3) := by decide +kernel
theorem dX11_car_46 : decode cX11_car 46 = .ok (.iconst 0, 1) := by decide +kernel
theorem dX11_car_47 : decode cX11_car 47 = .ok (.invokestatic 112, 3) := by decide +kernel
theorem dX11_car_50 : decode cX11_car 50 = .ok (.aload_n 0, 1) := by decide +kernel
theorem dX11_car_51 : decode cX11_car 51 = .ok (.getfield 92, 3) := by decide +kernel
theorem dX11_car_54 : decode cX11_car 54 = .ok (.iload_n 1, 1) := by decide +kernel
theorem dX11_car_55 : decode cX11_car 55 = .ok (.iload_n 2, 1) := by decide +kernel
theorem dX11_car_56 : decode cX11_car 56 = .ok (.invokevirtual 518, 3) := by decide +kernel
theorem dX11_car_59 : decode cX11_car 59 = .ok (.ireturn, 1) := by decide +kernel
theorem dX11_car_31 : decode cX11_car 31 = .ok (.aload_n 0, 1) := by decide +kernel
theorem dX11_car_32 : decode cX11_car 32 = .ok (.getfield 92, 3) := by decide +kernel
theorem dX11_car_35 : decode cX11_car 35 = .ok (.getfield 515, 3) := by decide +kernel
theorem dX11_car_38 : decode cX11_car 38 = .ok (.iconst 4, 1) := by decide +kernel
theorem dX11_car_39 : decode cX11_car 39 = .ok (.if_icmp .ge 7, 3) := by decide +kernel
theorem dX11_car_42 : decode cX11_car 42 = .ok (.iconst 1, 1) := by decide +kernel
theorem dX11_car_43 : decode cX11_car 43 = .ok (.goto 4, 3) := by decide +kernel
theorem dX11_car_7 : decode cX11_car 7 = .ok (.iload_n 2, 1) := by decide +kernel
theorem dX11_car_8 : decode cX11_car 8 = .ok (.iconst 1, 1) := by decide +kernel
theorem dX11_car_9 : decode cX11_car 9 = .ok (.iconst 5, 1) := by decide +kernel
theorem dX11_car_10 : decode cX11_car 10 = .ok (.invokestatic 133, 3) := by decide +kernel
theorem dX11_car_13 : decode cX11_car 13 = .ok (.ifCond .eq 7, 3) := by decide +kernel
theorem dX11_car_16 : decode cX11_car 16 = .ok (.iconst 1, 1) := by decide +kernel
theorem dX11_car_17 : decode cX11_car 17 = .ok (.goto 4, 3) := by decide +kernel
theorem dX11_isCar_0 : decode cX11_isCar 0 = .ok (.iload_n 1, 1) := by decide +kernel
theorem dX11_isCar_1 : decode cX11_isCar 1 = .ok (.iconst 0, 1) := by decide +kernel
theorem dX11_isCar_2 : decode cX11_isCar 2 = .ok (.aload_n 0, 1) := by decide +kernel
theorem dX11_isCar_3 : decode cX11_isCar 3 = .ok (.getfield 92, 3) := by decide +kernel
theorem dX11_isCar_6 : decode cX11_isCar 6 = .ok (.getfield 515, 3) := by decide +kernel
theorem dX11_isCar_9 : decode cX11_isCar 9 = .ok (.iconst 1, 1) := by decide +kernel
theorem dX11_isCar_10 : decode cX11_isCar 10 = .ok (.isub, 1) := by decide +kernel
theorem dX11_isCar_11 : decode cX11_isCar 11 = .ok (.invokestatic 133, 3) := by decide +kernel
theorem dX11_isCar_14 : decode cX11_isCar 14 = .ok (.ireturn, 1) := by decide +kernel
theorem dX11_free_0 : decode cX11_free 0 = .ok (.aload_n 0, 1) := by decide +kernel
theorem dX11_free_1 : decode cX11_free 1 = .ok (.iload_n 1, 1) := by decide +kernel
theorem dX11_free_2 : decode cX11_free 2 = .ok (.invokevirtual 521, 3) := by decide +kernel
theorem dX11_free_5 : decode cX11_free 5 = .ok (.ifCond .eq 25, 3) := by decide +kernel
theorem dX11_free_30 : decode cX11_free 30 = .ok (.iconst 0, 1) := by decide +kernel
theorem dX11_free_31 : decode cX11_free 31 = .ok (.invokestatic 100, 3) := by decide +kernel
theorem dX11_free_34 : decode cX11_free 34 = .ok (.aload_n 0, 1) := by decide +kernel
theorem dX11_free_35 : decode cX11_free 35 = .ok (.getfield 104, 3) := by decide +kernel
theorem dX11_free_38 : decode cX11_free 38 = .ok (.invokestatic 112, 3) := by decide +kernel
theorem dX11_free_41 : decode cX11_free 41 = .ok (.aload_n 0, 1) := by decide +kernel
theorem dX11_free_42 : decode cX11_free 42 = .ok (.getfield 92, 3) := by decide +kernel
theorem dX11_free_45 : decode cX11_free 45 = .ok (.iload_n 1, 1) := by decide +kernel
theorem dX11_free_46 : decode cX11_free 46 = .ok (.iload_n 2, 1) := by decide +kernel
theorem dX11_free_47 : decode cX11_free 47 = .ok (.iload_n 3, 1) := by decide +kernel
theorem dX11_free_48 : decode cX11_free 48 = .ok (.invokevirtual 525, 3) := by decide +kernel
theorem dX11_free_51 : decode cX11_free 51 = .ok (.return_, 1) := by decide +kernel
theorem dX11_free_8 : decode cX11_free 8 = .ok (.iload_n 2, 1) := by decide +kernel
theorem dX11_free_9 : decode cX11_free 9 = .ok (.invokestatic 512, 3) := by decide +kernel
theorem dX11_free_12 : decode cX11_free 12 = .ok (.ifCond .eq 18, 3) := by decide +kernel
theorem dX11_free_15 : decode cX11_free 15 = .ok (.iload_n 3, 1) := by decide +kernel
theorem dX11_free_16 : decode cX11_free 16 = .ok (.iconst 0, 1) := by decide +kernel
theorem dX11_free_17 : decode cX11_free 17 = .ok (.ldc_w 524, 3) := by decide +kernel
theorem dX11_free_20 : decode cX11_free 20 = .ok (.invokestatic 133, 3) := by decide +kernel
theorem dX11_free_23 : decode cX11_free 23 = .ok (.ifCond .eq 7, 3) := by decide +kernel
theorem dX11_free_26 : decode cX11_free 26 = .ok (.iconst 1, 1) := by decide +kernel
theorem dX11_free_27 : decode cX11_free 27 = .ok (.goto 4, 3) := by decide +kernel
theorem dX11_span_0 : decode cX11_span 0 = .ok (.aload_n 0, 1) := by decide +kernel
theorem dX11_span_1 : decode cX11_span 1 = .ok (.iload_n 1, 1) := by decide +kernel
theorem dX11_span_2 : decode cX11_span 2 = .ok (.invokevirtual 521, 3) := by decide +kernel
theorem dX11_span_5 : decode cX11_span 5 = .ok (.ifCond .eq 26, 3) := by decide +kernel
theorem dX11_span_31 : decode cX11_span 31 = .ok (.iconst 0, 1) := by decide +kernel
theorem dX11_span_32 : decode cX11_span 32 = .ok (.invokestatic 100, 3) := by decide +kernel
theorem dX11_span_35 : decode cX11_span 35 = .ok (.aload_n 0, 1) := by decide +kernel
theorem dX11_span_36 : decode cX11_span 36 = .ok (.getfield 104, 3) := by decide +kernel
theorem dX11_span_39 : decode cX11_span 39 = .ok (.invokestatic 112, 3) := by decide +kernel
theorem dX11_span_42 : decode cX11_span 42 = .ok (.aload_n 0, 1) := by decide +kernel
theorem dX11_span_43 : decode cX11_span 43 = .ok (.getfield 92, 3) := by decide +kernel
theorem dX11_span_46 : decode cX11_span 46 = .ok (.iload_n 1, 1) := by decide +kernel
theorem dX11_span_47 : decode cX11_span 47 = .ok (.iload_n 2, 1) := by decide +kernel
theorem dX11_span_48 : decode cX11_span 48 = .ok (.iload_n 3, 1) := by decide +kernel
theorem dX11_span_49 : decode cX11_span 49 = .ok (.invokevirtual 529, 3) := by decide +kernel
theorem dX11_span_52 : decode cX11_span 52 = .ok (.return_, 1) := by decide +kernel
theorem dX11_span_8 : decode cX11_span 8 = .ok (.iload_n 2, 1) := by decide +kernel
theorem dX11_span_9 : decode cX11_span 9 = .ok (.invokestatic 512, 3) := by decide +kernel
theorem dX11_span_12 : decode cX11_span 12 = .ok (.ifCond .eq 19, 3) := by decide +kernel
theorem dX11_span_15 : decode cX11_span 15 = .ok (.iload_n 3, 1) := by decide +kernel
theorem dX11_span_16 : decode cX11_span 16 = .ok (.invokestatic 512, 3) := by decide +kernel
theorem dX11_span_19 : decode cX11_span 19 = .ok (.ifCond .eq 12, 3) := by decide +kernel
theorem dX11_span_22 : decode cX11_span 22 = .ok (.iload_n 2, 1) := by decide +kernel
theorem dX11_span_23 : decode cX11_span 23 = .ok (.iload_n 3, 1) := by decide +kernel
theorem dX11_span_24 : decode cX11_span 24 = .ok (.if_icmp .gt 7, 3) := by decide +kernel
theorem dX11_span_27 : decode cX11_span 27 = .ok (.iconst 1, 1) := by decide +kernel
theorem dX11_span_28 : decode cX11_span 28 = .ok (.goto 4, 3) := by decide +kernel
theorem dX11_call_0 : decode cX11_call 0 = .ok (.iload_n 1, 1) := by decide +kernel
theorem dX11_call_1 : decode cX11_call 1 = .ok (.invokestatic 512, 3) := by decide +kernel
theorem dX11_call_4 : decode cX11_call 4 = .ok (.ifCond .eq 19, 3) := by decide +kernel
theorem dX11_call_23 : decode cX11_call 23 = .ok (.iconst 0, 1) := by decide +kernel
theorem dX11_call_24 : decode cX11_call 24 = .ok (.invokestatic 100, 3) := by decide +kernel
theorem dX11_call_27 : decode cX11_call 27 = .ok (.aload_n 0, 1) := by decide +kernel
theorem dX11_call_28 : decode cX11_call 28 = .ok (.getfield 104, 3) := by decide +kernel
theorem dX11_call_31 : decode cX11_call 31 = .ok (.ifCond .eq 32, 3) := by decide +kernel
theorem dX11_call_63 : decode cX11_call 63 = .ok (.iconst 0, 1) := by decide +kernel
theorem dX11_call_64 : decode cX11_call 64 = .ok (.invokestatic 112, 3) := by decide +kernel
theorem dX11_call_67 : decode cX11_call 67 = .ok (.aload_n 0, 1) := by decide +kernel
theorem dX11_call_68 : decode cX11_call 68 = .ok (.getfield 92, 3) := by decide +kernel
theorem dX11_call_71 : decode cX11_call 71 = .ok (.iload_n 1, 1) := by decide +kernel
theorem dX11_call_72 : decode cX11_call 72 = .ok (.iload_n 2, 1) := by decide +kernel
theorem dX11_call_73 : decode cX11_call 73 = .ok (.aload_n 0, 1) := by decide +kernel
theorem dX11_call_74 : decode cX11_call 74 = .ok (.getfield 312, 3) := by decide +kernel
theorem dX11_call_77 : decode cX11_call 77 = .ok (.invokevirtual 538, 3) := by decide +kernel
theorem dX11_call_80 : decode cX11_call 80 = .ok (.ireturn, 1) := by decide +kernel
theorem dX11_call_34 : decode cX11_call 34 = .ok (.aload_n 0, 1) := by decide +kernel
theorem dX11_call_35 : decode cX11_call 35 = .ok (.getfield 92, 3) := by decide +kernel
theorem dX11_call_38 : decode cX11_call 38 = .ok (.getfield 532, 3) := by decide +kernel
theorem dX11_call_41 : decode cX11_call 41 = .ok (.bipush 6, 2) := by decide +kernel
theorem dX11_call_43 : decode cX11_call 43 = .ok (.if_icmp .ge 20, 3) := by decide +kernel
theorem dX11_call_46 : decode cX11_call 46 = .ok (.aload_n 0, 1) := by decide +kernel
theorem dX11_call_47 : decode cX11_call 47 = .ok (.getfield 92, 3) := by decide +kernel
theorem dX11_call_50 : decode cX11_call 50 = .ok (.getfield 535, 3) := by decide +kernel
theorem dX11_call_53 : decode cX11_call 53 = .ok (.sipush 400, 3) := by decide +kernel
theorem dX11_call_56 : decode cX11_call 56 = .ok (.if_icmp .ge 7, 3) := by decide +kernel
theorem dX11_call_59 : decode cX11_call 59 = .ok (.iconst 1, 1) := by decide +kernel
theorem dX11_call_60 : decode cX11_call 60 = .ok (.goto 4, 3) := by decide +kernel
theorem dX11_call_7 : decode cX11_call 7 = .ok (.iload_n 2, 1) := by decide +kernel
theorem dX11_call_8 : decode cX11_call 8 = .ok (.invokestatic 512, 3) := by decide +kernel
theorem dX11_call_11 : decode cX11_call 11 = .ok (.ifCond .eq 12, 3) := by decide +kernel
theorem dX11_call_14 : decode cX11_call 14 = .ok (.iload_n 1, 1) := by decide +kernel
theorem dX11_call_15 : decode cX11_call 15 = .ok (.iload_n 2, 1) := by decide +kernel
theorem dX11_call_16 : decode cX11_call 16 = .ok (.if_icmp .eq 7, 3) := by decide +kernel
theorem dX11_call_19 : decode cX11_call 19 = .ok (.iconst 1, 1) := by decide +kernel
theorem dX11_call_20 : decode cX11_call 20 = .ok (.goto 4, 3) := by decide +kernel
theorem dX11_begin_0 : decode cX11_begin 0 = .ok (.aload_n 0, 1) := by decide +kernel
theorem dX11_begin_1 : decode cX11_begin 1 = .ok (.getfield 92, 3) := by decide +kernel
theorem dX11_begin_4 : decode cX11_begin 4 = .ok (.iload_n 1, 1) := by decide +kernel
theorem dX11_begin_5 : decode cX11_begin 5 = .ok (.invokevirtual 541, 3) := by decide +kernel
theorem dX11_begin_8 : decode cX11_begin 8 = .ok (.ifCond .eq 20, 3) := by decide +kernel
theorem dX11_begin_28 : decode cX11_begin 28 = .ok (.iconst 0, 1) := by decide +kernel
theorem dX11_begin_29 : decode cX11_begin 29 = .ok (.invokestatic 100, 3) := by decide +kernel
theorem dX11_begin_32 : decode cX11_begin 32 = .ok (.aload_n 0, 1) := by decide +kernel
theorem dX11_begin_33 : decode cX11_begin 33 = .ok (.getfield 104, 3) := by decide +kernel
theorem dX11_begin_36 : decode cX11_begin 36 = .ok (.invokestatic 112, 3) := by decide +kernel
theorem dX11_begin_39 : decode cX11_begin 39 = .ok (.aload_n 0, 1) := by decide +kernel
theorem dX11_begin_40 : decode cX11_begin 40 = .ok (.getfield 92, 3) := by decide +kernel
theorem dX11_begin_43 : decode cX11_begin 43 = .ok (.iload_n 1, 1) := by decide +kernel
theorem dX11_begin_44 : decode cX11_begin 44 = .ok (.iload_n 2, 1) := by decide +kernel
theorem dX11_begin_45 : decode cX11_begin 45 = .ok (.invokevirtual 544, 3) := by decide +kernel
theorem dX11_begin_48 : decode cX11_begin 48 = .ok (.ireturn, 1) := by decide +kernel
theorem dX11_begin_11 : decode cX11_begin 11 = .ok (.iload_n 2, 1) := by decide +kernel
theorem dX11_begin_12 : decode cX11_begin 12 = .ok (.iconst (-1), 1) := by decide +kernel
theorem dX11_begin_13 : decode cX11_begin 13 = .ok (.if_icmp .eq 11, 3) := by decide +kernel
theorem dX11_begin_24 : decode cX11_begin 24 = .ok (.iconst 1, 1) := by decide +kernel
theorem dX11_begin_25 : decode cX11_begin 25 = .ok (.goto 4, 3) := by decide +kernel
theorem dX11_begin_16 : decode cX11_begin 16 = .ok (.aload_n 0, 1) := by decide +kernel
theorem dX11_begin_17 : decode cX11_begin 17 = .ok (.iload_n 2, 1) := by decide +kernel
theorem dX11_begin_18 : decode cX11_begin 18 = .ok (.invokevirtual 521, 3) := by decide +kernel
theorem dX11_begin_21 : decode cX11_begin 21 = .ok (.ifCond .eq 7, 3) := by decide +kernel
theorem dX11_done_0 : decode cX11_done 0 = .ok (.aload_n 0, 1) := by decide +kernel
theorem dX11_done_1 : decode cX11_done 1 = .ok (.getfield 92, 3) := by decide +kernel
theorem dX11_done_4 : decode cX11_done 4 = .ok (.iload_n 1, 1) := by decide +kernel
theorem dX11_done_5 : decode cX11_done 5 = .ok (.invokevirtual 541, 3) := by decide +kernel
theorem dX11_done_8 : decode cX11_done 8 = .ok (.invokestatic 100, 3) := by decide +kernel
theorem dX11_done_11 : decode cX11_done 11 = .ok (.aload_n 0, 1) := by decide +kernel
theorem dX11_done_12 : decode cX11_done 12 = .ok (.getfield 104, 3) := by decide +kernel
theorem dX11_done_15 : decode cX11_done 15 = .ok (.invokestatic 112, 3) := by decide +kernel
theorem dX11_done_18 : decode cX11_done 18 = .ok (.aload_n 0, 1) := by decide +kernel
theorem dX11_done_19 : decode cX11_done 19 = .ok (.getfield 92, 3) := by decide +kernel
theorem dX11_done_22 : decode cX11_done 22 = .ok (.iload_n 1, 1) := by decide +kernel
theorem dX11_done_23 : decode cX11_done 23 = .ok (.invokevirtual 547, 3) := by decide +kernel
theorem dX11_done_26 : decode cX11_done 26 = .ok (.return_, 1) := by decide +kernel
theorem dX11_isHome_0 : decode cX11_isHome 0 = .ok (.aload_n 0, 1) := by decide +kernel
theorem dX11_isHome_1 : decode cX11_isHome 1 = .ok (.getfield 85, 3) := by decide +kernel
theorem dX11_isHome_4 : decode cX11_isHome 4 = .ok (.iconst 1, 1) := by decide +kernel
theorem dX11_isHome_5 : decode cX11_isHome 5 = .ok (.invokevirtual 617, 3) := by decide +kernel
theorem dX11_isHome_8 : decode cX11_isHome 8 = .ok (.ireturn, 1) := by decide +kernel
theorem dX11_give_0 : decode cX11_give 0 = .ok (.aload_n 0, 1) := by decide +kernel
theorem dX11_give_1 : decode cX11_give 1 = .ok (.getfield 104, 3) := by decide +kernel
theorem dX11_give_4 : decode cX11_give 4 = .ok (.invokestatic 112, 3) := by decide +kernel
theorem dX11_give_7 : decode cX11_give 7 = .ok (.aload_n 0, 1) := by decide +kernel
theorem dX11_give_8 : decode cX11_give 8 = .ok (.getfield 92, 3) := by decide +kernel
theorem dX11_give_11 : decode cX11_give 11 = .ok (.aload_n 0, 1) := by decide +kernel
theorem dX11_give_12 : decode cX11_give 12 = .ok (.getfield 312, 3) := by decide +kernel
theorem dX11_give_15 : decode cX11_give 15 = .ok (.aload_n 0, 1) := by decide +kernel
theorem dX11_give_16 : decode cX11_give 16 = .ok (.invokevirtual 550, 3) := by decide +kernel
theorem dX11_give_19 : decode cX11_give 19 = .ok (.invokevirtual 553, 3) := by decide +kernel
theorem dX11_give_22 : decode cX11_give 22 = .ok (.lreturn, 1) := by decide +kernel
theorem dX11_given_0 : decode cX11_given 0 = .ok (.iload_n 1, 1) := by decide +kernel
theorem dX11_given_1 : decode cX11_given 1 = .ok (.iconst 0, 1) := by decide +kernel
theorem dX11_given_2 : decode cX11_given 2 = .ok (.aload_n 0, 1) := by decide +kernel
theorem dX11_given_3 : decode cX11_given 3 = .ok (.getfield 92, 3) := by decide +kernel
theorem dX11_given_6 : decode cX11_given 6 = .ok (.getfield 535, 3) := by decide +kernel
theorem dX11_given_9 : decode cX11_given 9 = .ok (.iconst 1, 1) := by decide +kernel
theorem dX11_given_10 : decode cX11_given 10 = .ok (.isub, 1) := by decide +kernel
theorem dX11_given_11 : decode cX11_given 11 = .ok (.invokestatic 133, 3) := by decide +kernel
theorem dX11_given_14 : decode cX11_given 14 = .ok (.ifCond .eq 16, 3) := by decide +kernel
theorem dX11_given_30 : decode cX11_given 30 = .ok (.iconst 0, 1) := by decide +kernel
theorem dX11_given_31 : decode cX11_given 31 = .ok (.invokestatic 100, 3) := by decide +kernel
theorem dX11_given_34 : decode cX11_given 34 = .ok (.aload_n 0, 1) := by decide +kernel
theorem dX11_given_35 : decode cX11_given 35 = .ok (.getfield 104, 3) := by decide +kernel
theorem dX11_given_38 : decode cX11_given 38 = .ok (.invokestatic 112, 3) := by decide +kernel
theorem dX11_given_41 : decode cX11_given 41 = .ok (.aload_n 0, 1) := by decide +kernel
theorem dX11_given_42 : decode cX11_given 42 = .ok (.getfield 92, 3) := by decide +kernel
theorem dX11_given_45 : decode cX11_given 45 = .ok (.getfield 557, 3) := by decide +kernel
theorem dX11_given_48 : decode cX11_given 48 = .ok (.iload_n 1, 1) := by decide +kernel
theorem dX11_given_49 : decode cX11_given 49 = .ok (.aaload, 1) := by decide +kernel
theorem dX11_given_50 : decode cX11_given 50 = .ok (.iload_n 2, 1) := by decide +kernel
theorem dX11_given_51 : decode cX11_given 51 = .ok (.iaload, 1) := by decide +kernel
theorem dX11_given_52 : decode cX11_given 52 = .ok (.ireturn, 1) := by decide +kernel
theorem dX11_given_17 : decode cX11_given 17 = .ok (.iload_n 2, 1) := by decide +kernel
theorem dX11_given_18 : decode cX11_given 18 = .ok (.iconst 0, 1) := by decide +kernel
theorem dX11_given_19 : decode cX11_given 19 = .ok (.iconst 3, 1) := by decide +kernel
theorem dX11_given_20 : decode cX11_given 20 = .ok (.invokestatic 133, 3) := by decide +kernel
theorem dX11_given_23 : decode cX11_given 23 = .ok (.ifCond .eq 7, 3) := by decide +kernel
theorem dX11_given_26 : decode cX11_given 26 = .ok (.iconst 1, 1) := by decide +kernel
theorem dX11_given_27 : decode cX11_given 27 = .ok (.goto 4, 3) := by decide +kernel
theorem dX11_fire_0 : decode cX11_fire 0 = .ok (.iload_n 1, 1) := by decide +kernel
theorem dX11_fire_1 : decode cX11_fire 1 = .ok (.iload_n 2, 1) := by decide +kernel
theorem dX11_fire_2 : decode cX11_fire 2 = .ok (.invokestatic 179, 3) := by decide +kernel
theorem dX11_fire_5 : decode cX11_fire 5 = .ok (.invokestatic 100, 3) := by decide +kernel
theorem dX11_fire_8 : decode cX11_fire 8 = .ok (.aload_n 0, 1) := by decide +kernel
theorem dX11_fire_9 : decode cX11_fire 9 = .ok (.getfield 104, 3) := by decide +kernel
theorem dX11_fire_12 : decode cX11_fire 12 = .ok (.invokestatic 112, 3) := by decide +kernel
theorem dX11_fire_15 : decode cX11_fire 15 = .ok (.aload_n 0, 1) := by decide +kernel
theorem dX11_fire_16 : decode cX11_fire 16 = .ok (.getfield 44, 3) := by decide +kernel
theorem dX11_fire_19 : decode cX11_fire 19 = .ok (.iload_n 1, 1) := by decide +kernel
theorem dX11_fire_20 : decode cX11_fire 20 = .ok (.iload_n 2, 1) := by decide +kernel
theorem dX11_fire_21 : decode cX11_fire 21 = .ok (.invokestatic 560, 3) := by decide +kernel
theorem dX11_fire_24 : decode cX11_fire 24 = .ok (.invokevirtual 563, 3) := by decide +kernel
theorem dX11_fire_27 : decode cX11_fire 27 = .ok (.ireturn, 1) := by decide +kernel
theorem dX11_cell_0 : decode cX11_cell 0 = .ok (.iload_n 1, 1) := by decide +kernel
theorem dX11_cell_1 : decode cX11_cell 1 = .ok (.iload_n 2, 1) := by decide +kernel
theorem dX11_cell_2 : decode cX11_cell 2 = .ok (.invokestatic 179, 3) := by decide +kernel
theorem dX11_cell_5 : decode cX11_cell 5 = .ok (.ifCond .eq 16, 3) := by decide +kernel
theorem dX11_cell_21 : decode cX11_cell 21 = .ok (.iconst 0, 1) := by decide +kernel
theorem dX11_cell_22 : decode cX11_cell 22 = .ok (.invokestatic 100, 3) := by decide +kernel
theorem dX11_cell_25 : decode cX11_cell 25 = .ok (.aload_n 0, 1) := by decide +kernel
theorem dX11_cell_26 : decode cX11_cell 26 = .ok (.getfield 104, 3) := by decide +kernel
theorem dX11_cell_29 : decode cX11_cell 29 = .ok (.invokestatic 112, 3) := by decide +kernel
theorem dX11_cell_32 : decode cX11_cell 32 = .ok (.aload_n 0, 1) := by decide +kernel
theorem dX11_cell_33 : decode cX11_cell 33 = .ok (.getfield 44, 3) := by decide +kernel
theorem dX11_cell_36 : decode cX11_cell 36 = .ok (.iload_n 1, 1) := by decide +kernel
theorem dX11_cell_37 : decode cX11_cell 37 = .ok (.iload_n 2, 1) := by decide +kernel
theorem dX11_cell_38 : decode cX11_cell 38 = .ok (.invokestatic 560, 3) := by decide +kernel
theorem dX11_cell_41 : decode cX11_cell 41 = .ok (.iload_n 3, 1) := by decide +kernel
theorem dX11_cell_42 : decode cX11_cell 42 = .ok (.invokevirtual 566, 3) := by decide +kernel
theorem dX11_cell_45 : decode cX11_cell 45 = .ok (.ireturn, 1) := by decide +kernel
theorem dX11_cell_8 : decode cX11_cell 8 = .ok (.iload_n 3, 1) := by decide +kernel
theorem dX11_cell_9 : decode cX11_cell 9 = .ok (.iconst 0, 1) := by decide +kernel
theorem dX11_cell_10 : decode cX11_cell 10 = .ok (.iconst 2, 1) := by decide +kernel
theorem dX11_cell_11 : decode cX11_cell 11 = .ok (.invokestatic 133, 3) := by decide +kernel
theorem dX11_cell_14 : decode cX11_cell 14 = .ok (.ifCond .eq 7, 3) := by decide +kernel
theorem dX11_cell_17 : decode cX11_cell 17 = .ok (.iconst 1, 1) := by decide +kernel
theorem dX11_cell_18 : decode cX11_cell 18 = .ok (.goto 4, 3) := by decide +kernel
theorem dX11_doPersonsLeave_0 : decode cX11_doPersonsLeave 0 = .ok (.aload_n 0, 1) := by decide +kernel
theorem dX11_doPersonsLeave_1 : decode cX11_doPersonsLeave 1 = .ok (.getfield 85, 3) := by decide +kernel
theorem dX11_doPersonsLeave_4 : decode cX11_doPersonsLeave 4 = .ok (.iconst 4, 1) := by decide +kernel
theorem dX11_doPersonsLeave_5 : decode cX11_doPersonsLeave 5 = .ok (.invokevirtual 617, 3) := by decide +kernel
theorem dX11_doPersonsLeave_8 : decode cX11_doPersonsLeave 8 = .ok (.ireturn, 1) := by decide +kernel
theorem dX11_passSecond_0 : decode cX11_passSecond 0 = .ok (.aload_n 0, 1) := by decide +kernel
theorem dX11_passSecond_1 : decode cX11_passSecond 1 = .ok (.dup, 1) := by decide +kernel
theorem dX11_passSecond_2 : decode cX11_passSecond 2 = .ok (.getfield 312, 3) := by decide +kernel
theorem dX11_passSecond_5 : decode cX11_passSecond 5 = .ok (.iconst 1, 1) := by decide +kernel
theorem dX11_passSecond_6 : decode cX11_passSecond 6 = .ok (.iadd, 1) := by decide +kernel
theorem dX11_passSecond_7 : decode cX11_passSecond 7 = .ok (.putfield 312, 3) := by decide +kernel
theorem dX11_passSecond_10 : decode cX11_passSecond 10 = .ok (.aload_n 0, 1) := by decide +kernel
theorem dX11_passSecond_11 : decode cX11_passSecond 11 = .ok (.getfield 44, 3) := by decide +kernel
theorem dX11_passSecond_14 : decode cX11_passSecond 14 = .ok (.aload_n 0, 1) := by decide +kernel
theorem dX11_passSecond_15 : decode cX11_passSecond 15 = .ok (.getfield 312, 3) := by decide +kernel
theorem dX11_passSecond_18 : decode cX11_passSecond 18 = .ok (.invokevirtual 584, 3) := by decide +kernel
theorem dX11_passSecond_21 : decode cX11_passSecond 21 = .ok (.iconst 0, 1) := by decide +kernel
theorem dX11_passSecond_22 : decode cX11_passSecond 22 = .ok (.istore_n 1, 1) := by decide +kernel
theorem dX11_passSecond_23 : decode cX11_passSecond 23 = .ok (.iload_n 1, 1) := by decide +kernel
theorem dX11_passSecond_24 : decode cX11_passSecond 24 = .ok (.aload_n 0, 1) := by decide +kernel
theorem dX11_passSecond_25 : decode cX11_passSecond 25 = .ok (.getfield 21, 3) := by decide +kernel
theorem dX11_passSecond_28 : decode cX11_passSecond 28 = .ok (.getfield 154, 3) := by decide +kernel
theorem dX11_passSecond_31 : decode cX11_passSecond 31 = .ok (.if_icmp .ge 41, 3) := by decide +kernel
theorem dX11_passSecond_34 : decode cX11_passSecond 34 = .ok (.iload_n 1, 1) := by decide +kernel
theorem dX11_passSecond_35 : decode cX11_passSecond 35 = .ok (.bipush 40, 2) := by decide +kernel
theorem dX11_passSecond_37 : decode cX11_passSecond 37 = .ok (.if_icmp .ge 35, 3) := by decide +kernel
theorem dX11_passSecond_40 : decode cX11_passSecond 40 = .ok (.aload_n 0, 1) := by decide +kernel
theorem dX11_passSecond_41 : decode cX11_passSecond 41 = .ok (.getfield 85, 3) := by decide +kernel
theorem dX11_passSecond_44 : decode cX11_passSecond 44 = .ok (.getfield 383, 3) := by decide +kernel
theorem dX11_passSecond_47 : decode cX11_passSecond 47 = .ok (.iload_n 1, 1) := by decide +kernel
theorem dX11_passSecond_48 : decode cX11_passSecond 48 = .ok (.bipush 10, 2) := by decide +kernel
theorem dX11_passSecond_50 : decode cX11_passSecond 50 = .ok (.aload_n 0, 1) := by decide +kernel
theorem dX11_passSecond_51 : decode cX11_passSecond 51 = .ok (.getfield 44, 3) := by decide +kernel
theorem dX11_passSecond_54 : decode cX11_passSecond 54 = .ok (.getfield 587, 3) := by decide +kernel
theorem dX11_passSecond_57 : decode cX11_passSecond 57 = .ok (.iload_n 1, 1) := by decide +kernel
theorem dX11_passSecond_58 : decode cX11_passSecond 58 = .ok (.iaload, 1) := by decide +kernel
theorem dX11_passSecond_59 : decode cX11_passSecond 59 = .ok (.imul, 1) := by decide +kernel
theorem dX11_passSecond_60 : decode cX11_passSecond 60 = .ok (.bipush 100, 2) := by decide +kernel
theorem dX11_passSecond_62 : decode cX11_passSecond 62 = .ok (.invokestatic 590, 3) := by decide +kernel
theorem dX11_passSecond_65 : decode cX11_passSecond 65 = .ok (.iastore, 1) := by decide +kernel
theorem dX11_passSecond_66 : decode cX11_passSecond 66 = .ok (.iinc 1 1, 3) := by decide +kernel
theorem dX11_passSecond_69 : decode cX11_passSecond 69 = .ok (.goto (-46), 3) := by decide +kernel
theorem dX11_passSecond_72 : decode cX11_passSecond 72 = .ok (.iconst 0, 1) := by decide +kernel
theorem dX11_passSecond_73 : decode cX11_passSecond 73 = .ok (.istore_n 1, 1) := by decide +kernel
theorem dX11_passSecond_74 : decode cX11_passSecond 74 = .ok (.iload_n 1, 1) := by decide +kernel
theorem dX11_passSecond_75 : decode cX11_passSecond 75 = .ok (.aload_n 0, 1) := by decide +kernel
theorem dX11_passSecond_76 : decode cX11_passSecond 76 = .ok (.getfield 67, 3) := by decide +kernel
theorem dX11_passSecond_79 : decode cX11_passSecond 79 = .ok (.getfield 420, 3) := by decide +kernel
theorem dX11_passSecond_82 : decode cX11_passSecond 82 = .ok (.if_icmp .ge 34, 3) := by decide +kernel
theorem dX11_passSecond_85 : decode cX11_passSecond 85 = .ok (.aload_n 0, 1) := by decide +kernel
theorem dX11_passSecond_86 : decode cX11_passSecond 86 = .ok (.getfield 85, 3) := by decide +kernel
theorem dX11_passSecond_89 : decode cX11_passSecond 89 = .ok (.aload_n 0, 1) := by decide +kernel
theorem dX11_passSecond_90 : decode cX11_passSecond 90 = .ok (.getfield 67, 3) := by decide +kernel
theorem dX11_passSecond_93 : decode cX11_passSecond 93 = .ok (.getfield 454, 3) := by decide +kernel
theorem dX11_passSecond_96 : decode cX11_passSecond 96 = .ok (.iload_n 1, 1) := by decide +kernel
theorem dX11_passSecond_97 : decode cX11_passSecond 97 = .ok (.iaload, 1) := by decide +kernel
theorem dX11_passSecond_98 : decode cX11_passSecond 98 = .ok (.aload_n 0, 1) := by decide +kernel
theorem dX11_passSecond_99 : decode cX11_passSecond 99 = .ok (.getfield 67, 3) := by decide +kernel
theorem dX11_passSecond_102 : decode cX11_passSecond 102 = .ok (.getfield 595, 3) := by decide +kernel
theorem dX11_passSecond_105 : decode cX11_passSecond 105 = .ok (.iload_n 1, 1) := by decide +kernel
theorem dX11_passSecond_106 : decode cX11_passSecond 106 = .ok (.iaload, 1) := by decide +kernel
theorem dX11_passSecond_107 : decode cX11_passSecond 107 = .ok (.invokevirtual 598, 3) := by decide +kernel
theorem dX11_passSecond_110 : decode cX11_passSecond 110 = .ok (.iinc 1 1, 3) := by decide +kernel
theorem dX11_passSecond_113 : decode cX11_passSecond 113 = .ok (.goto (-39), 3) := by decide +kernel
theorem dX11_passSecond_116 : decode cX11_passSecond 116 = .ok (.aload_n 0, 1) := by decide +kernel
theorem dX11_passSecond_117 : decode cX11_passSecond 117 = .ok (.getfield 85, 3) := by decide +kernel
theorem dX11_passSecond_120 : decode cX11_passSecond 120 = .ok (.aload_n 0, 1) := by decide +kernel
theorem dX11_passSecond_121 : decode cX11_passSecond 121 = .ok (.getfield 312, 3) := by decide +kernel
theorem dX11_passSecond_124 : decode cX11_passSecond 124 = .ok (.invokevirtual 602, 3) := by decide +kernel
theorem dX11_passSecond_127 : decode cX11_passSecond 127 = .ok (.aload_n 0, 1) := by decide +kernel
theorem dX11_passSecond_128 : decode cX11_passSecond 128 = .ok (.getfield 67, 3) := by decide +kernel
theorem dX11_passSecond_131 : decode cX11_passSecond 131 = .ok (.getfield 457, 3) := by decide +kernel
theorem dX11_passSecond_134 : decode cX11_passSecond 134 = .ok (.iconst 0, 1) := by decide +kernel
theorem dX11_passSecond_135 : decode cX11_passSecond 135 = .ok (.aload_n 0, 1) := by decide +kernel
theorem dX11_passSecond_136 : decode cX11_passSecond 136 = .ok (.getfield 44, 3) := by decide +kernel
theorem dX11_passSecond_139 : decode cX11_passSecond 139 = .ok (.invokevirtual 572, 3) := by decide +kernel
theorem dX11_passSecond_142 : decode cX11_passSecond 142 = .ok (.iastore, 1) := by decide +kernel
theorem dX11_passSecond_143 : decode cX11_passSecond 143 = .ok (.aload_n 0, 1) := by decide +kernel
theorem dX11_passSecond_144 : decode cX11_passSecond 144 = .ok (.getfield 67, 3) := by decide +kernel
theorem dX11_passSecond_147 : decode cX11_passSecond 147 = .ok (.getfield 457, 3) := by decide +kernel
theorem dX11_passSecond_150 : decode cX11_passSecond 150 = .ok (.iconst 1, 1) := by decide +kernel
theorem dX11_passSecond_151 : decode cX11_passSecond 151 = .ok (.aload_n 0, 1) := by decide +kernel
theorem dX11_passSecond_152 : decode cX11_passSecond 152 = .ok (.getfield 85, 3) := by decide +kernel
theorem dX11_passSecond_155 : decode cX11_passSecond 155 = .ok (.invokevirtual 575, 3) := by decide +kernel
theorem dX11_passSecond_158 : decode cX11_passSecond 158 = .ok (.iastore, 1) := by decide +kernel
theorem dX11_passSecond_159 : decode cX11_passSecond 159 = .ok (.aload_n 0, 1) := by decide +kernel
theorem dX11_passSecond_160 : decode cX11_passSecond 160 = .ok (.getfield 67, 3) := by decide +kernel
theorem dX11_passSecond_163 : decode cX11_passSecond 163 = .ok (.getfield 457, 3) := by decide +kernel
theorem dX11_passSecond_166 : decode cX11_passSecond 166 = .ok (.iconst 2, 1) := by decide +kernel
theorem dX11_passSecond_167 : decode cX11_passSecond 167 = .ok (.aload_n 0, 1) := by decide +kernel
theorem dX11_passSecond_168 : decode cX11_passSecond 168 = .ok (.getfield 44, 3) := by decide +kernel
theorem dX11_passSecond_171 : decode cX11_passSecond 171 = .ok (.getfield 578, 3) := by decide +kernel
theorem dX11_passSecond_174 : decode cX11_passSecond 174 = .ok (.iastore, 1) := by decide +kernel
theorem dX11_passSecond_175 : decode cX11_passSecond 175 = .ok (.aload_n 0, 1) := by decide +kernel
theorem dX11_passSecond_176 : decode cX11_passSecond 176 = .ok (.getfield 67, 3) := by decide +kernel
theorem dX11_passSecond_179 : decode cX11_passSecond 179 = .ok (.getfield 457, 3) := by decide +kernel
theorem dX11_passSecond_182 : decode cX11_passSecond 182 = .ok (.iconst 3, 1) := by decide +kernel
theorem dX11_passSecond_183 : decode cX11_passSecond 183 = .ok (.aload_n 0, 1) := by decide +kernel
theorem dX11_passSecond_184 : decode cX11_passSecond 184 = .ok (.getfield 92, 3) := by decide +kernel
theorem dX11_passSecond_187 : decode cX11_passSecond 187 = .ok (.getfield 532, 3) := by decide +kernel
theorem dX11_passSecond_190 : decode cX11_passSecond 190 = .ok (.iastore, 1) := by decide +kernel
theorem dX11_passSecond_191 : decode cX11_passSecond 191 = .ok (.aload_n 0, 1) := by decide +kernel
theorem dX11_passSecond_192 : decode cX11_passSecond 192 = .ok (.getfield 67, 3) := by decide +kernel
theorem dX11_passSecond_195 : decode cX11_passSecond 195 = .ok (.aload_n 0, 1) := by decide +kernel
theorem dX11_passSecond_196 : decode cX11_passSecond 196 = .ok (.getfield 312, 3) := by decide +kernel
theorem dX11_passSecond_199 : decode cX11_passSecond 199 = .ok (.bipush 60, 2) := by decide +kernel
theorem dX11_passSecond_201 : decode cX11_passSecond 201 = .ok (.idiv, 1) := by decide +kernel
theorem dX11_passSecond_202 : decode cX11_passSecond 202 = .ok (.sipush 1440, 3) := by decide +kernel
theorem dX11_passSecond_205 : decode cX11_passSecond 205 = .ok (.irem, 1) := by decide +kernel
theorem dX11_passSecond_206 : decode cX11_passSecond 206 = .ok (.invokevirtual 605, 3) := by decide +kernel
theorem dX11_passSecond_209 : decode cX11_passSecond 209 = .ok (.iconst 0, 1) := by decide +kernel
theorem dX11_passSecond_210 : decode cX11_passSecond 210 = .ok (.istore_n 1, 1) := by decide +kernel
theorem dX11_passSecond_211 : decode cX11_passSecond 211 = .ok (.iload_n 1, 1) := by decide +kernel
theorem dX11_passSecond_212 : decode cX11_passSecond 212 = .ok (.bipush 30, 2) := by decide +kernel
theorem dX11_passSecond_214 : decode cX11_passSecond 214 = .ok (.if_icmp .ge 16, 3) := by decide +kernel
theorem dX11_passSecond_217 : decode cX11_passSecond 217 = .ok (.aload_n 0, 1) := by decide +kernel
theorem dX11_passSecond_218 : decode cX11_passSecond 218 = .ok (.getfield 76, 3) := by decide +kernel
theorem dX11_passSecond_221 : decode cX11_passSecond 221 = .ok (.invokevirtual 608, 3) := by decide +kernel
theorem dX11_passSecond_224 : decode cX11_passSecond 224 = .ok (.iinc 1 1, 3) := by decide +kernel
theorem dX11_passSecond_227 : decode cX11_passSecond 227 = .ok (.goto (-16), 3) := by decide +kernel
theorem dX11_passSecond_230 : decode cX11_passSecond 230 = .ok (.aload_n 0, 1) := by decide +kernel
theorem dX11_passSecond_231 : decode cX11_passSecond 231 = .ok (.getfield 44, 3) := by decide +kernel
theorem dX11_passSecond_234 : decode cX11_passSecond 234 = .ok (.aload_n 0, 1) := by decide +kernel
theorem dX11_passSecond_235 : decode cX11_passSecond 235 = .ok (.getfield 312, 3) := by decide +kernel
theorem dX11_passSecond_238 : decode cX11_passSecond 238 = .ok (.invokevirtual 611, 3) := by decide +kernel
theorem dX11_passSecond_241 : decode cX11_passSecond 241 = .ok (.aload_n 0, 1) := by decide +kernel
theorem dX11_passSecond_242 : decode cX11_passSecond 242 = .ok (.invokevirtual 581, 3) := by decide +kernel
theorem dX11_passSecond_245 : decode cX11_passSecond 245 = .ok (.ifCond .eq 14, 3) := by decide +kernel
theorem dX11_passSecond_259 : decode cX11_passSecond 259 = .ok (.return_, 1) := by decide +kernel
theorem dX11_passSecond_248 : decode cX11_passSecond 248 = .ok (.aload_n 0, 1) := by decide +kernel
theorem dX11_passSecond_249 : decode cX11_passSecond 249 = .ok (.getfield 44, 3) := by decide +kernel
theorem dX11_passSecond_252 : decode cX11_passSecond 252 = .ok (.aload_n 0, 1) := by decide +kernel
theorem dX11_passSecond_253 : decode cX11_passSecond 253 = .ok (.getfield 312, 3) := by decide +kernel
theorem dX11_passSecond_256 : decode cX11_passSecond 256 = .ok (.invokevirtual 614, 3) := by decide +kernel
theorem dX11_pass_0 : decode cX11_pass 0 = .ok (.iload_n 1, 1) := by decide +kernel
theorem dX11_pass_1 : decode cX11_pass 1 = .ok (.iconst 1, 1) := by decide +kernel
theorem dX11_pass_2 : decode cX11_pass 2 = .ok (.bipush 60, 2) := by decide +kernel
theorem dX11_pass_4 : decode cX11_pass 4 = .ok (.invokestatic 133, 3) := by decide +kernel
theorem dX11_pass_7 : decode cX11_pass 7 = .ok (.invokestatic 100, 3) := by decide +kernel
theorem dX11_pass_10 : decode cX11_pass 10 = .ok (.aload_n 0, 1) := by decide +kernel
theorem dX11_pass_11 : decode cX11_pass 11 = .ok (.getfield 104, 3) := by decide +kernel
theorem dX11_pass_14 : decode cX11_pass 14 = .ok (.ifCond .eq 19, 3) := by decide +kernel
theorem dX11_pass_33 : decode cX11_pass 33 = .ok (.iconst 0, 1) := by decide +kernel
theorem dX11_pass_34 : decode cX11_pass 34 = .ok (.invokestatic 112, 3) := by decide +kernel
theorem dX11_pass_37 : decode cX11_pass 37 = .ok (.iconst 0, 1) := by decide +kernel
theorem dX11_pass_38 : decode cX11_pass 38 = .ok (.istore_n 2, 1) := by decide +kernel
theorem dX11_pass_39 : decode cX11_pass 39 = .ok (.iload_n 2, 1) := by decide +kernel
theorem dX11_pass_40 : decode cX11_pass 40 = .ok (.iload_n 1, 1) := by decide +kernel
theorem dX11_pass_41 : decode cX11_pass 41 = .ok (.if_icmp .ge 13, 3) := by decide +kernel
theorem dX11_pass_44 : decode cX11_pass 44 = .ok (.aload_n 0, 1) := by decide +kernel
theorem dX11_pass_45 : decode cX11_pass 45 = .ok (.invokevirtual 569, 3) := by decide +kernel
theorem dX11_pass_48 : decode cX11_pass 48 = .ok (.iinc 2 1, 3) := by decide +kernel
theorem dX11_pass_51 : decode cX11_pass 51 = .ok (.goto (-12), 3) := by decide +kernel
theorem dX11_pass_54 : decode cX11_pass 54 = .ok (.aload_n 0, 1) := by decide +kernel
theorem dX11_pass_55 : decode cX11_pass 55 = .ok (.getfield 312, 3) := by decide +kernel
theorem dX11_pass_58 : decode cX11_pass 58 = .ok (.ireturn, 1) := by decide +kernel
theorem dX11_pass_17 : decode cX11_pass 17 = .ok (.aload_n 0, 1) := by decide +kernel
theorem dX11_pass_18 : decode cX11_pass 18 = .ok (.getfield 312, 3) := by decide +kernel
theorem dX11_pass_21 : decode cX11_pass 21 = .ok (.iload_n 1, 1) := by decide +kernel
theorem dX11_pass_22 : decode cX11_pass 22 = .ok (.iadd, 1) := by decide +kernel
theorem dX11_pass_23 : decode cX11_pass 23 = .ok (.sipush 6000, 3) := by decide +kernel
theorem dX11_pass_26 : decode cX11_pass 26 = .ok (.if_icmp .gt 7, 3) := by decide +kernel
theorem dX11_pass_29 : decode cX11_pass 29 = .ok (.iconst 1, 1) := by decide +kernel
theorem dX11_pass_30 : decode cX11_pass 30 = .ok (.goto 4, 3) := by decide +kernel
theorem dX11_told_0 : decode cX11_told 0 = .ok (.iload_n 1, 1) := by decide +kernel
theorem dX11_told_1 : decode cX11_told 1 = .ok (.iconst 0, 1) := by decide +kernel
theorem dX11_told_2 : decode cX11_told 2 = .ok (.bipush 8, 2) := by decide +kernel
theorem dX11_told_4 : decode cX11_told 4 = .ok (.invokestatic 133, 3) := by decide +kernel
theorem dX11_told_7 : decode cX11_told 7 = .ok (.invokestatic 100, 3) := by decide +kernel
theorem dX11_told_10 : decode cX11_told 10 = .ok (.aload_n 0, 1) := by decide +kernel
theorem dX11_told_11 : decode cX11_told 11 = .ok (.getfield 104, 3) := by decide +kernel
theorem dX11_told_14 : decode cX11_told 14 = .ok (.invokestatic 112, 3) := by decide +kernel
theorem dX11_told_17 : decode cX11_told 17 = .ok (.iload_n 1, 1) := by decide +kernel
theorem dX11_told_18 : decode cX11_told 18 = .ok (.tableswitch 125 0 7 #[46, 54, 62, 70, 78, 86, 99, 112], 46) := by decide +kernel
theorem dX11_told_143 : decode cX11_told 143 = .ok (.aload_n 0, 1) := by decide +kernel
theorem dX11_told_144 : decode cX11_told 144 = .ok (.getfield 312, 3) := by decide +kernel
theorem dX11_told_147 : decode cX11_told 147 = .ok (.ireturn, 1) := by decide +kernel
theorem dX11_told_64 : decode cX11_told 64 = .ok (.aload_n 0, 1) := by decide +kernel
theorem dX11_told_65 : decode cX11_told 65 = .ok (.getfield 53, 3) := by decide +kernel
theorem dX11_told_68 : decode cX11_told 68 = .ok (.getfield 264, 3) := by decide +kernel
theorem dX11_told_71 : decode cX11_told 71 = .ok (.ireturn, 1) := by decide +kernel
theorem dX11_told_72 : decode cX11_told 72 = .ok (.aload_n 0, 1) := by decide +kernel
theorem dX11_told_73 : decode cX11_told 73 = .ok (.getfield 44, 3) := by decide +kernel
theorem dX11_told_76 : decode cX11_told 76 = .ok (.invokevirtual 572, 3) := by decide +kernel
theorem dX11_told_79 : decode cX11_told 79 = .ok (.ireturn, 1) := by decide +kernel
theorem dX11_told_80 : decode cX11_told 80 = .ok (.aload_n 0, 1) := by decide +kernel
theorem dX11_told_81 : decode cX11_told 81 = .ok (.getfield 85, 3) := by decide +kernel
theorem dX11_told_84 : decode cX11_told 84 = .ok (.invokevirtual 575, 3) := by decide +kernel
theorem dX11_told_87 : decode cX11_told 87 = .ok (.ireturn, 1) := by decide +kernel
theorem dX11_told_88 : decode cX11_told 88 = .ok (.aload_n 0, 1) := by decide +kernel
theorem dX11_told_89 : decode cX11_told 89 = .ok (.getfield 44, 3) := by decide +kernel
theorem dX11_told_92 : decode cX11_told 92 = .ok (.getfield 578, 3) := by decide +kernel
theorem dX11_told_95 : decode cX11_told 95 = .ok (.ireturn, 1) := by decide +kernel
theorem dX11_told_96 : decode cX11_told 96 = .ok (.aload_n 0, 1) := by decide +kernel
theorem dX11_told_97 : decode cX11_told 97 = .ok (.getfield 92, 3) := by decide +kernel
theorem dX11_told_100 : decode cX11_told 100 = .ok (.getfield 532, 3) := by decide +kernel
theorem dX11_told_103 : decode cX11_told 103 = .ok (.ireturn, 1) := by decide +kernel
theorem dX11_told_104 : decode cX11_told 104 = .ok (.aload_n 0, 1) := by decide +kernel
theorem dX11_told_105 : decode cX11_told 105 = .ok (.invokevirtual 331, 3) := by decide +kernel
theorem dX11_told_108 : decode cX11_told 108 = .ok (.ifCond .eq 7, 3) := by decide +kernel
theorem dX11_told_115 : decode cX11_told 115 = .ok (.iconst 0, 1) := by decide +kernel
theorem dX11_told_116 : decode cX11_told 116 = .ok (.ireturn, 1) := by decide +kernel
theorem dX11_told_111 : decode cX11_told 111 = .ok (.iconst 1, 1) := by decide +kernel
theorem dX11_told_112 : decode cX11_told 112 = .ok (.goto 4, 3) := by decide +kernel
theorem dX11_told_117 : decode cX11_told 117 = .ok (.aload_n 0, 1) := by decide +kernel
theorem dX11_told_118 : decode cX11_told 118 = .ok (.invokevirtual 550, 3) := by decide +kernel
theorem dX11_told_121 : decode cX11_told 121 = .ok (.ifCond .eq 7, 3) := by decide +kernel
theorem dX11_told_128 : decode cX11_told 128 = .ok (.iconst 0, 1) := by decide +kernel
theorem dX11_told_129 : decode cX11_told 129 = .ok (.ireturn, 1) := by decide +kernel
theorem dX11_told_124 : decode cX11_told 124 = .ok (.iconst 1, 1) := by decide +kernel
theorem dX11_told_125 : decode cX11_told 125 = .ok (.goto 4, 3) := by decide +kernel
theorem dX11_told_130 : decode cX11_told 130 = .ok (.aload_n 0, 1) := by decide +kernel
theorem dX11_told_131 : decode cX11_told 131 = .ok (.invokevirtual 581, 3) := by decide +kernel
theorem dX11_told_134 : decode cX11_told 134 = .ok (.ifCond .eq 7, 3) := by decide +kernel
theorem dX11_told_141 : decode cX11_told 141 = .ok (.iconst 0, 1) := by decide +kernel
theorem dX11_told_142 : decode cX11_told 142 = .ok (.ireturn, 1) := by decide +kernel
theorem dX11_told_137 : decode cX11_told 137 = .ok (.iconst 1, 1) := by decide +kernel
theorem dX11_told_138 : decode cX11_told 138 = .ok (.goto 4, 3) := by decide +kernel
theorem dL_line_0 : decode cL_line 0 = .ok (.aload 5, 2) := by decide +kernel
theorem dL_line_2 : decode cL_line 2 = .ok (.iconst 0, 1) := by decide +kernel
theorem dL_line_3 : decode cL_line 3 = .ok (.aload_n 0, 1) := by decide +kernel
theorem dL_line_4 : decode cL_line 4 = .ok (.iload_n 1, 1) := by decide +kernel
theorem dL_line_5 : decode cL_line 5 = .ok (.iload_n 2, 1) := by decide +kernel
theorem dL_line_6 : decode cL_line 6 = .ok (.iload_n 3, 1) := by decide +kernel
theorem dL_line_7 : decode cL_line 7 = .ok (.iload 4, 2) := by decide +kernel
theorem dL_line_9 : decode cL_line 9 = .ok (.invokevirtual 7, 3) := by decide +kernel
theorem dL_line_12 : decode cL_line 12 = .ok (.i2l, 1) := by decide +kernel
theorem dL_line_13 : decode cL_line 13 = .ok (.lastore, 1) := by decide +kernel
theorem dL_line_14 : decode cL_line 14 = .ok (.goto 11, 3) := by decide +kernel
theorem dL_line_25 : decode cL_line 25 = .ok (.iconst 0, 1) := by decide +kernel
theorem dL_line_26 : decode cL_line 26 = .ok (.ireturn, 1) := by decide +kernel
theorem dL_line_21 : decode cL_line 21 = .ok (.astore 6, 2) := by decide +kernel
theorem dL_line_23 : decode cL_line 23 = .ok (.iconst 2, 1) := by decide +kernel
theorem dL_line_24 : decode cL_line 24 = .ok (.ireturn, 1) := by decide +kernel
theorem dL_line_17 : decode cL_line 17 = .ok (.astore 6, 2) := by decide +kernel
theorem dL_line_19 : decode cL_line 19 = .ok (.iconst 1, 1) := by decide +kernel
theorem dL_line_20 : decode cL_line 20 = .ok (.ireturn, 1) := by decide +kernel
theorem dL_move_0 : decode cL_move 0 = .ok (.aload 4, 2) := by decide +kernel
theorem dL_move_2 : decode cL_move 2 = .ok (.iconst 0, 1) := by decide +kernel
theorem dL_move_3 : decode cL_move 3 = .ok (.aload_n 0, 1) := by decide +kernel
theorem dL_move_4 : decode cL_move 4 = .ok (.iload_n 1, 1) := by decide +kernel
theorem dL_move_5 : decode cL_move 5 = .ok (.iload_n 2, 1) := by decide +kernel
theorem dL_move_6 : decode cL_move 6 = .ok (.iload_n 3, 1) := by decide +kernel
theorem dL_move_7 : decode cL_move 7 = .ok (.invokevirtual 17, 3) := by decide +kernel
theorem dL_move_10 : decode cL_move 10 = .ok (.ifCond .eq 7, 3) := by decide +kernel
theorem dL_move_17 : decode cL_move 17 = .ok (.lconst 0, 1) := by decide +kernel
theorem dL_move_18 : decode cL_move 18 = .ok (.lastore, 1) := by decide +kernel
theorem dL_move_19 : decode cL_move 19 = .ok (.goto 11, 3) := by decide +kernel
theorem dL_move_30 : decode cL_move 30 = .ok (.iconst 0, 1) := by decide +kernel
theorem dL_move_31 : decode cL_move 31 = .ok (.ireturn, 1) := by decide +kernel
theorem dL_move_13 : decode cL_move 13 = .ok (.lconst 1, 1) := by decide +kernel
theorem dL_move_14 : decode cL_move 14 = .ok (.goto 4, 3) := by decide +kernel
theorem dL_move_26 : decode cL_move 26 = .ok (.astore 5, 2) := by decide +kernel
theorem dL_move_28 : decode cL_move 28 = .ok (.iconst 2, 1) := by decide +kernel
theorem dL_move_29 : decode cL_move 29 = .ok (.ireturn, 1) := by decide +kernel
theorem dL_move_22 : decode cL_move 22 = .ok (.astore 5, 2) := by decide +kernel
theorem dL_move_24 : decode cL_move 24 = .ok (.iconst 1, 1) := by decide +kernel
theorem dL_move_25 : decode cL_move 25 = .ok (.ireturn, 1) := by decide +kernel
theorem dL_door_0 : decode cL_door 0 = .ok (.aload 5, 2) := by decide +kernel
theorem dL_door_2 : decode cL_door 2 = .ok (.iconst 0, 1) := by decide +kernel
theorem dL_door_3 : decode cL_door 3 = .ok (.aload_n 0, 1) := by decide +kernel
theorem dL_door_4 : decode cL_door 4 = .ok (.iload_n 1, 1) := by decide +kernel
theorem dL_door_5 : decode cL_door 5 = .ok (.iload_n 2, 1) := by decide +kernel
theorem dL_door_6 : decode cL_door 6 = .ok (.iload_n 3, 1) := by decide +kernel
theorem dL_door_7 : decode cL_door 7 = .ok (.iload 4, 2) := by decide +kernel
theorem dL_door_9 : decode cL_door 9 = .ok (.invokevirtual 21, 3) := by decide +kernel
theorem dL_door_12 : decode cL_door 12 = .ok (.i2l, 1) := by decide +kernel
theorem dL_door_13 : decode cL_door 13 = .ok (.lastore, 1) := by decide +kernel
theorem dL_door_14 : decode cL_door 14 = .ok (.goto 11, 3) := by decide +kernel
theorem dL_door_25 : decode cL_door 25 = .ok (.iconst 0, 1) := by decide +kernel
theorem dL_door_26 : decode cL_door 26 = .ok (.ireturn, 1) := by decide +kernel
theorem dL_door_21 : decode cL_door 21 = .ok (.astore 6, 2) := by decide +kernel
theorem dL_door_23 : decode cL_door 23 = .ok (.iconst 2, 1) := by decide +kernel
theorem dL_door_24 : decode cL_door 24 = .ok (.ireturn, 1) := by decide +kernel
theorem dL_door_17 : decode cL_door 17 = .ok (.astore 6, 2) := by decide +kernel
theorem dL_door_19 : decode cL_door 19 = .ok (.iconst 1, 1) := by decide +kernel
theorem dL_door_20 : decode cL_door 20 = .ok (.ireturn, 1) := by decide +kernel
theorem dL_find_0 : decode cL_find 0 = .ok (.aload_n 1, 1) := by decide +kernel
theorem dL_find_1 : decode cL_find 1 = .ok (.iconst 0, 1) := by decide +kernel
theorem dL_find_2 : decode cL_find 2 = .ok (.aload_n 0, 1) := by decide +kernel
theorem dL_find_3 : decode cL_find 3 = .ok (.invokevirtual 24, 3) := by decide +kernel
theorem dL_find_6 : decode cL_find 6 = .ok (.i2l, 1) := by decide +kernel
theorem dL_find_7 : decode cL_find 7 = .ok (.lastore, 1) := by decide +kernel
theorem dL_find_8 : decode cL_find 8 = .ok (.goto 6, 3) := by decide +kernel
theorem dL_find_14 : decode cL_find 14 = .ok (.iconst 0, 1) := by decide +kernel
theorem dL_find_15 : decode cL_find 15 = .ok (.ireturn, 1) := by decide +kernel
theorem dL_find_11 : decode cL_find 11 = .ok (.astore_n 2, 1) := by decide +kernel
theorem dL_find_12 : decode cL_find 12 = .ok (.iconst 1, 1) := by decide +kernel
theorem dL_find_13 : decode cL_find 13 = .ok (.ireturn, 1) := by decide +kernel
theorem dL_count_0 : decode cL_count 0 = .ok (.aload_n 2, 1) := by decide +kernel
theorem dL_count_1 : decode cL_count 1 = .ok (.iconst 0, 1) := by decide +kernel
theorem dL_count_2 : decode cL_count 2 = .ok (.aload_n 0, 1) := by decide +kernel
theorem dL_count_3 : decode cL_count 3 = .ok (.iload_n 1, 1) := by decide +kernel
theorem dL_count_4 : decode cL_count 4 = .ok (.invokevirtual 28, 3) := by decide +kernel
theorem dL_count_7 : decode cL_count 7 = .ok (.i2l, 1) := by decide +kernel
theorem dL_count_8 : decode cL_count 8 = .ok (.lastore, 1) := by decide +kernel
theorem dL_count_9 : decode cL_count 9 = .ok (.goto 9, 3) := by decide +kernel
theorem dL_count_18 : decode cL_count 18 = .ok (.iconst 0, 1) := by decide +kernel
theorem dL_count_19 : decode cL_count 19 = .ok (.ireturn, 1) := by decide +kernel
theorem dL_count_15 : decode cL_count 15 = .ok (.astore_n 3, 1) := by decide +kernel
theorem dL_count_16 : decode cL_count 16 = .ok (.iconst 2, 1) := by decide +kernel
theorem dL_count_17 : decode cL_count 17 = .ok (.ireturn, 1) := by decide +kernel
theorem dL_count_12 : decode cL_count 12 = .ok (.astore_n 3, 1) := by decide +kernel
theorem dL_count_13 : decode cL_count 13 = .ok (.iconst 1, 1) := by decide +kernel
theorem dL_count_14 : decode cL_count 14 = .ok (.ireturn, 1) := by decide +kernel
theorem dL_sides_0 : decode cL_sides 0 = .ok (.aload_n 3, 1) := by decide +kernel
theorem dL_sides_1 : decode cL_sides 1 = .ok (.iconst 0, 1) := by decide +kernel
theorem dL_sides_2 : decode cL_sides 2 = .ok (.aload_n 0, 1) := by decide +kernel
theorem dL_sides_3 : decode cL_sides 3 = .ok (.iload_n 1, 1) := by decide +kernel
theorem dL_sides_4 : decode cL_sides 4 = .ok (.iload_n 2, 1) := by decide +kernel
theorem dL_sides_5 : decode cL_sides 5 = .ok (.invokevirtual 32, 3) := by decide +kernel
theorem dL_sides_8 : decode cL_sides 8 = .ok (.i2l, 1) := by decide +kernel
theorem dL_sides_9 : decode cL_sides 9 = .ok (.lastore, 1) := by decide +kernel
theorem dL_sides_10 : decode cL_sides 10 = .ok (.goto 11, 3) := by decide +kernel
theorem dL_sides_21 : decode cL_sides 21 = .ok (.iconst 0, 1) := by decide +kernel
theorem dL_sides_22 : decode cL_sides 22 = .ok (.ireturn, 1) := by decide +kernel
theorem dL_sides_17 : decode cL_sides 17 = .ok (.astore 4, 2) := by decide +kernel
theorem dL_sides_19 : decode cL_sides 19 = .ok (.iconst 2, 1) := by decide +kernel
theorem dL_sides_20 : decode cL_sides 20 = .ok (.ireturn, 1) := by decide +kernel
theorem dL_sides_13 : decode cL_sides 13 = .ok (.astore 4, 2) := by decide +kernel
theorem dL_sides_15 : decode cL_sides 15 = .ok (.iconst 1, 1) := by decide +kernel
theorem dL_sides_16 : decode cL_sides 16 = .ok (.ireturn, 1) := by decide +kernel
theorem dL_side_0 : decode cL_side 0 = .ok (.aload 5, 2) := by decide +kernel
theorem dL_side_2 : decode cL_side 2 = .ok (.iconst 0, 1) := by decide +kernel
theorem dL_side_3 : decode cL_side 3 = .ok (.aload_n 0, 1) := by decide +kernel
theorem dL_side_4 : decode cL_side 4 = .ok (.iload_n 1, 1) := by decide +kernel
theorem dL_side_5 : decode cL_side 5 = .ok (.iload_n 2, 1) := by decide +kernel
theorem dL_side_6 : decode cL_side 6 = .ok (.iload_n 3, 1) := by decide +kernel
theorem dL_side_7 : decode cL_side 7 = .ok (.iload 4, 2) := by decide +kernel
theorem dL_side_9 : decode cL_side 9 = .ok (.invokevirtual 36, 3) := by decide +kernel
theorem dL_side_12 : decode cL_side 12 = .ok (.i2l, 1) := by decide +kernel
theorem dL_side_13 : decode cL_side 13 = .ok (.lastore, 1) := by decide +kernel
theorem dL_side_14 : decode cL_side 14 = .ok (.goto 11, 3) := by decide +kernel
theorem dL_side_25 : decode cL_side 25 = .ok (.iconst 0, 1) := by decide +kernel
theorem dL_side_26 : decode cL_side 26 = .ok (.ireturn, 1) := by decide +kernel
theorem dL_side_21 : decode cL_side 21 = .ok (.astore 6, 2) := by decide +kernel
theorem dL_side_23 : decode cL_side 23 = .ok (.iconst 2, 1) := by decide +kernel
theorem dL_side_24 : decode cL_side 24 = .ok (.ireturn, 1) := by decide +kernel
theorem dL_side_17 : decode cL_side 17 = .ok (.astore 6, 2) := by decide +kernel
theorem dL_side_19 : decode cL_side 19 = .ok (.iconst 1, 1) := by decide +kernel
theorem dL_side_20 : decode cL_side 20 = .ok (.ireturn, 1) := by decide +kernel
theorem dL_size_0 : decode cL_size 0 = .ok (.aload_n 3, 1) := by decide +kernel
theorem dL_size_1 : decode cL_size 1 = .ok (.iconst 0, 1) := by decide +kernel
theorem dL_size_2 : decode cL_size 2 = .ok (.aload_n 0, 1) := by decide +kernel
theorem dL_size_3 : decode cL_size 3 = .ok (.iload_n 1, 1) := by decide +kernel
theorem dL_size_4 : decode cL_size 4 = .ok (.iload_n 2, 1) := by decide +kernel
theorem dL_size_5 : decode cL_size 5 = .ok (.invokevirtual 39, 3) := by decide +kernel
theorem dL_size_8 : decode cL_size 8 = .ok (.i2l, 1) := by decide +kernel
theorem dL_size_9 : decode cL_size 9 = .ok (.lastore, 1) := by decide +kernel
theorem dL_size_10 : decode cL_size 10 = .ok (.goto 11, 3) := by decide +kernel
theorem dL_size_21 : decode cL_size 21 = .ok (.iconst 0, 1) := by decide +kernel
theorem dL_size_22 : decode cL_size 22 = .ok (.ireturn, 1) := by decide +kernel
theorem dL_size_17 : decode cL_size 17 = .ok (.astore 4, 2) := by decide +kernel
theorem dL_size_19 : decode cL_size 19 = .ok (.iconst 2, 1) := by decide +kernel
theorem dL_size_20 : decode cL_size 20 = .ok (.ireturn, 1) := by decide +kernel
theorem dL_size_13 : decode cL_size 13 = .ok (.astore 4, 2) := by decide +kernel
theorem dL_size_15 : decode cL_size 15 = .ok (.iconst 1, 1) := by decide +kernel
theorem dL_size_16 : decode cL_size 16 = .ok (.ireturn, 1) := by decide +kernel
theorem dL_at_0 : decode cL_at 0 = .ok (.aload_n 3, 1) := by decide +kernel
theorem dL_at_1 : decode cL_at 1 = .ok (.iconst 0, 1) := by decide +kernel
theorem dL_at_2 : decode cL_at 2 = .ok (.aload_n 0, 1) := by decide +kernel
theorem dL_at_3 : decode cL_at 3 = .ok (.iload_n 1, 1) := by decide +kernel
theorem dL_at_4 : decode cL_at 4 = .ok (.iload_n 2, 1) := by decide +kernel
theorem dL_at_5 : decode cL_at 5 = .ok (.invokevirtual 42, 3) := by decide +kernel
theorem dL_at_8 : decode cL_at 8 = .ok (.i2l, 1) := by decide +kernel
theorem dL_at_9 : decode cL_at 9 = .ok (.lastore, 1) := by decide +kernel
theorem dL_at_10 : decode cL_at 10 = .ok (.goto 11, 3) := by decide +kernel
theorem dL_at_21 : decode cL_at 21 = .ok (.iconst 0, 1) := by decide +kernel
theorem dL_at_22 : decode cL_at 22 = .ok (.ireturn, 1) := by decide +kernel
theorem dL_at_17 : decode cL_at 17 = .ok (.astore 4, 2) := by decide +kernel
theorem dL_at_19 : decode cL_at 19 = .ok (.iconst 2, 1) := by decide +kernel
theorem dL_at_20 : decode cL_at 20 = .ok (.ireturn, 1) := by decide +kernel
theorem dL_at_13 : decode cL_at 13 = .ok (.astore 4, 2) := by decide +kernel
theorem dL_at_15 : decode cL_at 15 = .ok (.iconst 1, 1) := by decide +kernel
theorem dL_at_16 : decode cL_at 16 = .ok (.ireturn, 1) := by decide +kernel
theorem dL_between_0 : decode cL_between 0 = .ok (.aload_n 3, 1) := by decide +kernel
theorem dL_between_1 : decode cL_between 1 = .ok (.iconst 0, 1) := by decide +kernel
theorem dL_between_2 : decode cL_between 2 = .ok (.aload_n 0, 1) := by decide +kernel
theorem dL_between_3 : decode cL_between 3 = .ok (.iload_n 1, 1) := by decide +kernel
theorem dL_between_4 : decode cL_between 4 = .ok (.iload_n 2, 1) := by decide +kernel
theorem dL_between_5 : decode cL_between 5 = .ok (.invokevirtual 45, 3) := by decide +kernel
theorem dL_between_8 : decode cL_between 8 = .ok (.i2l, 1) := by decide +kernel
theorem dL_between_9 : decode cL_between 9 = .ok (.lastore, 1) := by decide +kernel
theorem dL_between_10 : decode cL_between 10 = .ok (.goto 11, 3) := by decide +kernel
theorem dL_between_21 : decode cL_between 21 = .ok (.iconst 0, 1) := by decide +kernel
theorem dL_between_22 : decode cL_between 22 = .ok (.ireturn, 1) := by decide +kernel
theorem dL_between_17 : decode cL_between 17 = .ok (.astore 4, 2) := by decide +kernel
theorem dL_between_19 : decode cL_between 19 = .ok (.iconst 2, 1) := by decide +kernel
theorem dL_between_20 : decode cL_between 20 = .ok (.ireturn, 1) := by decide +kernel
theorem dL_between_13 : decode cL_between 13 = .ok (.astore 4, 2) := by decide +kernel
theorem dL_between_15 : decode cL_between 15 = .ok (.iconst 1, 1) := by decide +kernel
theorem dL_between_16 : decode cL_between 16 = .ok (.ireturn, 1) := by decide +kernel
theorem dL_way_0 : decode cL_way 0 = .ok (.aload_n 3, 1) := by decide +kernel
theorem dL_way_1 : decode cL_way 1 = .ok (.iconst 0, 1) := by decide +kernel
theorem dL_way_2 : decode cL_way 2 = .ok (.aload_n 0, 1) := by decide +kernel
theorem dL_way_3 : decode cL_way 3 = .ok (.iload_n 1, 1) := by decide +kernel
theorem dL_way_4 : decode cL_way 4 = .ok (.iload_n 2, 1) := by decide +kernel
theorem dL_way_5 : decode cL_way 5 = .ok (.invokevirtual 48, 3) := by decide +kernel
theorem dL_way_8 : decode cL_way 8 = .ok (.i2l, 1) := by decide +kernel
theorem dL_way_9 : decode cL_way 9 = .ok (.lastore, 1) := by decide +kernel
theorem dL_way_10 : decode cL_way 10 = .ok (.goto 11, 3) := by decide +kernel
theorem dL_way_21 : decode cL_way 21 = .ok (.iconst 0, 1) := by decide +kernel
theorem dL_way_22 : decode cL_way 22 = .ok (.ireturn, 1) := by decide +kernel
theorem dL_way_17 : decode cL_way 17 = .ok (.astore 4, 2) := by decide +kernel
theorem dL_way_19 : decode cL_way 19 = .ok (.iconst 2, 1) := by decide +kernel
theorem dL_way_20 : decode cL_way 20 = .ok (.ireturn, 1) := by decide +kernel
theorem dL_way_13 : decode cL_way 13 = .ok (.astore 4, 2) := by decide +kernel
theorem dL_way_15 : decode cL_way 15 = .ok (.iconst 1, 1) := by decide +kernel
theorem dL_way_16 : decode cL_way 16 = .ok (.ireturn, 1) := by decide +kernel
theorem dL_name_0 : decode cL_name 0 = .ok (.aload_n 3, 1) := by decide +kernel
theorem dL_name_1 : decode cL_name 1 = .ok (.iconst 0, 1) := by decide +kernel
theorem dL_name_2 : decode cL_name 2 = .ok (.aload_n 0, 1) := by decide +kernel
theorem dL_name_3 : decode cL_name 3 = .ok (.iload_n 1, 1) := by decide +kernel
theorem dL_name_4 : decode cL_name 4 = .ok (.iload_n 2, 1) := by decide +kernel
theorem dL_name_5 : decode cL_name 5 = .ok (.invokevirtual 51, 3) := by decide +kernel
theorem dL_name_8 : decode cL_name 8 = .ok (.i2l, 1) := by decide +kernel
theorem dL_name_9 : decode cL_name 9 = .ok (.lastore, 1) := by decide +kernel
theorem dL_name_10 : decode cL_name 10 = .ok (.goto 11, 3) := by decide +kernel
theorem dL_name_21 : decode cL_name 21 = .ok (.iconst 0, 1) := by decide +kernel
theorem dL_name_22 : decode cL_name 22 = .ok (.ireturn, 1) := by decide +kernel
theorem dL_name_17 : decode cL_name 17 = .ok (.astore 4, 2) := by decide +kernel
theorem dL_name_19 : decode cL_name 19 = .ok (.iconst 2, 1) := by decide +kernel
theorem dL_name_20 : decode cL_name 20 = .ok (.ireturn, 1) := by decide +kernel
theorem dL_name_13 : decode cL_name 13 = .ok (.astore 4, 2) := by decide +kernel
theorem dL_name_15 : decode cL_name 15 = .ok (.iconst 1, 1) := by decide +kernel
theorem dL_name_16 : decode cL_name 16 = .ok (.ireturn, 1) := by decide +kernel
theorem dL_nameOf_0 : decode cL_nameOf 0 = .ok (.aload_n 2, 1) := by decide +kernel
theorem dL_nameOf_1 : decode cL_nameOf 1 = .ok (.iconst 0, 1) := by decide +kernel
theorem dL_nameOf_2 : decode cL_nameOf 2 = .ok (.aload_n 0, 1) := by decide +kernel
theorem dL_nameOf_3 : decode cL_nameOf 3 = .ok (.iload_n 1, 1) := by decide +kernel
theorem dL_nameOf_4 : decode cL_nameOf 4 = .ok (.invokevirtual 54, 3) := by decide +kernel
theorem dL_nameOf_7 : decode cL_nameOf 7 = .ok (.i2l, 1) := by decide +kernel
theorem dL_nameOf_8 : decode cL_nameOf 8 = .ok (.lastore, 1) := by decide +kernel
theorem dL_nameOf_9 : decode cL_nameOf 9 = .ok (.goto 9, 3) := by decide +kernel
theorem dL_nameOf_18 : decode cL_nameOf 18 = .ok (.iconst 0, 1) := by decide +kernel
theorem dL_nameOf_19 : decode cL_nameOf 19 = .ok (.ireturn, 1) := by decide +kernel
theorem dL_nameOf_15 : decode cL_nameOf 15 = .ok (.astore_n 3, 1) := by decide +kernel
theorem dL_nameOf_16 : decode cL_nameOf 16 = .ok (.iconst 2, 1) := by decide +kernel
theorem dL_nameOf_17 : decode cL_nameOf 17 = .ok (.ireturn, 1) := by decide +kernel
theorem dL_nameOf_12 : decode cL_nameOf 12 = .ok (.astore_n 3, 1) := by decide +kernel
theorem dL_nameOf_13 : decode cL_nameOf 13 = .ok (.iconst 1, 1) := by decide +kernel
theorem dL_nameOf_14 : decode cL_nameOf 14 = .ok (.ireturn, 1) := by decide +kernel
theorem dL_say_0 : decode cL_say 0 = .ok (.aload_n 3, 1) := by decide +kernel
theorem dL_say_1 : decode cL_say 1 = .ok (.iconst 0, 1) := by decide +kernel
theorem dL_say_2 : decode cL_say 2 = .ok (.aload_n 0, 1) := by decide +kernel
theorem dL_say_3 : decode cL_say 3 = .ok (.lload_n 1, 1) := by decide +kernel
theorem dL_say_4 : decode cL_say 4 = .ok (.invokevirtual 57, 3) := by decide +kernel
theorem dL_say_7 : decode cL_say 7 = .ok (.i2l, 1) := by decide +kernel
theorem dL_say_8 : decode cL_say 8 = .ok (.lastore, 1) := by decide +kernel
theorem dL_say_9 : decode cL_say 9 = .ok (.goto 11, 3) := by decide +kernel
theorem dL_say_20 : decode cL_say 20 = .ok (.iconst 0, 1) := by decide +kernel
theorem dL_say_21 : decode cL_say 21 = .ok (.ireturn, 1) := by decide +kernel
theorem dL_say_16 : decode cL_say 16 = .ok (.astore 4, 2) := by decide +kernel
theorem dL_say_18 : decode cL_say 18 = .ok (.iconst 2, 1) := by decide +kernel
theorem dL_say_19 : decode cL_say 19 = .ok (.ireturn, 1) := by decide +kernel
theorem dL_say_12 : decode cL_say 12 = .ok (.astore 4, 2) := by decide +kernel
theorem dL_say_14 : decode cL_say 14 = .ok (.iconst 1, 1) := by decide +kernel
theorem dL_say_15 : decode cL_say 15 = .ok (.ireturn, 1) := by decide +kernel
theorem dL_trim_0 : decode cL_trim 0 = .ok (.aload_n 2, 1) := by decide +kernel
theorem dL_trim_1 : decode cL_trim 1 = .ok (.iconst 0, 1) := by decide +kernel
theorem dL_trim_2 : decode cL_trim 2 = .ok (.aload_n 0, 1) := by decide +kernel
theorem dL_trim_3 : decode cL_trim 3 = .ok (.iload_n 1, 1) := by decide +kernel
theorem dL_trim_4 : decode cL_trim 4 = .ok (.invokevirtual 61, 3) := by decide +kernel
theorem dL_trim_7 : decode cL_trim 7 = .ok (.i2l, 1) := by decide +kernel
theorem dL_trim_8 : decode cL_trim 8 = .ok (.lastore, 1) := by decide +kernel
theorem dL_trim_9 : decode cL_trim 9 = .ok (.goto 6, 3) := by decide +kernel
theorem dL_trim_15 : decode cL_trim 15 = .ok (.iconst 0, 1) := by decide +kernel
theorem dL_trim_16 : decode cL_trim 16 = .ok (.ireturn, 1) := by decide +kernel
theorem dL_trim_12 : decode cL_trim 12 = .ok (.astore_n 3, 1) := by decide +kernel
theorem dL_trim_13 : decode cL_trim 13 = .ok (.iconst 1, 1) := by decide +kernel
theorem dL_trim_14 : decode cL_trim 14 = .ok (.ireturn, 1) := by decide +kernel
theorem dL_fact_0 : decode cL_fact 0 = .ok (.aload 4, 2) := by decide +kernel
theorem dL_fact_2 : decode cL_fact 2 = .ok (.iconst 0, 1) := by decide +kernel
theorem dL_fact_3 : decode cL_fact 3 = .ok (.aload_n 0, 1) := by decide +kernel
theorem dL_fact_4 : decode cL_fact 4 = .ok (.lload_n 1, 1) := by decide +kernel
theorem dL_fact_5 : decode cL_fact 5 = .ok (.iload_n 3, 1) := by decide +kernel
theorem dL_fact_6 : decode cL_fact 6 = .ok (.invokevirtual 64, 3) := by decide +kernel
theorem dL_fact_9 : decode cL_fact 9 = .ok (.lastore, 1) := by decide +kernel
theorem dL_fact_10 : decode cL_fact 10 = .ok (.goto 11, 3) := by decide +kernel
theorem dL_fact_21 : decode cL_fact 21 = .ok (.iconst 0, 1) := by decide +kernel
theorem dL_fact_22 : decode cL_fact 22 = .ok (.ireturn, 1) := by decide +kernel
theorem dL_fact_17 : decode cL_fact 17 = .ok (.astore 5, 2) := by decide +kernel
theorem dL_fact_19 : decode cL_fact 19 = .ok (.iconst 2, 1) := by decide +kernel
theorem dL_fact_20 : decode cL_fact 20 = .ok (.ireturn, 1) := by decide +kernel
theorem dL_fact_13 : decode cL_fact 13 = .ok (.astore 5, 2) := by decide +kernel
theorem dL_fact_15 : decode cL_fact 15 = .ok (.iconst 1, 1) := by decide +kernel
theorem dL_fact_16 : decode cL_fact 16 = .ok (.ireturn, 1) := by decide +kernel
theorem dL_measure_0 : decode cL_measure 0 = .ok (.aload 5, 2) := by decide +kernel
theorem dL_measure_2 : decode cL_measure 2 = .ok (.iconst 0, 1) := by decide +kernel
theorem dL_measure_3 : decode cL_measure 3 = .ok (.aload_n 0, 1) := by decide +kernel
theorem dL_measure_4 : decode cL_measure 4 = .ok (.iload_n 1, 1) := by decide +kernel
theorem dL_measure_5 : decode cL_measure 5 = .ok (.iload_n 2, 1) := by decide +kernel
theorem dL_measure_6 : decode cL_measure 6 = .ok (.lload_n 3, 1) := by decide +kernel
theorem dL_measure_7 : decode cL_measure 7 = .ok (.invokevirtual 68, 3) := by decide +kernel
theorem dL_measure_10 : decode cL_measure 10 = .ok (.i2l, 1) := by decide +kernel
theorem dL_measure_11 : decode cL_measure 11 = .ok (.lastore, 1) := by decide +kernel
theorem dL_measure_12 : decode cL_measure 12 = .ok (.goto 11, 3) := by decide +kernel
theorem dL_measure_23 : decode cL_measure 23 = .ok (.iconst 0, 1) := by decide +kernel
theorem dL_measure_24 : decode cL_measure 24 = .ok (.ireturn, 1) := by decide +kernel
theorem dL_measure_19 : decode cL_measure 19 = .ok (.astore 6, 2) := by decide +kernel
theorem dL_measure_21 : decode cL_measure 21 = .ok (.iconst 2, 1) := by decide +kernel
theorem dL_measure_22 : decode cL_measure 22 = .ok (.ireturn, 1) := by decide +kernel
theorem dL_measure_15 : decode cL_measure 15 = .ok (.astore 6, 2) := by decide +kernel
theorem dL_measure_17 : decode cL_measure 17 = .ok (.iconst 1, 1) := by decide +kernel
theorem dL_measure_18 : decode cL_measure 18 = .ok (.ireturn, 1) := by decide +kernel
theorem dL_check_0 : decode cL_check 0 = .ok (.aload_n 2, 1) := by decide +kernel
theorem dL_check_1 : decode cL_check 1 = .ok (.iconst 0, 1) := by decide +kernel
theorem dL_check_2 : decode cL_check 2 = .ok (.aload_n 0, 1) := by decide +kernel
theorem dL_check_3 : decode cL_check 3 = .ok (.iload_n 1, 1) := by decide +kernel
theorem dL_check_4 : decode cL_check 4 = .ok (.invokevirtual 72, 3) := by decide +kernel
theorem dL_check_7 : decode cL_check 7 = .ok (.i2l, 1) := by decide +kernel
theorem dL_check_8 : decode cL_check 8 = .ok (.lastore, 1) := by decide +kernel
theorem dL_check_9 : decode cL_check 9 = .ok (.goto 6, 3) := by decide +kernel
theorem dL_check_15 : decode cL_check 15 = .ok (.iconst 0, 1) := by decide +kernel
theorem dL_check_16 : decode cL_check 16 = .ok (.ireturn, 1) := by decide +kernel
theorem dL_check_12 : decode cL_check 12 = .ok (.astore_n 3, 1) := by decide +kernel
theorem dL_check_13 : decode cL_check 13 = .ok (.iconst 1, 1) := by decide +kernel
theorem dL_check_14 : decode cL_check 14 = .ok (.ireturn, 1) := by decide +kernel
theorem dL_rule_0 : decode cL_rule 0 = .ok (.aload_n 3, 1) := by decide +kernel
theorem dL_rule_1 : decode cL_rule 1 = .ok (.iconst 0, 1) := by decide +kernel
theorem dL_rule_2 : decode cL_rule 2 = .ok (.aload_n 0, 1) := by decide +kernel
theorem dL_rule_3 : decode cL_rule 3 = .ok (.iload_n 1, 1) := by decide +kernel
theorem dL_rule_4 : decode cL_rule 4 = .ok (.iload_n 2, 1) := by decide +kernel
theorem dL_rule_5 : decode cL_rule 5 = .ok (.invokevirtual 75, 3) := by decide +kernel
theorem dL_rule_8 : decode cL_rule 8 = .ok (.lastore, 1) := by decide +kernel
theorem dL_rule_9 : decode cL_rule 9 = .ok (.goto 11, 3) := by decide +kernel
theorem dL_rule_20 : decode cL_rule 20 = .ok (.iconst 0, 1) := by decide +kernel
theorem dL_rule_21 : decode cL_rule 21 = .ok (.ireturn, 1) := by decide +kernel
theorem dL_rule_16 : decode cL_rule 16 = .ok (.astore 4, 2) := by decide +kernel
theorem dL_rule_18 : decode cL_rule 18 = .ok (.iconst 2, 1) := by decide +kernel
theorem dL_rule_19 : decode cL_rule 19 = .ok (.ireturn, 1) := by decide +kernel
theorem dL_rule_12 : decode cL_rule 12 = .ok (.astore 4, 2) := by decide +kernel
theorem dL_rule_14 : decode cL_rule 14 = .ok (.iconst 1, 1) := by decide +kernel
theorem dL_rule_15 : decode cL_rule 15 = .ok (.ireturn, 1) := by decide +kernel
theorem dL_build_0 : decode cL_build 0 = .ok (.aload_n 2, 1) := by decide +kernel
theorem dL_build_1 : decode cL_build 1 = .ok (.iconst 0, 1) := by decide +kernel
theorem dL_build_2 : decode cL_build 2 = .ok (.aload_n 0, 1) := by decide +kernel
theorem dL_build_3 : decode cL_build 3 = .ok (.iload_n 1, 1) := by decide +kernel
theorem dL_build_4 : decode cL_build 4 = .ok (.invokevirtual 79, 3) := by decide +kernel
theorem dL_build_7 : decode cL_build 7 = .ok (.i2l, 1) := by decide +kernel
theorem dL_build_8 : decode cL_build 8 = .ok (.lastore, 1) := by decide +kernel
theorem dL_build_9 : decode cL_build 9 = .ok (.goto 9, 3) := by decide +kernel
theorem dL_build_18 : decode cL_build 18 = .ok (.iconst 0, 1) := by decide +kernel
theorem dL_build_19 : decode cL_build 19 = .ok (.ireturn, 1) := by decide +kernel
theorem dL_build_15 : decode cL_build 15 = .ok (.astore_n 3, 1) := by decide +kernel
theorem dL_build_16 : decode cL_build 16 = .ok (.iconst 2, 1) := by decide +kernel
theorem dL_build_17 : decode cL_build 17 = .ok (.ireturn, 1) := by decide +kernel
theorem dL_build_12 : decode cL_build 12 = .ok (.astore_n 3, 1) := by decide +kernel
theorem dL_build_13 : decode cL_build 13 = .ok (.iconst 1, 1) := by decide +kernel
theorem dL_build_14 : decode cL_build 14 = .ok (.ireturn, 1) := by decide +kernel
theorem dL_portal_0 : decode cL_portal 0 = .ok (.aload_n 3, 1) := by decide +kernel
theorem dL_portal_1 : decode cL_portal 1 = .ok (.iconst 0, 1) := by decide +kernel
theorem dL_portal_2 : decode cL_portal 2 = .ok (.aload_n 0, 1) := by decide +kernel
theorem dL_portal_3 : decode cL_portal 3 = .ok (.iload_n 1, 1) := by decide +kernel
theorem dL_portal_4 : decode cL_portal 4 = .ok (.iload_n 2, 1) := by decide +kernel
theorem dL_portal_5 : decode cL_portal 5 = .ok (.invokevirtual 82, 3) := by decide +kernel
theorem dL_portal_8 : decode cL_portal 8 = .ok (.i2l, 1) := by decide +kernel
theorem dL_portal_9 : decode cL_portal 9 = .ok (.lastore, 1) := by decide +kernel
theorem dL_portal_10 : decode cL_portal 10 = .ok (.goto 11, 3) := by decide +kernel
theorem dL_portal_21 : decode cL_portal 21 = .ok (.iconst 0, 1) := by decide +kernel
theorem dL_portal_22 : decode cL_portal 22 = .ok (.ireturn, 1) := by decide +kernel
theorem dL_portal_17 : decode cL_portal 17 = .ok (.astore 4, 2) := by decide +kernel
theorem dL_portal_19 : decode cL_portal 19 = .ok (.iconst 2, 1) := by decide +kernel
theorem dL_portal_20 : decode cL_portal 20 = .ok (.ireturn, 1) := by decide +kernel
theorem dL_portal_13 : decode cL_portal 13 = .ok (.astore 4, 2) := by decide +kernel
theorem dL_portal_15 : decode cL_portal 15 = .ok (.iconst 1, 1) := by decide +kernel
theorem dL_portal_16 : decode cL_portal 16 = .ok (.ireturn, 1) := by decide +kernel
theorem dL_person_0 : decode cL_person 0 = .ok (.aload_n 3, 1) := by decide +kernel
theorem dL_person_1 : decode cL_person 1 = .ok (.iconst 0, 1) := by decide +kernel
theorem dL_person_2 : decode cL_person 2 = .ok (.aload_n 0, 1) := by decide +kernel
theorem dL_person_3 : decode cL_person 3 = .ok (.iload_n 1, 1) := by decide +kernel
theorem dL_person_4 : decode cL_person 4 = .ok (.iload_n 2, 1) := by decide +kernel
theorem dL_person_5 : decode cL_person 5 = .ok (.invokevirtual 85, 3) := by decide +kernel
theorem dL_person_8 : decode cL_person 8 = .ok (.i2l, 1) := by decide +kernel
theorem dL_person_9 : decode cL_person 9 = .ok (.lastore, 1) := by decide +kernel
theorem dL_person_10 : decode cL_person 10 = .ok (.goto 11, 3) := by decide +kernel
theorem dL_person_21 : decode cL_person 21 = .ok (.iconst 0, 1) := by decide +kernel
theorem dL_person_22 : decode cL_person 22 = .ok (.ireturn, 1) := by decide +kernel
theorem dL_person_17 : decode cL_person 17 = .ok (.astore 4, 2) := by decide +kernel
theorem dL_person_19 : decode cL_person 19 = .ok (.iconst 2, 1) := by decide +kernel
theorem dL_person_20 : decode cL_person 20 = .ok (.ireturn, 1) := by decide +kernel
theorem dL_person_13 : decode cL_person 13 = .ok (.astore 4, 2) := by decide +kernel
theorem dL_person_15 : decode cL_person 15 = .ok (.iconst 1, 1) := by decide +kernel
theorem dL_person_16 : decode cL_person 16 = .ok (.ireturn, 1) := by decide +kernel
theorem dL_card_0 : decode cL_card 0 = .ok (.aload_n 3, 1) := by decide +kernel
theorem dL_card_1 : decode cL_card 1 = .ok (.iconst 0, 1) := by decide +kernel
theorem dL_card_2 : decode cL_card 2 = .ok (.aload_n 0, 1) := by decide +kernel
theorem dL_card_3 : decode cL_card 3 = .ok (.iload_n 1, 1) := by decide +kernel
theorem dL_card_4 : decode cL_card 4 = .ok (.iload_n 2, 1) := by decide +kernel
theorem dL_card_5 : decode cL_card 5 = .ok (.invokevirtual 88, 3) := by decide +kernel
theorem dL_card_8 : decode cL_card 8 = .ok (.i2l, 1) := by decide +kernel
theorem dL_card_9 : decode cL_card 9 = .ok (.lastore, 1) := by decide +kernel
theorem dL_card_10 : decode cL_card 10 = .ok (.goto 11, 3) := by decide +kernel
theorem dL_card_21 : decode cL_card 21 = .ok (.iconst 0, 1) := by decide +kernel
theorem dL_card_22 : decode cL_card 22 = .ok (.ireturn, 1) := by decide +kernel
theorem dL_card_17 : decode cL_card 17 = .ok (.astore 4, 2) := by decide +kernel
theorem dL_card_19 : decode cL_card 19 = .ok (.iconst 2, 1) := by decide +kernel
theorem dL_card_20 : decode cL_card 20 = .ok (.ireturn, 1) := by decide +kernel
theorem dL_card_13 : decode cL_card 13 = .ok (.astore 4, 2) := by decide +kernel
theorem dL_card_15 : decode cL_card 15 = .ok (.iconst 1, 1) := by decide +kernel
theorem dL_card_16 : decode cL_card 16 = .ok (.ireturn, 1) := by decide +kernel
theorem dL_right_0 : decode cL_right 0 = .ok (.aload 6, 2) := by decide +kernel
theorem dL_right_2 : decode cL_right 2 = .ok (.iconst 0, 1) := by decide +kernel
theorem dL_right_3 : decode cL_right 3 = .ok (.aload_n 0, 1) := by decide +kernel
theorem dL_right_4 : decode cL_right 4 = .ok (.iload_n 1, 1) := by decide +kernel
theorem dL_right_5 : decode cL_right 5 = .ok (.iload_n 2, 1) := by decide +kernel
theorem dL_right_6 : decode cL_right 6 = .ok (.iload_n 3, 1) := by decide +kernel
theorem dL_right_7 : decode cL_right 7 = .ok (.iload 4, 2) := by decide +kernel
theorem dL_right_9 : decode cL_right 9 = .ok (.iload 5, 2) := by decide +kernel
theorem dL_right_11 : decode cL_right 11 = .ok (.invokevirtual 91, 3) := by decide +kernel
theorem dL_right_14 : decode cL_right 14 = .ok (.i2l, 1) := by decide +kernel
theorem dL_right_15 : decode cL_right 15 = .ok (.lastore, 1) := by decide +kernel
theorem dL_right_16 : decode cL_right 16 = .ok (.goto 11, 3) := by decide +kernel
theorem dL_right_27 : decode cL_right 27 = .ok (.iconst 0, 1) := by decide +kernel
theorem dL_right_28 : decode cL_right 28 = .ok (.ireturn, 1) := by decide +kernel
theorem dL_right_23 : decode cL_right 23 = .ok (.astore 7, 2) := by decide +kernel
theorem dL_right_25 : decode cL_right 25 = .ok (.iconst 2, 1) := by decide +kernel
theorem dL_right_26 : decode cL_right 26 = .ok (.ireturn, 1) := by decide +kernel
theorem dL_right_19 : decode cL_right 19 = .ok (.astore 7, 2) := by decide +kernel
theorem dL_right_21 : decode cL_right 21 = .ok (.iconst 1, 1) := by decide +kernel
theorem dL_right_22 : decode cL_right 22 = .ok (.ireturn, 1) := by decide +kernel
theorem dL_end_0 : decode cL_end 0 = .ok (.aload_n 3, 1) := by decide +kernel
theorem dL_end_1 : decode cL_end 1 = .ok (.iconst 0, 1) := by decide +kernel
theorem dL_end_2 : decode cL_end 2 = .ok (.aload_n 0, 1) := by decide +kernel
theorem dL_end_3 : decode cL_end 3 = .ok (.iload_n 1, 1) := by decide +kernel
theorem dL_end_4 : decode cL_end 4 = .ok (.iload_n 2, 1) := by decide +kernel
theorem dL_end_5 : decode cL_end 5 = .ok (.invokevirtual 95, 3) := by decide +kernel
theorem dL_end_8 : decode cL_end 8 = .ok (.i2l, 1) := by decide +kernel
theorem dL_end_9 : decode cL_end 9 = .ok (.lastore, 1) := by decide +kernel
theorem dL_end_10 : decode cL_end 10 = .ok (.goto 11, 3) := by decide +kernel
theorem dL_end_21 : decode cL_end 21 = .ok (.iconst 0, 1) := by decide +kernel
theorem dL_end_22 : decode cL_end 22 = .ok (.ireturn, 1) := by decide +kernel
theorem dL_end_17 : decode cL_end 17 = .ok (.astore 4, 2) := by decide +kernel
theorem dL_end_19 : decode cL_end 19 = .ok (.iconst 2, 1) := by decide +kernel
theorem dL_end_20 : decode cL_end 20 = .ok (.ireturn, 1) := by decide +kernel
theorem dL_end_13 : decode cL_end 13 = .ok (.astore 4, 2) := by decide +kernel
theorem dL_end_15 : decode cL_end 15 = .ok (.iconst 1, 1) := by decide +kernel
theorem dL_end_16 : decode cL_end 16 = .ok (.ireturn, 1) := by decide +kernel
theorem dL_lost_0 : decode cL_lost 0 = .ok (.aload_n 3, 1) := by decide +kernel
theorem dL_lost_1 : decode cL_lost 1 = .ok (.iconst 0, 1) := by decide +kernel
theorem dL_lost_2 : decode cL_lost 2 = .ok (.aload_n 0, 1) := by decide +kernel
theorem dL_lost_3 : decode cL_lost 3 = .ok (.iload_n 1, 1) := by decide +kernel
theorem dL_lost_4 : decode cL_lost 4 = .ok (.iload_n 2, 1) := by decide +kernel
theorem dL_lost_5 : decode cL_lost 5 = .ok (.invokevirtual 98, 3) := by decide +kernel
theorem dL_lost_8 : decode cL_lost 8 = .ok (.i2l, 1) := by decide +kernel
theorem dL_lost_9 : decode cL_lost 9 = .ok (.lastore, 1) := by decide +kernel
theorem dL_lost_10 : decode cL_lost 10 = .ok (.goto 11, 3) := by decide +kernel
theorem dL_lost_21 : decode cL_lost 21 = .ok (.iconst 0, 1) := by decide +kernel
theorem dL_lost_22 : decode cL_lost 22 = .ok (.ireturn, 1) := by decide +kernel
theorem dL_lost_17 : decode cL_lost 17 = .ok (.astore 4, 2) := by decide +kernel
theorem dL_lost_19 : decode cL_lost 19 = .ok (.iconst 2, 1) := by decide +kernel
theorem dL_lost_20 : decode cL_lost 20 = .ok (.ireturn, 1) := by decide +kernel
theorem dL_lost_13 : decode cL_lost 13 = .ok (.astore 4, 2) := by decide +kernel
theorem dL_lost_15 : decode cL_lost 15 = .ok (.iconst 1, 1) := by decide +kernel
theorem dL_lost_16 : decode cL_lost 16 = .ok (.ireturn, 1) := by decide +kernel
theorem dL_two_0 : decode cL_two 0 = .ok (.aload_n 3, 1) := by decide +kernel
theorem dL_two_1 : decode cL_two 1 = .ok (.iconst 0, 1) := by decide +kernel
theorem dL_two_2 : decode cL_two 2 = .ok (.aload_n 0, 1) := by decide +kernel
theorem dL_two_3 : decode cL_two 3 = .ok (.iload_n 1, 1) := by decide +kernel
theorem dL_two_4 : decode cL_two 4 = .ok (.iload_n 2, 1) := by decide +kernel
theorem dL_two_5 : decode cL_two 5 = .ok (.invokevirtual 101, 3) := by decide +kernel
theorem dL_two_8 : decode cL_two 8 = .ok (.ifCond .eq 7, 3) := by decide +kernel
theorem dL_two_15 : decode cL_two 15 = .ok (.lconst 0, 1) := by decide +kernel
theorem dL_two_16 : decode cL_two 16 = .ok (.lastore, 1) := by decide +kernel
theorem dL_two_17 : decode cL_two 17 = .ok (.goto 11, 3) := by decide +kernel
theorem dL_two_28 : decode cL_two 28 = .ok (.iconst 0, 1) := by decide +kernel
theorem dL_two_29 : decode cL_two 29 = .ok (.ireturn, 1) := by decide +kernel
theorem dL_two_11 : decode cL_two 11 = .ok (.lconst 1, 1) := by decide +kernel
theorem dL_two_12 : decode cL_two 12 = .ok (.goto 4, 3) := by decide +kernel
theorem dL_two_24 : decode cL_two 24 = .ok (.astore 4, 2) := by decide +kernel
theorem dL_two_26 : decode cL_two 26 = .ok (.iconst 2, 1) := by decide +kernel
theorem dL_two_27 : decode cL_two 27 = .ok (.ireturn, 1) := by decide +kernel
theorem dL_two_20 : decode cL_two 20 = .ok (.astore 4, 2) := by decide +kernel
theorem dL_two_22 : decode cL_two 22 = .ok (.iconst 1, 1) := by decide +kernel
theorem dL_two_23 : decode cL_two 23 = .ok (.ireturn, 1) := by decide +kernel
theorem dL_airlock_0 : decode cL_airlock 0 = .ok (.aload 4, 2) := by decide +kernel
theorem dL_airlock_2 : decode cL_airlock 2 = .ok (.iconst 0, 1) := by decide +kernel
theorem dL_airlock_3 : decode cL_airlock 3 = .ok (.aload_n 0, 1) := by decide +kernel
theorem dL_airlock_4 : decode cL_airlock 4 = .ok (.iload_n 1, 1) := by decide +kernel
theorem dL_airlock_5 : decode cL_airlock 5 = .ok (.iload_n 2, 1) := by decide +kernel
theorem dL_airlock_6 : decode cL_airlock 6 = .ok (.iload_n 3, 1) := by decide +kernel
theorem dL_airlock_7 : decode cL_airlock 7 = .ok (.invokevirtual 105, 3) := by decide +kernel
theorem dL_airlock_10 : decode cL_airlock 10 = .ok (.ifCond .eq 7, 3) := by decide +kernel
theorem dL_airlock_17 : decode cL_airlock 17 = .ok (.lconst 0, 1) := by decide +kernel
theorem dL_airlock_18 : decode cL_airlock 18 = .ok (.lastore, 1) := by decide +kernel
theorem dL_airlock_19 : decode cL_airlock 19 = .ok (.goto 11, 3) := by decide +kernel
theorem dL_airlock_30 : decode cL_airlock 30 = .ok (.iconst 0, 1) := by decide +kernel
theorem dL_airlock_31 : decode cL_airlock 31 = .ok (.ireturn, 1) := by decide +kernel
theorem dL_airlock_13 : decode cL_airlock 13 = .ok (.lconst 1, 1) := by decide +kernel
theorem dL_airlock_14 : decode cL_airlock 14 = .ok (.goto 4, 3) := by decide +kernel
theorem dL_airlock_26 : decode cL_airlock 26 = .ok (.astore 5, 2) := by decide +kernel
theorem dL_airlock_28 : decode cL_airlock 28 = .ok (.iconst 2, 1) := by decide +kernel
theorem dL_airlock_29 : decode cL_airlock 29 = .ok (.ireturn, 1) := by decide +kernel
theorem dL_airlock_22 : decode cL_airlock 22 = .ok (.astore 5, 2) := by decide +kernel
theorem dL_airlock_24 : decode cL_airlock 24 = .ok (.iconst 1, 1) := by decide +kernel
theorem dL_airlock_25 : decode cL_airlock 25 = .ok (.ireturn, 1) := by decide +kernel
theorem dL_stands_0 : decode cL_stands 0 = .ok (.aload_n 3, 1) := by decide +kernel
theorem dL_stands_1 : decode cL_stands 1 = .ok (.iconst 0, 1) := by decide +kernel
theorem dL_stands_2 : decode cL_stands 2 = .ok (.aload_n 0, 1) := by decide +kernel
theorem dL_stands_3 : decode cL_stands 3 = .ok (.iload_n 1, 1) := by decide +kernel
theorem dL_stands_4 : decode cL_stands 4 = .ok (.iload_n 2, 1) := by decide +kernel
theorem dL_stands_5 : decode cL_stands 5 = .ok (.invokevirtual 109, 3) := by decide +kernel
theorem dL_stands_8 : decode cL_stands 8 = .ok (.i2l, 1) := by decide +kernel
theorem dL_stands_9 : decode cL_stands 9 = .ok (.lastore, 1) := by decide +kernel
theorem dL_stands_10 : decode cL_stands 10 = .ok (.goto 11, 3) := by decide +kernel
theorem dL_stands_21 : decode cL_stands 21 = .ok (.iconst 0, 1) := by decide +kernel
theorem dL_stands_22 : decode cL_stands 22 = .ok (.ireturn, 1) := by decide +kernel
theorem dL_stands_17 : decode cL_stands 17 = .ok (.astore 4, 2) := by decide +kernel
theorem dL_stands_19 : decode cL_stands 19 = .ok (.iconst 2, 1) := by decide +kernel
theorem dL_stands_20 : decode cL_stands 20 = .ok (.ireturn, 1) := by decide +kernel
theorem dL_stands_13 : decode cL_stands 13 = .ok (.astore 4, 2) := by decide +kernel
theorem dL_stands_15 : decode cL_stands 15 = .ok (.iconst 1, 1) := by decide +kernel
theorem dL_stands_16 : decode cL_stands 16 = .ok (.ireturn, 1) := by decide +kernel
theorem dL_off_0 : decode cL_off 0 = .ok (.aload_n 3, 1) := by decide +kernel
theorem dL_off_1 : decode cL_off 1 = .ok (.iconst 0, 1) := by decide +kernel
theorem dL_off_2 : decode cL_off 2 = .ok (.aload_n 0, 1) := by decide +kernel
theorem dL_off_3 : decode cL_off 3 = .ok (.iload_n 1, 1) := by decide +kernel
theorem dL_off_4 : decode cL_off 4 = .ok (.iload_n 2, 1) := by decide +kernel
theorem dL_off_5 : decode cL_off 5 = .ok (.invokevirtual 113, 3) := by decide +kernel
theorem dL_off_8 : decode cL_off 8 = .ok (.i2l, 1) := by decide +kernel
theorem dL_off_9 : decode cL_off 9 = .ok (.lastore, 1) := by decide +kernel
theorem dL_off_10 : decode cL_off 10 = .ok (.goto 11, 3) := by decide +kernel
theorem dL_off_21 : decode cL_off 21 = .ok (.iconst 0, 1) := by decide +kernel
theorem dL_off_22 : decode cL_off 22 = .ok (.ireturn, 1) := by decide +kernel
theorem dL_off_17 : decode cL_off 17 = .ok (.astore 4, 2) := by decide +kernel
theorem dL_off_19 : decode cL_off 19 = .ok (.iconst 2, 1) := by decide +kernel
theorem dL_off_20 : decode cL_off 20 = .ok (.ireturn, 1) := by decide +kernel
theorem dL_off_13 : decode cL_off 13 = .ok (.astore 4, 2) := by decide +kernel
theorem dL_off_15 : decode cL_off 15 = .ok (.iconst 1, 1) := by decide +kernel
theorem dL_off_16 : decode cL_off 16 = .ok (.ireturn, 1) := by decide +kernel
theorem dL_ask_0 : decode cL_ask 0 = .ok (.aload 4, 2) := by decide +kernel
theorem dL_ask_2 : decode cL_ask 2 = .ok (.iconst 0, 1) := by decide +kernel
theorem dL_ask_3 : decode cL_ask 3 = .ok (.aload_n 0, 1) := by decide +kernel
theorem dL_ask_4 : decode cL_ask 4 = .ok (.iload_n 1, 1) := by decide +kernel
theorem dL_ask_5 : decode cL_ask 5 = .ok (.iload_n 2, 1) := by decide +kernel
theorem dL_ask_6 : decode cL_ask 6 = .ok (.iload_n 3, 1) := by decide +kernel
theorem dL_ask_7 : decode cL_ask 7 = .ok (.invokevirtual 116, 3) := by decide +kernel
theorem dL_ask_10 : decode cL_ask 10 = .ok (.i2l, 1) := by decide +kernel
theorem dL_ask_11 : decode cL_ask 11 = .ok (.lastore, 1) := by decide +kernel
theorem dL_ask_12 : decode cL_ask 12 = .ok (.goto 11, 3) := by decide +kernel
theorem dL_ask_23 : decode cL_ask 23 = .ok (.iconst 0, 1) := by decide +kernel
theorem dL_ask_24 : decode cL_ask 24 = .ok (.ireturn, 1) := by decide +kernel
theorem dL_ask_19 : decode cL_ask 19 = .ok (.astore 5, 2) := by decide +kernel
theorem dL_ask_21 : decode cL_ask 21 = .ok (.iconst 2, 1) := by decide +kernel
theorem dL_ask_22 : decode cL_ask 22 = .ok (.ireturn, 1) := by decide +kernel
theorem dL_ask_15 : decode cL_ask 15 = .ok (.astore 5, 2) := by decide +kernel
theorem dL_ask_17 : decode cL_ask 17 = .ok (.iconst 1, 1) := by decide +kernel
theorem dL_ask_18 : decode cL_ask 18 = .ok (.ireturn, 1) := by decide +kernel
theorem dL_both_0 : decode cL_both 0 = .ok (.aload 5, 2) := by decide +kernel
theorem dL_both_2 : decode cL_both 2 = .ok (.iconst 0, 1) := by decide +kernel
theorem dL_both_3 : decode cL_both 3 = .ok (.aload_n 0, 1) := by decide +kernel
theorem dL_both_4 : decode cL_both 4 = .ok (.iload_n 1, 1) := by decide +kernel
theorem dL_both_5 : decode cL_both 5 = .ok (.iload_n 2, 1) := by decide +kernel
theorem dL_both_6 : decode cL_both 6 = .ok (.iload_n 3, 1) := by decide +kernel
theorem dL_both_7 : decode cL_both 7 = .ok (.iload 4, 2) := by decide +kernel
theorem dL_both_9 : decode cL_both 9 = .ok (.invokevirtual 120, 3) := by decide +kernel
theorem dL_both_12 : decode cL_both 12 = .ok (.i2l, 1) := by decide +kernel
theorem dL_both_13 : decode cL_both 13 = .ok (.lastore, 1) := by decide +kernel
theorem dL_both_14 : decode cL_both 14 = .ok (.goto 11, 3) := by decide +kernel
theorem dL_both_25 : decode cL_both 25 = .ok (.iconst 0, 1) := by decide +kernel
theorem dL_both_26 : decode cL_both 26 = .ok (.ireturn, 1) := by decide +kernel
theorem dL_both_21 : decode cL_both 21 = .ok (.astore 6, 2) := by decide +kernel
theorem dL_both_23 : decode cL_both 23 = .ok (.iconst 2, 1) := by decide +kernel
theorem dL_both_24 : decode cL_both 24 = .ok (.ireturn, 1) := by decide +kernel
theorem dL_both_17 : decode cL_both 17 = .ok (.astore 6, 2) := by decide +kernel
theorem dL_both_19 : decode cL_both 19 = .ok (.iconst 1, 1) := by decide +kernel
theorem dL_both_20 : decode cL_both 20 = .ok (.ireturn, 1) := by decide +kernel
theorem dL_where_0 : decode cL_where 0 = .ok (.aload_n 3, 1) := by decide +kernel
theorem dL_where_1 : decode cL_where 1 = .ok (.iconst 0, 1) := by decide +kernel
theorem dL_where_2 : decode cL_where 2 = .ok (.aload_n 0, 1) := by decide +kernel
theorem dL_where_3 : decode cL_where 3 = .ok (.iload_n 1, 1) := by decide +kernel
theorem dL_where_4 : decode cL_where 4 = .ok (.iload_n 2, 1) := by decide +kernel
theorem dL_where_5 : decode cL_where 5 = .ok (.invokevirtual 123, 3) := by decide +kernel
theorem dL_where_8 : decode cL_where 8 = .ok (.i2l, 1) := by decide +kernel
theorem dL_where_9 : decode cL_where 9 = .ok (.lastore, 1) := by decide +kernel
theorem dL_where_10 : decode cL_where 10 = .ok (.goto 11, 3) := by decide +kernel
theorem dL_where_21 : decode cL_where 21 = .ok (.iconst 0, 1) := by decide +kernel
theorem dL_where_22 : decode cL_where 22 = .ok (.ireturn, 1) := by decide +kernel
theorem dL_where_17 : decode cL_where 17 = .ok (.astore 4, 2) := by decide +kernel
theorem dL_where_19 : decode cL_where 19 = .ok (.iconst 2, 1) := by decide +kernel
theorem dL_where_20 : decode cL_where 20 = .ok (.ireturn, 1) := by decide +kernel
theorem dL_where_13 : decode cL_where 13 = .ok (.astore 4, 2) := by decide +kernel
theorem dL_where_15 : decode cL_where 15 = .ok (.iconst 1, 1) := by decide +kernel
theorem dL_where_16 : decode cL_where 16 = .ok (.ireturn, 1) := by decide +kernel
theorem dL_inside_0 : decode cL_inside 0 = .ok (.aload_n 2, 1) := by decide +kernel
theorem dL_inside_1 : decode cL_inside 1 = .ok (.iconst 0, 1) := by decide +kernel
theorem dL_inside_2 : decode cL_inside 2 = .ok (.aload_n 0, 1) := by decide +kernel
theorem dL_inside_3 : decode cL_inside 3 = .ok (.iload_n 1, 1) := by decide +kernel
theorem dL_inside_4 : decode cL_inside 4 = .ok (.invokevirtual 126, 3) := by decide +kernel
theorem dL_inside_7 : decode cL_inside 7 = .ok (.i2l, 1) := by decide +kernel
theorem dL_inside_8 : decode cL_inside 8 = .ok (.lastore, 1) := by decide +kernel
theorem dL_inside_9 : decode cL_inside 9 = .ok (.goto 9, 3) := by decide +kernel
theorem dL_inside_18 : decode cL_inside 18 = .ok (.iconst 0, 1) := by decide +kernel
theorem dL_inside_19 : decode cL_inside 19 = .ok (.ireturn, 1) := by decide +kernel
theorem dL_inside_15 : decode cL_inside 15 = .ok (.astore_n 3, 1) := by decide +kernel
theorem dL_inside_16 : decode cL_inside 16 = .ok (.iconst 2, 1) := by decide +kernel
theorem dL_inside_17 : decode cL_inside 17 = .ok (.ireturn, 1) := by decide +kernel
theorem dL_inside_12 : decode cL_inside 12 = .ok (.astore_n 3, 1) := by decide +kernel
theorem dL_inside_13 : decode cL_inside 13 = .ok (.iconst 1, 1) := by decide +kernel
theorem dL_inside_14 : decode cL_inside 14 = .ok (.ireturn, 1) := by decide +kernel
theorem dL_against_0 : decode cL_against 0 = .ok (.aload_n 3, 1) := by decide +kernel
theorem dL_against_1 : decode cL_against 1 = .ok (.iconst 0, 1) := by decide +kernel
theorem dL_against_2 : decode cL_against 2 = .ok (.aload_n 0, 1) := by decide +kernel
theorem dL_against_3 : decode cL_against 3 = .ok (.iload_n 1, 1) := by decide +kernel
theorem dL_against_4 : decode cL_against 4 = .ok (.iload_n 2, 1) := by decide +kernel
theorem dL_against_5 : decode cL_against 5 = .ok (.invokevirtual 129, 3) := by decide +kernel
theorem dL_against_8 : decode cL_against 8 = .ok (.i2l, 1) := by decide +kernel
theorem dL_against_9 : decode cL_against 9 = .ok (.lastore, 1) := by decide +kernel
theorem dL_against_10 : decode cL_against 10 = .ok (.goto 11, 3) := by decide +kernel
theorem dL_against_21 : decode cL_against 21 = .ok (.iconst 0, 1) := by decide +kernel
theorem dL_against_22 : decode cL_against 22 = .ok (.ireturn, 1) := by decide +kernel
theorem dL_against_17 : decode cL_against 17 = .ok (.astore 4, 2) := by decide +kernel
theorem dL_against_19 : decode cL_against 19 = .ok (.iconst 2, 1) := by decide +kernel
theorem dL_against_20 : decode cL_against 20 = .ok (.ireturn, 1) := by decide +kernel
theorem dL_against_13 : decode cL_against 13 = .ok (.astore 4, 2) := by decide +kernel
theorem dL_against_15 : decode cL_against 15 = .ok (.iconst 1, 1) := by decide +kernel
theorem dL_against_16 : decode cL_against 16 = .ok (.ireturn, 1) := by decide +kernel
theorem dL_unit_0 : decode cL_unit 0 = .ok (.aload_n 2, 1) := by decide +kernel
theorem dL_unit_1 : decode cL_unit 1 = .ok (.iconst 0, 1) := by decide +kernel
theorem dL_unit_2 : decode cL_unit 2 = .ok (.aload_n 0, 1) := by decide +kernel
theorem dL_unit_3 : decode cL_unit 3 = .ok (.iload_n 1, 1) := by decide +kernel
theorem dL_unit_4 : decode cL_unit 4 = .ok (.invokevirtual 132, 3) := by decide +kernel
theorem dL_unit_7 : decode cL_unit 7 = .ok (.i2l, 1) := by decide +kernel
theorem dL_unit_8 : decode cL_unit 8 = .ok (.lastore, 1) := by decide +kernel
theorem dL_unit_9 : decode cL_unit 9 = .ok (.goto 9, 3) := by decide +kernel
theorem dL_unit_18 : decode cL_unit 18 = .ok (.iconst 0, 1) := by decide +kernel
theorem dL_unit_19 : decode cL_unit 19 = .ok (.ireturn, 1) := by decide +kernel
theorem dL_unit_15 : decode cL_unit 15 = .ok (.astore_n 3, 1) := by decide +kernel
theorem dL_unit_16 : decode cL_unit 16 = .ok (.iconst 2, 1) := by decide +kernel
theorem dL_unit_17 : decode cL_unit 17 = .ok (.ireturn, 1) := by decide +kernel
theorem dL_unit_12 : decode cL_unit 12 = .ok (.astore_n 3, 1) := by decide +kernel
theorem dL_unit_13 : decode cL_unit 13 = .ok (.iconst 1, 1) := by decide +kernel
theorem dL_unit_14 : decode cL_unit 14 = .ok (.ireturn, 1) := by decide +kernel
theorem dL_sentence_0 : decode cL_sentence 0 = .ok (.aload 6, 2) := by decide +kernel
theorem dL_sentence_2 : decode cL_sentence 2 = .ok (.iconst 0, 1) := by decide +kernel
theorem dL_sentence_3 : decode cL_sentence 3 = .ok (.aload_n 0, 1) := by decide +kernel
theorem dL_sentence_4 : decode cL_sentence 4 = .ok (.iload_n 1, 1) := by decide +kernel
theorem dL_sentence_5 : decode cL_sentence 5 = .ok (.iload_n 2, 1) := by decide +kernel
theorem dL_sentence_6 : decode cL_sentence 6 = .ok (.iload_n 3, 1) := by decide +kernel
theorem dL_sentence_7 : decode cL_sentence 7 = .ok (.iload 4, 2) := by decide +kernel
theorem dL_sentence_9 : decode cL_sentence 9 = .ok (.iload 5, 2) := by decide +kernel
theorem dL_sentence_11 : decode cL_sentence 11 = .ok (.invokevirtual 135, 3) := by decide +kernel
theorem dL_sentence_14 : decode cL_sentence 14 = .ok (.i2l, 1) := by decide +kernel
theorem dL_sentence_15 : decode cL_sentence 15 = .ok (.lastore, 1) := by decide +kernel
theorem dL_sentence_16 : decode cL_sentence 16 = .ok (.goto 11, 3) := by decide +kernel
theorem dL_sentence_27 : decode cL_sentence 27 = .ok (.iconst 0, 1) := by decide +kernel
theorem dL_sentence_28 : decode cL_sentence 28 = .ok (.ireturn, 1) := by decide +kernel
theorem dL_sentence_23 : decode cL_sentence 23 = .ok (.astore 7, 2) := by decide +kernel
theorem dL_sentence_25 : decode cL_sentence 25 = .ok (.iconst 2, 1) := by decide +kernel
theorem dL_sentence_26 : decode cL_sentence 26 = .ok (.ireturn, 1) := by decide +kernel
theorem dL_sentence_19 : decode cL_sentence 19 = .ok (.astore 7, 2) := by decide +kernel
theorem dL_sentence_21 : decode cL_sentence 21 = .ok (.iconst 1, 1) := by decide +kernel
theorem dL_sentence_22 : decode cL_sentence 22 = .ok (.ireturn, 1) := by decide +kernel
theorem zl_X11_494 : zm_L zk_E RX11 494 yX1_addDisturbance (.code yX1_addDisturbance cX1_addDisturbance 3 (some .boolean)) 1 ∧ Cond.instanceMethod yX1_addDisturbance ∈ zk_E.2.2.1 ∧ Cond.selects yX1_addDisturbance.cls yX1_addDisturbance yX1_addDisturbance ∈ zk_E.2.2.1 := ⟨⟨zk_b11 72 (by decide +kernel) rfl, zk_b1 10 (by decide +kernel) rfl, zk_b11 69 (by decide +kernel) rfl, by decide +kernel, by decide +kernel, by decide +kernel⟩, zk_b11 70 (by decide +kernel) rfl, zk_b11 71 (by decide +kernel) rfl⟩
theorem zl_X11_491 : zm_FN zk_E RX11 491 1 8 := ⟨RX1, TX1, 20, "TowerHouse", rfl, zk_i1, by decide, zk_n3 38 (by decide +kernel) rfl⟩
theorem zl_X11_497 : zm_L zk_E RX11 497 yX1_stationFact (.code yX1_stationFact cX1_stationFact 4 (some .int)) 2 ∧ Cond.instanceMethod yX1_stationFact ∈ zk_E.2.2.1 ∧ Cond.selects yX1_stationFact.cls yX1_stationFact yX1_stationFact ∈ zk_E.2.2.1 := ⟨⟨zk_b11 83 (by decide +kernel) rfl, zk_b1 10 (by decide +kernel) rfl, zk_b11 80 (by decide +kernel) rfl, by decide +kernel, by decide +kernel, by decide +kernel⟩, zk_b11 81 (by decide +kernel) rfl, zk_b11 82 (by decide +kernel) rfl⟩
theorem zl_X11_500 : zm_FN zk_E RX11 500 1 19 := ⟨RX1, TX1, 20, "TowerHouse", rfl, zk_i1, by decide, zk_n3 53 (by decide +kernel) rfl⟩
theorem zl_X11_503 : zm_FN zk_E RX11 503 1 15 := ⟨RX1, TX1, 20, "TowerHouse", rfl, zk_i1, by decide, zk_n3 47 (by decide +kernel) rfl⟩
theorem zl_X11_509 : zm_FN zk_E RX11 509 1 14 := ⟨RX1, TX1, 20, "TowerHouse", rfl, zk_i1, by decide, zk_n3 45 (by decide +kernel) rfl⟩
theorem zl_X11_506 : zm_FN zk_E RX11 506 1 18 := ⟨RX1, TX1, 20, "TowerHouse", rfl, zk_i1, by decide, zk_n3 51 (by decide +kernel) rfl⟩
theorem zl_X11_512 : zm_L zk_E RX11 512 yX11_isFloor (.code yX11_isFloor cX11_isFloor 1 (some .boolean)) 1 ∧ Cond.static yX11_isFloor ∈ zk_E.2.2.1 := ⟨⟨zk_b11 107 (by decide +kernel) rfl, zk_b1 1 (by decide +kernel) rfl, zk_b11 105 (by decide +kernel) rfl, by decide +kernel, by decide +kernel, by decide +kernel⟩, zk_b11 106 (by decide +kernel) rfl⟩
theorem zl_X11_518 : zm_L zk_E RX11 518 yX3_addCar (.code yX3_addCar cX3_addCar 4 (some .int)) 2 ∧ Cond.instanceMethod yX3_addCar ∈ zk_E.2.2.1 ∧ Cond.selects yX3_addCar.cls yX3_addCar yX3_addCar ∈ zk_E.2.2.1 := ⟨⟨zk_b11 111 (by decide +kernel) rfl, zk_b1 12 (by decide +kernel) rfl, zk_b11 108 (by decide +kernel) rfl, by decide +kernel, by decide +kernel, by decide +kernel⟩, zk_b11 109 (by decide +kernel) rfl, zk_b11 110 (by decide +kernel) rfl⟩
theorem zl_X11_515 : zm_FN zk_E RX11 515 3 0 := ⟨RX3, TX3, 16, "TowerHouse", rfl, zk_i3, by decide, zk_n3 174 (by decide +kernel) rfl⟩
theorem zl_X11_521 : zm_L zk_E RX11 521 yX11_isCar (.code yX11_isCar cX11_isCar 2 (some .boolean)) 1 ∧ Cond.instanceMethod yX11_isCar ∈ zk_E.2.2.1 ∧ Cond.selects yX11_isCar.cls yX11_isCar yX11_isCar ∈ zk_E.2.2.1 := ⟨⟨zk_b11 122 (by decide +kernel) rfl, zk_b1 1 (by decide +kernel) rfl, zk_b11 119 (by decide +kernel) rfl, by decide +kernel, by decide +kernel, by decide +kernel⟩, zk_b11 121 (by decide +kernel) rfl, zk_s8 (q := (yX11_isCar, 13)) 0 (by decide +kernel)⟩
theorem zl_X11_525 : zm_L zk_E RX11 525 yX3_setFree (.code yX3_setFree cX3_setFree 4 none) 3 ∧ Cond.instanceMethod yX3_setFree ∈ zk_E.2.2.1 ∧ Cond.selects yX3_setFree.cls yX3_setFree yX3_setFree ∈ zk_E.2.2.1 := ⟨⟨zk_b11 127 (by decide +kernel) rfl, zk_b1 12 (by decide +kernel) rfl, zk_b11 124 (by decide +kernel) rfl, by decide +kernel, by decide +kernel, by decide +kernel⟩, zk_b11 125 (by decide +kernel) rfl, zk_b11 126 (by decide +kernel) rfl⟩
theorem zl_X11_524 : Cond.constant RX11 524 (100000 : Int32) ∈ zk_E.2.2.1 := zk_b11 123 (by decide +kernel) rfl
theorem zl_X11_529 : zm_L zk_E RX11 529 yX3_setSpan (.code yX3_setSpan cX3_setSpan 4 none) 3 ∧ Cond.instanceMethod yX3_setSpan ∈ zk_E.2.2.1 ∧ Cond.selects yX3_setSpan.cls yX3_setSpan yX3_setSpan ∈ zk_E.2.2.1 := ⟨⟨zk_b11 138 (by decide +kernel) rfl, zk_b1 12 (by decide +kernel) rfl, zk_b11 135 (by decide +kernel) rfl, by decide +kernel, by decide +kernel, by decide +kernel⟩, zk_b11 136 (by decide +kernel) rfl, zk_b11 137 (by decide +kernel) rfl⟩
theorem zl_X11_538 : zm_L zk_E RX11 538 yX3_addCall (.code yX3_addCall cX3_addCall 4 (some .int)) 3 ∧ Cond.instanceMethod yX3_addCall ∈ zk_E.2.2.1 ∧ Cond.selects yX3_addCall.cls yX3_addCall yX3_addCall ∈ zk_E.2.2.1 := ⟨⟨zk_b11 149 (by decide +kernel) rfl, zk_b1 12 (by decide +kernel) rfl, zk_b11 146 (by decide +kernel) rfl, by decide +kernel, by decide +kernel, by decide +kernel⟩, zk_b11 147 (by decide +kernel) rfl, zk_b11 148 (by decide +kernel) rfl⟩
theorem zl_X11_532 : zm_FN zk_E RX11 532 3 4 := ⟨RX3, TX3, 16, "TowerHouse", rfl, zk_i3, by decide, zk_n3 180 (by decide +kernel) rfl⟩
theorem zl_X11_535 : zm_FN zk_E RX11 535 3 2 := ⟨RX3, TX3, 16, "TowerHouse", rfl, zk_i3, by decide, zk_n3 177 (by decide +kernel) rfl⟩
theorem zl_X11_541 : zm_L zk_E RX11 541 yX3_isOpenCall (.code yX3_isOpenCall cX3_isOpenCall 2 (some .boolean)) 1 ∧ Cond.instanceMethod yX3_isOpenCall ∈ zk_E.2.2.1 ∧ Cond.selects yX3_isOpenCall.cls yX3_isOpenCall yX3_isOpenCall ∈ zk_E.2.2.1 := ⟨⟨zk_b11 161 (by decide +kernel) rfl, zk_b1 12 (by decide +kernel) rfl, zk_b11 158 (by decide +kernel) rfl, by decide +kernel, by decide +kernel, by decide +kernel⟩, zk_b11 159 (by decide +kernel) rfl, zk_b11 160 (by decide +kernel) rfl⟩
theorem zl_X11_544 : zm_L zk_E RX11 544 yX3_setBegun (.code yX3_setBegun cX3_setBegun 4 (some .boolean)) 2 ∧ Cond.instanceMethod yX3_setBegun ∈ zk_E.2.2.1 ∧ Cond.selects yX3_setBegun.cls yX3_setBegun yX3_setBegun ∈ zk_E.2.2.1 := ⟨⟨zk_b11 169 (by decide +kernel) rfl, zk_b1 12 (by decide +kernel) rfl, zk_b11 166 (by decide +kernel) rfl, by decide +kernel, by decide +kernel, by decide +kernel⟩, zk_b11 167 (by decide +kernel) rfl, zk_b11 168 (by decide +kernel) rfl⟩
theorem zl_X11_547 : zm_L zk_E RX11 547 yX3_closeCall (.code yX3_closeCall cX3_closeCall 3 none) 1 ∧ Cond.instanceMethod yX3_closeCall ∈ zk_E.2.2.1 ∧ Cond.selects yX3_closeCall.cls yX3_closeCall yX3_closeCall ∈ zk_E.2.2.1 := ⟨⟨zk_b11 190 (by decide +kernel) rfl, zk_b1 12 (by decide +kernel) rfl, zk_b11 187 (by decide +kernel) rfl, by decide +kernel, by decide +kernel, by decide +kernel⟩, zk_b11 188 (by decide +kernel) rfl, zk_b11 189 (by decide +kernel) rfl⟩
theorem zl_X11_550 : zm_L zk_E RX11 550 yX11_isHome (.code yX11_isHome cX11_isHome 1 (some .boolean)) 0 ∧ Cond.instanceMethod yX11_isHome ∈ zk_E.2.2.1 ∧ Cond.selects yX11_isHome.cls yX11_isHome yX11_isHome ∈ zk_E.2.2.1 := ⟨⟨zk_b11 202 (by decide +kernel) rfl, zk_b1 1 (by decide +kernel) rfl, zk_b11 199 (by decide +kernel) rfl, by decide +kernel, by decide +kernel, by decide +kernel⟩, zk_b11 201 (by decide +kernel) rfl, zk_s8 (q := (yX11_isHome, 13)) 4 (by decide +kernel)⟩
theorem zl_X11_553 : zm_L zk_E RX11 553 yX3_makeGiving (.code yX3_makeGiving cX3_makeGiving 4 (some .long)) 2 ∧ Cond.instanceMethod yX3_makeGiving ∈ zk_E.2.2.1 ∧ Cond.selects yX3_makeGiving.cls yX3_makeGiving yX3_makeGiving ∈ zk_E.2.2.1 := ⟨⟨zk_b11 206 (by decide +kernel) rfl, zk_b1 12 (by decide +kernel) rfl, zk_b11 203 (by decide +kernel) rfl, by decide +kernel, by decide +kernel, by decide +kernel⟩, zk_b11 204 (by decide +kernel) rfl, zk_b11 205 (by decide +kernel) rfl⟩
theorem zl_X11_557 : zm_FN zk_E RX11 557 3 6 := ⟨RX3, TX3, 16, "TowerHouse", rfl, zk_i3, by decide, zk_n3 183 (by decide +kernel) rfl⟩
theorem zl_X11_560 : zm_L zk_E RX11 560 yX2_cellNumber (.code yX2_cellNumber cX2_cellNumber 2 (some .int)) 2 ∧ Cond.static yX2_cellNumber ∈ zk_E.2.2.1 := ⟨⟨zk_b5 63 (by decide +kernel) rfl, zk_b1 3 (by decide +kernel) rfl, zk_b12 31 (by decide +kernel) rfl, by decide +kernel, by decide +kernel, by decide +kernel⟩, zk_b5 62 (by decide +kernel) rfl⟩
theorem zl_X11_563 : zm_L zk_E RX11 563 yX10_addSmoke (.code yX10_addSmoke cX10_addSmoke 3 (some .boolean)) 1 ∧ Cond.instanceMethod yX10_addSmoke ∈ zk_E.2.2.1 ∧ Cond.selects yX10_addSmoke.cls yX10_addSmoke yX10_addSmoke ∈ zk_E.2.2.1 := ⟨⟨zk_b12 35 (by decide +kernel) rfl, zk_b1 6 (by decide +kernel) rfl, zk_b12 32 (by decide +kernel) rfl, by decide +kernel, by decide +kernel, by decide +kernel⟩, zk_b12 33 (by decide +kernel) rfl, zk_b12 34 (by decide +kernel) rfl⟩
theorem zl_X11_566 : zm_L zk_E RX11 566 yX10_cellFact (.code yX10_cellFact cX10_cellFact 3 (some .int)) 2 ∧ Cond.instanceMethod yX10_cellFact ∈ zk_E.2.2.1 ∧ Cond.selects yX10_cellFact.cls yX10_cellFact yX10_cellFact ∈ zk_E.2.2.1 := ⟨⟨zk_b12 46 (by decide +kernel) rfl, zk_b1 6 (by decide +kernel) rfl, zk_b12 43 (by decide +kernel) rfl, by decide +kernel, by decide +kernel, by decide +kernel⟩, zk_b12 44 (by decide +kernel) rfl, zk_b12 45 (by decide +kernel) rfl⟩
theorem zt_11_12 : zm_T zk_E RX11 11 12 .int false := ⟨RX11, TX11, 13, tyX11, rfl, tyX11_ok, nmX11, rfl, rfl, rfl⟩
theorem zl_X11_584 : zm_L zk_E RX11 584 yX10_spreadSmoke (.code yX10_spreadSmoke cX10_spreadSmoke 6 none) 1 ∧ Cond.instanceMethod yX10_spreadSmoke ∈ zk_E.2.2.1 ∧ Cond.selects yX10_spreadSmoke.cls yX10_spreadSmoke yX10_spreadSmoke ∈ zk_E.2.2.1 := ⟨⟨zk_b12 71 (by decide +kernel) rfl, zk_b1 6 (by decide +kernel) rfl, zk_b12 68 (by decide +kernel) rfl, by decide +kernel, by decide +kernel, by decide +kernel⟩, zk_b12 69 (by decide +kernel) rfl, zk_b12 70 (by decide +kernel) rfl⟩
theorem zl_X11_587 : zm_FN zk_E RX11 587 10 3 := ⟨RX10, TX10, 11, "TowerHouse", rfl, zk_i10, by decide, zk_n2 24 (by decide +kernel) rfl⟩
theorem zl_X11_590 : Cond.methodLink RX11 590 Lib.Math.min.name ∈ zk_E.2.2.1 ∧ Cond.static Lib.Math.min.name ∈ zk_E.2.2.1 ∧ Cond.initialized "java/lang/Math" ∈ zk_E.2.2.1 ∧ Cond.code Lib.Math.min.name Lib.Math.min.code 2 (some .int) ∈ zk_E.2.2.1 := ⟨zk_b12 73 (by decide +kernel) rfl, zk_b4 214 (by decide +kernel) rfl, zk_b1 25 (by decide +kernel) rfl, zk_b4 215 (by decide +kernel) rfl⟩
theorem zl_X11_595 : zm_FN zk_E RX11 595 9 6 := ⟨RX9, TX9, 20, "TowerHouse", rfl, zk_i9, by decide, zk_n2 198 (by decide +kernel) rfl⟩
theorem zl_X11_598 : zm_L zk_E RX11 598 yX4_setSwitch (.code yX4_setSwitch cX4_setSwitch 4 none) 2 ∧ Cond.instanceMethod yX4_setSwitch ∈ zk_E.2.2.1 ∧ Cond.selects yX4_setSwitch.cls yX4_setSwitch yX4_setSwitch ∈ zk_E.2.2.1 := ⟨⟨zk_b12 77 (by decide +kernel) rfl, zk_b1 11 (by decide +kernel) rfl, zk_b12 74 (by decide +kernel) rfl, by decide +kernel, by decide +kernel, by decide +kernel⟩, zk_b12 75 (by decide +kernel) rfl, zk_b12 76 (by decide +kernel) rfl⟩
theorem zl_X11_602 : zm_L zk_E RX11 602 yX4_runActs (.code yX4_runActs cX4_runActs 3 none) 1 ∧ Cond.instanceMethod yX4_runActs ∈ zk_E.2.2.1 ∧ Cond.selects yX4_runActs.cls yX4_runActs yX4_runActs ∈ zk_E.2.2.1 := ⟨⟨zk_b12 82 (by decide +kernel) rfl, zk_b1 11 (by decide +kernel) rfl, zk_b12 79 (by decide +kernel) rfl, by decide +kernel, by decide +kernel, by decide +kernel⟩, zk_b12 80 (by decide +kernel) rfl, zk_b12 81 (by decide +kernel) rfl⟩
theorem zl_X11_572 : zm_L zk_E RX11 572 yX10_countFreeInside (.code yX10_countFreeInside cX10_countFreeInside 3 (some .int)) 0 ∧ Cond.instanceMethod yX10_countFreeInside ∈ zk_E.2.2.1 ∧ Cond.selects yX10_countFreeInside.cls yX10_countFreeInside yX10_countFreeInside ∈ zk_E.2.2.1 := ⟨⟨zk_b12 99 (by decide +kernel) rfl, zk_b1 6 (by decide +kernel) rfl, zk_b12 96 (by decide +kernel) rfl, by decide +kernel, by decide +kernel, by decide +kernel⟩, zk_b12 97 (by decide +kernel) rfl, zk_b12 98 (by decide +kernel) rfl⟩
theorem zl_X11_575 : zm_L zk_E RX11 575 yX4_countDone (.code yX4_countDone cX4_countDone 3 (some .int)) 0 ∧ Cond.instanceMethod yX4_countDone ∈ zk_E.2.2.1 ∧ Cond.selects yX4_countDone.cls yX4_countDone yX4_countDone ∈ zk_E.2.2.1 := ⟨⟨zk_b12 107 (by decide +kernel) rfl, zk_b1 11 (by decide +kernel) rfl, zk_b12 104 (by decide +kernel) rfl, by decide +kernel, by decide +kernel, by decide +kernel⟩, zk_b12 105 (by decide +kernel) rfl, zk_b12 106 (by decide +kernel) rfl⟩
theorem zl_X11_578 : zm_FN zk_E RX11 578 10 4 := ⟨RX10, TX10, 11, "TowerHouse", rfl, zk_i10, by decide, zk_n2 26 (by decide +kernel) rfl⟩
theorem zl_X11_605 : zm_L zk_E RX11 605 yX9_reckonBlocks (.code yX9_reckonBlocks cX9_reckonBlocks 3 none) 1 ∧ Cond.instanceMethod yX9_reckonBlocks ∈ zk_E.2.2.1 ∧ Cond.selects yX9_reckonBlocks.cls yX9_reckonBlocks yX9_reckonBlocks ∈ zk_E.2.2.1 := ⟨⟨zk_b12 111 (by decide +kernel) rfl, zk_b1 9 (by decide +kernel) rfl, zk_b12 108 (by decide +kernel) rfl, by decide +kernel, by decide +kernel, by decide +kernel⟩, zk_b12 109 (by decide +kernel) rfl, zk_b12 110 (by decide +kernel) rfl⟩
theorem zl_X11_608 : zm_L zk_E RX11 608 yX1_runBitTime (.code yX1_runBitTime cX1_runBitTime 3 none) 0 ∧ Cond.instanceMethod yX1_runBitTime ∈ zk_E.2.2.1 ∧ Cond.selects yX1_runBitTime.cls yX1_runBitTime yX1_runBitTime ∈ zk_E.2.2.1 := ⟨⟨zk_b12 174 (by decide +kernel) rfl, zk_b1 10 (by decide +kernel) rfl, zk_b12 171 (by decide +kernel) rfl, by decide +kernel, by decide +kernel, by decide +kernel⟩, zk_b12 172 (by decide +kernel) rfl, zk_b12 173 (by decide +kernel) rfl⟩
theorem zl_X11_611 : zm_L zk_E RX11 611 yX10_catchPersons (.code yX10_catchPersons cX10_catchPersons 3 none) 1 ∧ Cond.instanceMethod yX10_catchPersons ∈ zk_E.2.2.1 ∧ Cond.selects yX10_catchPersons.cls yX10_catchPersons yX10_catchPersons ∈ zk_E.2.2.1 := ⟨⟨zk_b13 14 (by decide +kernel) rfl, zk_b1 6 (by decide +kernel) rfl, zk_b13 11 (by decide +kernel) rfl, by decide +kernel, by decide +kernel, by decide +kernel⟩, zk_b13 12 (by decide +kernel) rfl, zk_b13 13 (by decide +kernel) rfl⟩
theorem zl_X11_581 : zm_L zk_E RX11 581 yX11_doPersonsLeave (.code yX11_doPersonsLeave cX11_doPersonsLeave 1 (some .boolean)) 0 ∧ Cond.instanceMethod yX11_doPersonsLeave ∈ zk_E.2.2.1 ∧ Cond.selects yX11_doPersonsLeave.cls yX11_doPersonsLeave yX11_doPersonsLeave ∈ zk_E.2.2.1 := ⟨⟨zk_b13 18 (by decide +kernel) rfl, zk_b1 1 (by decide +kernel) rfl, zk_b13 15 (by decide +kernel) rfl, by decide +kernel, by decide +kernel, by decide +kernel⟩, zk_b13 17 (by decide +kernel) rfl, zk_s11 (q := (yX11_doPersonsLeave, 13)) 0 (by decide +kernel)⟩
theorem zl_X11_614 : zm_L zk_E RX11 614 yX10_movePersons (.code yX10_movePersons cX10_movePersons 4 none) 1 ∧ Cond.instanceMethod yX10_movePersons ∈ zk_E.2.2.1 ∧ Cond.selects yX10_movePersons.cls yX10_movePersons yX10_movePersons ∈ zk_E.2.2.1 := ⟨⟨zk_b13 22 (by decide +kernel) rfl, zk_b1 6 (by decide +kernel) rfl, zk_b13 19 (by decide +kernel) rfl, by decide +kernel, by decide +kernel, by decide +kernel⟩, zk_b13 20 (by decide +kernel) rfl, zk_b13 21 (by decide +kernel) rfl⟩
theorem zl_X11_569 : zm_L zk_E RX11 569 yX11_passSecond (.code yX11_passSecond cX11_passSecond 2 none) 0 ∧ Cond.instanceMethod yX11_passSecond ∈ zk_E.2.2.1 ∧ Cond.selects yX11_passSecond.cls yX11_passSecond yX11_passSecond ∈ zk_E.2.2.1 := ⟨⟨zk_b12 67 (by decide +kernel) rfl, zk_b1 1 (by decide +kernel) rfl, zk_b12 64 (by decide +kernel) rfl, by decide +kernel, by decide +kernel, by decide +kernel⟩, zk_b12 66 (by decide +kernel) rfl, zk_s9 (q := (yX11_passSecond, 13)) 1 (by decide +kernel)⟩
theorem zl_L_7 : zm_L zk_E RL 7 yX11_line (.code yX11_line cX11_line 6 (some .int)) 4 ∧ Cond.instanceMethod yX11_line ∈ zk_E.2.2.1 ∧ Cond.selects yX11_line.cls yX11_line yX11_line ∈ zk_E.2.2.1 := ⟨⟨zk_b4 113 (by decide +kernel) rfl, zk_b1 1 (by decide +kernel) rfl, zk_b4 110 (by decide +kernel) rfl, by decide +kernel, by decide +kernel, by decide +kernel⟩, zk_b4 111 (by decide +kernel) rfl, zk_b4 112 (by decide +kernel) rfl⟩
theorem zl_L_c13 : Cond.classLink RL 13 "java/lang/IllegalArgumentException" ∈ zk_E.2.2.1 := zk_b4 108 (by decide +kernel) rfl
theorem zl_L_c15 : Cond.classLink RL 15 "java/lang/IllegalStateException" ∈ zk_E.2.2.1 := zk_b4 109 (by decide +kernel) rfl
theorem zl_cast_IllegalStateException : Cond.castable "java/lang/IllegalStateException" "java/lang/IllegalStateException" ∈ zk_E.2.2.2.1 := zk_n4 195 (by decide +kernel) rfl
theorem zl_cast_IllegalArgumentException : Cond.castable "java/lang/IllegalArgumentException" "java/lang/IllegalArgumentException" ∈ zk_E.2.2.2.1 := zk_n4 125 (by decide +kernel) rfl
theorem zl_L_17 : zm_L zk_E RL 17 yX11_move (.code yX11_move cX11_move 5 (some .boolean)) 3 ∧ Cond.instanceMethod yX11_move ∈ zk_E.2.2.1 ∧ Cond.selects yX11_move.cls yX11_move yX11_move ∈ zk_E.2.2.1 := ⟨⟨zk_b4 233 (by decide +kernel) rfl, zk_b1 1 (by decide +kernel) rfl, zk_b4 230 (by decide +kernel) rfl, by decide +kernel, by decide +kernel, by decide +kernel⟩, zk_b4 231 (by decide +kernel) rfl, zk_b4 232 (by decide +kernel) rfl⟩
theorem zl_L_21 : zm_L zk_E RL 21 yX11_door (.code yX11_door cX11_door 5 (some .int)) 4 ∧ Cond.instanceMethod yX11_door ∈ zk_E.2.2.1 ∧ Cond.selects yX11_door.cls yX11_door yX11_door ∈ zk_E.2.2.1 := ⟨⟨zk_b5 13 (by decide +kernel) rfl, zk_b1 1 (by decide +kernel) rfl, zk_b5 10 (by decide +kernel) rfl, by decide +kernel, by decide +kernel, by decide +kernel⟩, zk_b5 11 (by decide +kernel) rfl, zk_b5 12 (by decide +kernel) rfl⟩
theorem zl_L_24 : zm_L zk_E RL 24 yX11_find (.code yX11_find cX11_find 1 (some .int)) 0 ∧ Cond.instanceMethod yX11_find ∈ zk_E.2.2.1 ∧ Cond.selects yX11_find.cls yX11_find yX11_find ∈ zk_E.2.2.1 := ⟨⟨zk_b5 28 (by decide +kernel) rfl, zk_b1 1 (by decide +kernel) rfl, zk_b5 25 (by decide +kernel) rfl, by decide +kernel, by decide +kernel, by decide +kernel⟩, zk_b5 26 (by decide +kernel) rfl, zk_b5 27 (by decide +kernel) rfl⟩
theorem zl_L_28 : zm_L zk_E RL 28 yX11_count (.code yX11_count cX11_count 2 (some .int)) 1 ∧ Cond.instanceMethod yX11_count ∈ zk_E.2.2.1 ∧ Cond.selects yX11_count.cls yX11_count yX11_count ∈ zk_E.2.2.1 := ⟨⟨zk_b6 138 (by decide +kernel) rfl, zk_b1 1 (by decide +kernel) rfl, zk_b6 135 (by decide +kernel) rfl, by decide +kernel, by decide +kernel, by decide +kernel⟩, zk_b6 136 (by decide +kernel) rfl, zk_b6 137 (by decide +kernel) rfl⟩
theorem zl_L_32 : zm_L zk_E RL 32 yX11_sides (.code yX11_sides cX11_sides 3 (some .int)) 2 ∧ Cond.instanceMethod yX11_sides ∈ zk_E.2.2.1 ∧ Cond.selects yX11_sides.cls yX11_sides yX11_sides ∈ zk_E.2.2.1 := ⟨⟨zk_b6 157 (by decide +kernel) rfl, zk_b1 1 (by decide +kernel) rfl, zk_b6 154 (by decide +kernel) rfl, by decide +kernel, by decide +kernel, by decide +kernel⟩, zk_b6 155 (by decide +kernel) rfl, zk_b6 156 (by decide +kernel) rfl⟩
theorem zl_L_36 : zm_L zk_E RL 36 yX11_side (.code yX11_side cX11_side 5 (some .int)) 4 ∧ Cond.instanceMethod yX11_side ∈ zk_E.2.2.1 ∧ Cond.selects yX11_side.cls yX11_side yX11_side ∈ zk_E.2.2.1 := ⟨⟨zk_b6 176 (by decide +kernel) rfl, zk_b1 1 (by decide +kernel) rfl, zk_b6 173 (by decide +kernel) rfl, by decide +kernel, by decide +kernel, by decide +kernel⟩, zk_b6 174 (by decide +kernel) rfl, zk_b6 175 (by decide +kernel) rfl⟩
theorem zl_L_39 : zm_L zk_E RL 39 yX11_size (.code yX11_size cX11_size 3 (some .int)) 2 ∧ Cond.instanceMethod yX11_size ∈ zk_E.2.2.1 ∧ Cond.selects yX11_size.cls yX11_size yX11_size ∈ zk_E.2.2.1 := ⟨⟨zk_b6 187 (by decide +kernel) rfl, zk_b1 1 (by decide +kernel) rfl, zk_b6 184 (by decide +kernel) rfl, by decide +kernel, by decide +kernel, by decide +kernel⟩, zk_b6 185 (by decide +kernel) rfl, zk_b6 186 (by decide +kernel) rfl⟩
theorem zl_L_42 : zm_L zk_E RL 42 yX11_at (.code yX11_at cX11_at 3 (some .int)) 2 ∧ Cond.instanceMethod yX11_at ∈ zk_E.2.2.1 ∧ Cond.selects yX11_at.cls yX11_at yX11_at ∈ zk_E.2.2.1 := ⟨⟨zk_b6 202 (by decide +kernel) rfl, zk_b1 1 (by decide +kernel) rfl, zk_b6 199 (by decide +kernel) rfl, by decide +kernel, by decide +kernel, by decide +kernel⟩, zk_b6 200 (by decide +kernel) rfl, zk_b6 201 (by decide +kernel) rfl⟩
theorem zl_L_45 : zm_L zk_E RL 45 yX11_between (.code yX11_between cX11_between 3 (some .int)) 2 ∧ Cond.instanceMethod yX11_between ∈ zk_E.2.2.1 ∧ Cond.selects yX11_between.cls yX11_between yX11_between ∈ zk_E.2.2.1 := ⟨⟨zk_b6 213 (by decide +kernel) rfl, zk_b1 1 (by decide +kernel) rfl, zk_b6 210 (by decide +kernel) rfl, by decide +kernel, by decide +kernel, by decide +kernel⟩, zk_b6 211 (by decide +kernel) rfl, zk_b6 212 (by decide +kernel) rfl⟩
theorem zl_L_48 : zm_L zk_E RL 48 yX11_way (.code yX11_way cX11_way 3 (some .int)) 2 ∧ Cond.instanceMethod yX11_way ∈ zk_E.2.2.1 ∧ Cond.selects yX11_way.cls yX11_way yX11_way ∈ zk_E.2.2.1 := ⟨⟨zk_b6 228 (by decide +kernel) rfl, zk_b1 1 (by decide +kernel) rfl, zk_b6 225 (by decide +kernel) rfl, by decide +kernel, by decide +kernel, by decide +kernel⟩, zk_b6 226 (by decide +kernel) rfl, zk_b6 227 (by decide +kernel) rfl⟩
theorem zl_L_51 : zm_L zk_E RL 51 yX11_name (.code yX11_name cX11_name 4 (some .int)) 2 ∧ Cond.instanceMethod yX11_name ∈ zk_E.2.2.1 ∧ Cond.selects yX11_name.cls yX11_name yX11_name ∈ zk_E.2.2.1 := ⟨⟨zk_b7 27 (by decide +kernel) rfl, zk_b1 1 (by decide +kernel) rfl, zk_b7 24 (by decide +kernel) rfl, by decide +kernel, by decide +kernel, by decide +kernel⟩, zk_b7 25 (by decide +kernel) rfl, zk_b7 26 (by decide +kernel) rfl⟩
theorem zl_L_54 : zm_L zk_E RL 54 yX11_nameOf (.code yX11_nameOf cX11_nameOf 2 (some .int)) 1 ∧ Cond.instanceMethod yX11_nameOf ∈ zk_E.2.2.1 ∧ Cond.selects yX11_nameOf.cls yX11_nameOf yX11_nameOf ∈ zk_E.2.2.1 := ⟨⟨zk_b7 34 (by decide +kernel) rfl, zk_b1 1 (by decide +kernel) rfl, zk_b7 31 (by decide +kernel) rfl, by decide +kernel, by decide +kernel, by decide +kernel⟩, zk_b7 32 (by decide +kernel) rfl, zk_b7 33 (by decide +kernel) rfl⟩
theorem zl_L_57 : zm_L zk_E RL 57 yX11_say (.code yX11_say cX11_say 3 (some .int)) 1 ∧ Cond.instanceMethod yX11_say ∈ zk_E.2.2.1 ∧ Cond.selects yX11_say.cls yX11_say yX11_say ∈ zk_E.2.2.1 := ⟨⟨zk_b7 41 (by decide +kernel) rfl, zk_b1 1 (by decide +kernel) rfl, zk_b7 38 (by decide +kernel) rfl, by decide +kernel, by decide +kernel, by decide +kernel⟩, zk_b7 39 (by decide +kernel) rfl, zk_b7 40 (by decide +kernel) rfl⟩
theorem zl_L_61 : zm_L zk_E RL 61 yX11_trim (.code yX11_trim cX11_trim 2 (some .int)) 1 ∧ Cond.instanceMethod yX11_trim ∈ zk_E.2.2.1 ∧ Cond.selects yX11_trim.cls yX11_trim yX11_trim ∈ zk_E.2.2.1 := ⟨⟨zk_b7 62 (by decide +kernel) rfl, zk_b1 1 (by decide +kernel) rfl, zk_b7 59 (by decide +kernel) rfl, by decide +kernel, by decide +kernel, by decide +kernel⟩, zk_b7 60 (by decide +kernel) rfl, zk_b7 61 (by decide +kernel) rfl⟩
theorem zl_L_64 : zm_L zk_E RL 64 yX11_fact (.code yX11_fact cX11_fact 4 (some .long)) 2 ∧ Cond.instanceMethod yX11_fact ∈ zk_E.2.2.1 ∧ Cond.selects yX11_fact.cls yX11_fact yX11_fact ∈ zk_E.2.2.1 := ⟨⟨zk_b7 69 (by decide +kernel) rfl, zk_b1 1 (by decide +kernel) rfl, zk_b7 66 (by decide +kernel) rfl, by decide +kernel, by decide +kernel, by decide +kernel⟩, zk_b7 67 (by decide +kernel) rfl, zk_b7 68 (by decide +kernel) rfl⟩
theorem zl_L_68 : zm_L zk_E RL 68 yX11_measure (.code yX11_measure cX11_measure 6 (some .int)) 3 ∧ Cond.instanceMethod yX11_measure ∈ zk_E.2.2.1 ∧ Cond.selects yX11_measure.cls yX11_measure yX11_measure ∈ zk_E.2.2.1 := ⟨⟨zk_b7 97 (by decide +kernel) rfl, zk_b1 1 (by decide +kernel) rfl, zk_b7 94 (by decide +kernel) rfl, by decide +kernel, by decide +kernel, by decide +kernel⟩, zk_b7 95 (by decide +kernel) rfl, zk_b7 96 (by decide +kernel) rfl⟩
theorem zl_L_72 : zm_L zk_E RL 72 yX11_check (.code yX11_check cX11_check 2 (some .int)) 1 ∧ Cond.instanceMethod yX11_check ∈ zk_E.2.2.1 ∧ Cond.selects yX11_check.cls yX11_check yX11_check ∈ zk_E.2.2.1 := ⟨⟨zk_b7 104 (by decide +kernel) rfl, zk_b1 1 (by decide +kernel) rfl, zk_b7 101 (by decide +kernel) rfl, by decide +kernel, by decide +kernel, by decide +kernel⟩, zk_b7 102 (by decide +kernel) rfl, zk_b7 103 (by decide +kernel) rfl⟩
theorem zl_L_75 : zm_L zk_E RL 75 yX11_rule (.code yX11_rule cX11_rule 3 (some .long)) 2 ∧ Cond.instanceMethod yX11_rule ∈ zk_E.2.2.1 ∧ Cond.selects yX11_rule.cls yX11_rule yX11_rule ∈ zk_E.2.2.1 := ⟨⟨zk_b7 182 (by decide +kernel) rfl, zk_b1 1 (by decide +kernel) rfl, zk_b7 179 (by decide +kernel) rfl, by decide +kernel, by decide +kernel, by decide +kernel⟩, zk_b7 180 (by decide +kernel) rfl, zk_b7 181 (by decide +kernel) rfl⟩
theorem zl_L_79 : zm_L zk_E RL 79 yX11_build (.code yX11_build cX11_build 3 (some .int)) 1 ∧ Cond.instanceMethod yX11_build ∈ zk_E.2.2.1 ∧ Cond.selects yX11_build.cls yX11_build yX11_build ∈ zk_E.2.2.1 := ⟨⟨zk_b7 193 (by decide +kernel) rfl, zk_b1 1 (by decide +kernel) rfl, zk_b7 190 (by decide +kernel) rfl, by decide +kernel, by decide +kernel, by decide +kernel⟩, zk_b7 191 (by decide +kernel) rfl, zk_b7 192 (by decide +kernel) rfl⟩
theorem zl_L_82 : zm_L zk_E RL 82 yX11_portal (.code yX11_portal cX11_portal 3 (some .int)) 2 ∧ Cond.instanceMethod yX11_portal ∈ zk_E.2.2.1 ∧ Cond.selects yX11_portal.cls yX11_portal yX11_portal ∈ zk_E.2.2.1 := ⟨⟨zk_b8 39 (by decide +kernel) rfl, zk_b1 1 (by decide +kernel) rfl, zk_b8 36 (by decide +kernel) rfl, by decide +kernel, by decide +kernel, by decide +kernel⟩, zk_b8 37 (by decide +kernel) rfl, zk_b8 38 (by decide +kernel) rfl⟩
theorem zl_L_85 : zm_L zk_E RL 85 yX11_person (.code yX11_person cX11_person 3 (some .int)) 2 ∧ Cond.instanceMethod yX11_person ∈ zk_E.2.2.1 ∧ Cond.selects yX11_person.cls yX11_person yX11_person ∈ zk_E.2.2.1 := ⟨⟨zk_b8 54 (by decide +kernel) rfl, zk_b1 1 (by decide +kernel) rfl, zk_b8 51 (by decide +kernel) rfl, by decide +kernel, by decide +kernel, by decide +kernel⟩, zk_b8 52 (by decide +kernel) rfl, zk_b8 53 (by decide +kernel) rfl⟩
theorem zl_L_88 : zm_L zk_E RL 88 yX11_card (.code yX11_card cX11_card 3 (some .int)) 2 ∧ Cond.instanceMethod yX11_card ∈ zk_E.2.2.1 ∧ Cond.selects yX11_card.cls yX11_card yX11_card ∈ zk_E.2.2.1 := ⟨⟨zk_b8 66 (by decide +kernel) rfl, zk_b1 1 (by decide +kernel) rfl, zk_b8 63 (by decide +kernel) rfl, by decide +kernel, by decide +kernel, by decide +kernel⟩, zk_b8 64 (by decide +kernel) rfl, zk_b8 65 (by decide +kernel) rfl⟩
theorem zl_L_91 : zm_L zk_E RL 91 yX11_right (.code yX11_right cX11_right 6 (some .int)) 5 ∧ Cond.instanceMethod yX11_right ∈ zk_E.2.2.1 ∧ Cond.selects yX11_right.cls yX11_right yX11_right ∈ zk_E.2.2.1 := ⟨⟨zk_b8 81 (by decide +kernel) rfl, zk_b1 1 (by decide +kernel) rfl, zk_b8 78 (by decide +kernel) rfl, by decide +kernel, by decide +kernel, by decide +kernel⟩, zk_b8 79 (by decide +kernel) rfl, zk_b8 80 (by decide +kernel) rfl⟩
theorem zl_L_95 : zm_L zk_E RL 95 yX11_end (.code yX11_end cX11_end 3 (some .int)) 2 ∧ Cond.instanceMethod yX11_end ∈ zk_E.2.2.1 ∧ Cond.selects yX11_end.cls yX11_end yX11_end ∈ zk_E.2.2.1 := ⟨⟨zk_b8 92 (by decide +kernel) rfl, zk_b1 1 (by decide +kernel) rfl, zk_b8 89 (by decide +kernel) rfl, by decide +kernel, by decide +kernel, by decide +kernel⟩, zk_b8 90 (by decide +kernel) rfl, zk_b8 91 (by decide +kernel) rfl⟩
theorem zl_L_98 : zm_L zk_E RL 98 yX11_lost (.code yX11_lost cX11_lost 3 (some .int)) 2 ∧ Cond.instanceMethod yX11_lost ∈ zk_E.2.2.1 ∧ Cond.selects yX11_lost.cls yX11_lost yX11_lost ∈ zk_E.2.2.1 := ⟨⟨zk_b8 111 (by decide +kernel) rfl, zk_b1 1 (by decide +kernel) rfl, zk_b8 108 (by decide +kernel) rfl, by decide +kernel, by decide +kernel, by decide +kernel⟩, zk_b8 109 (by decide +kernel) rfl, zk_b8 110 (by decide +kernel) rfl⟩
theorem zl_L_101 : zm_L zk_E RL 101 yX11_two (.code yX11_two cX11_two 3 (some .boolean)) 2 ∧ Cond.instanceMethod yX11_two ∈ zk_E.2.2.1 ∧ Cond.selects yX11_two.cls yX11_two yX11_two ∈ zk_E.2.2.1 := ⟨⟨zk_b8 126 (by decide +kernel) rfl, zk_b1 1 (by decide +kernel) rfl, zk_b8 123 (by decide +kernel) rfl, by decide +kernel, by decide +kernel, by decide +kernel⟩, zk_b8 124 (by decide +kernel) rfl, zk_b8 125 (by decide +kernel) rfl⟩
theorem zl_L_105 : zm_L zk_E RL 105 yX11_airlock (.code yX11_airlock cX11_airlock 4 (some .boolean)) 3 ∧ Cond.instanceMethod yX11_airlock ∈ zk_E.2.2.1 ∧ Cond.selects yX11_airlock.cls yX11_airlock yX11_airlock ∈ zk_E.2.2.1 := ⟨⟨zk_b8 138 (by decide +kernel) rfl, zk_b1 1 (by decide +kernel) rfl, zk_b8 135 (by decide +kernel) rfl, by decide +kernel, by decide +kernel, by decide +kernel⟩, zk_b8 136 (by decide +kernel) rfl, zk_b8 137 (by decide +kernel) rfl⟩
theorem zl_L_109 : zm_L zk_E RL 109 yX11_stands (.code yX11_stands cX11_stands 3 (some .int)) 2 ∧ Cond.instanceMethod yX11_stands ∈ zk_E.2.2.1 ∧ Cond.selects yX11_stands.cls yX11_stands yX11_stands ∈ zk_E.2.2.1 := ⟨⟨zk_b8 158 (by decide +kernel) rfl, zk_b1 1 (by decide +kernel) rfl, zk_b8 155 (by decide +kernel) rfl, by decide +kernel, by decide +kernel, by decide +kernel⟩, zk_b8 156 (by decide +kernel) rfl, zk_b8 157 (by decide +kernel) rfl⟩
theorem zl_L_113 : zm_L zk_E RL 113 yX11_off (.code yX11_off cX11_off 3 (some .int)) 2 ∧ Cond.instanceMethod yX11_off ∈ zk_E.2.2.1 ∧ Cond.selects yX11_off.cls yX11_off yX11_off ∈ zk_E.2.2.1 := ⟨⟨zk_b8 169 (by decide +kernel) rfl, zk_b1 1 (by decide +kernel) rfl, zk_b8 166 (by decide +kernel) rfl, by decide +kernel, by decide +kernel, by decide +kernel⟩, zk_b8 167 (by decide +kernel) rfl, zk_b8 168 (by decide +kernel) rfl⟩
theorem zl_L_116 : zm_L zk_E RL 116 yX11_ask (.code yX11_ask cX11_ask 4 (some .int)) 3 ∧ Cond.instanceMethod yX11_ask ∈ zk_E.2.2.1 ∧ Cond.selects yX11_ask.cls yX11_ask yX11_ask ∈ zk_E.2.2.1 := ⟨⟨zk_b8 235 (by decide +kernel) rfl, zk_b1 1 (by decide +kernel) rfl, zk_b8 232 (by decide +kernel) rfl, by decide +kernel, by decide +kernel, by decide +kernel⟩, zk_b8 233 (by decide +kernel) rfl, zk_b8 234 (by decide +kernel) rfl⟩
theorem zl_L_120 : zm_L zk_E RL 120 yX11_both (.code yX11_both cX11_both 5 (some .int)) 4 ∧ Cond.instanceMethod yX11_both ∈ zk_E.2.2.1 ∧ Cond.selects yX11_both.cls yX11_both yX11_both ∈ zk_E.2.2.1 := ⟨⟨zk_b9 46 (by decide +kernel) rfl, zk_b1 1 (by decide +kernel) rfl, zk_b9 43 (by decide +kernel) rfl, by decide +kernel, by decide +kernel, by decide +kernel⟩, zk_b9 44 (by decide +kernel) rfl, zk_b9 45 (by decide +kernel) rfl⟩
theorem zl_L_123 : zm_L zk_E RL 123 yX11_where (.code yX11_where cX11_where 3 (some .int)) 2 ∧ Cond.instanceMethod yX11_where ∈ zk_E.2.2.1 ∧ Cond.selects yX11_where.cls yX11_where yX11_where ∈ zk_E.2.2.1 := ⟨⟨zk_b9 57 (by decide +kernel) rfl, zk_b1 1 (by decide +kernel) rfl, zk_b9 54 (by decide +kernel) rfl, by decide +kernel, by decide +kernel, by decide +kernel⟩, zk_b9 55 (by decide +kernel) rfl, zk_b9 56 (by decide +kernel) rfl⟩
theorem zl_L_126 : zm_L zk_E RL 126 yX11_inside (.code yX11_inside cX11_inside 2 (some .int)) 1 ∧ Cond.instanceMethod yX11_inside ∈ zk_E.2.2.1 ∧ Cond.selects yX11_inside.cls yX11_inside yX11_inside ∈ zk_E.2.2.1 := ⟨⟨zk_b9 68 (by decide +kernel) rfl, zk_b1 1 (by decide +kernel) rfl, zk_b9 65 (by decide +kernel) rfl, by decide +kernel, by decide +kernel, by decide +kernel⟩, zk_b9 66 (by decide +kernel) rfl, zk_b9 67 (by decide +kernel) rfl⟩
theorem zl_L_129 : zm_L zk_E RL 129 yX11_against (.code yX11_against cX11_against 3 (some .int)) 2 ∧ Cond.instanceMethod yX11_against ∈ zk_E.2.2.1 ∧ Cond.selects yX11_against.cls yX11_against yX11_against ∈ zk_E.2.2.1 := ⟨⟨zk_b9 81 (by decide +kernel) rfl, zk_b1 1 (by decide +kernel) rfl, zk_b9 78 (by decide +kernel) rfl, by decide +kernel, by decide +kernel, by decide +kernel⟩, zk_b9 79 (by decide +kernel) rfl, zk_b9 80 (by decide +kernel) rfl⟩
theorem zl_L_132 : zm_L zk_E RL 132 yX11_unit (.code yX11_unit cX11_unit 2 (some .int)) 1 ∧ Cond.instanceMethod yX11_unit ∈ zk_E.2.2.1 ∧ Cond.selects yX11_unit.cls yX11_unit yX11_unit ∈ zk_E.2.2.1 := ⟨⟨zk_b9 97 (by decide +kernel) rfl, zk_b1 1 (by decide +kernel) rfl, zk_b9 94 (by decide +kernel) rfl, by decide +kernel, by decide +kernel, by decide +kernel⟩, zk_b9 95 (by decide +kernel) rfl, zk_b9 96 (by decide +kernel) rfl⟩
theorem zl_L_135 : zm_L zk_E RL 135 yX11_sentence (.code yX11_sentence cX11_sentence 7 (some .int)) 5 ∧ Cond.instanceMethod yX11_sentence ∈ zk_E.2.2.1 ∧ Cond.selects yX11_sentence.cls yX11_sentence yX11_sentence ∈ zk_E.2.2.1 := ⟨⟨zk_b9 108 (by decide +kernel) rfl, zk_b1 1 (by decide +kernel) rfl, zk_b9 105 (by decide +kernel) rfl, by decide +kernel, by decide +kernel, by decide +kernel⟩, zk_b9 106 (by decide +kernel) rfl, zk_b9 107 (by decide +kernel) rfl⟩
set_option maxHeartbeats 4000000 in
set_option maxRecDepth 100000 in
theorem zt_X11_disturb_J35 {p : Program} {l : Launch} {e : Env} {R : Room} {s : State} {m : MethodId} {args : Array Value} {below : List Frame} {meth : Method} {c : Code} {V : zm_V} {mc ms d rc rs : Nat} (hlt : l.stackTraces = false) (hxt : ∀ x ∈ c.exceptionTable.toList, False) (hX : zm_X p R s m args meth c RX11 "disturb" cX11_disturb 2 zk_E V mc ms) (hr : meth.sig.returnType = (some .boolean)) (hR : R.frames = d ∧ R.locals = 64 * d) (hd : 7 ≤ d) {N : Nat} {a0 : Nat} {i1 : Int32} {t0 : Int32} {out : ((Int32 ⊕ String) × zm_S)} (hc : 1 ≤ rc ∧ 6 ≤ rs) {S : zm_S} (h : zf_X11_disturb_J35 N a0 i1 t0 S = some out) : zw p l e R s m args below meth c (vx_MQ below (zm_Qc zk_E V (zq_i out)) (zm_XC zk_E V (zq_x out)) args s mc ms (fun q => V.2.2.2.1 ≤ q)) 2 zk_E V mc ms 35 [(0, .ref a0), (1, .int i1)] [.int t0] S rc rs := by
  unfold zf_X11_disturb_J35 at h
  obtain ⟨r, g, h⟩ := zb_some h
  refine zc_S (as := [.int t0]) hX (zt_X11_needState hlt (d := d - 1) (by omega) g) zl_X11_112 dX11_disturb_35 ⟨rfl, rfl, Nat.le_of_ble_eq_true rfl⟩ ⟨by omega, by omega⟩ ⟨by omega, by omega⟩ ?_ ?_
  · rintro _ S7 ⟨⟨u6, rfl⟩, rfl⟩
    try dsimp only at h
    refine zw_aload_n hX dX11_disturb_38 rfl ?_
    obtain ⟨b8, g, h⟩ := zb_some h
    refine zw_getr hX zl_X11_76 dX11_disturb_39 g ?_
    refine zw_iload_n hX dX11_disturb_42 rfl ?_
    obtain ⟨_, gi, h⟩ := zb_some h
    obtain ⟨r10, g, h⟩ := zb_some h
    refine zc_Vi (as := [.int i1]) hX gi (zt_X1_addDisturbance (d := d - 1) (by omega) g) zl_X11_494 rfl dX11_disturb_43 ⟨rfl, rfl, Nat.le_of_ble_eq_true rfl⟩ ⟨by omega, by omega⟩ ?_
    by_cases cz : r10.1 = 0 ∨ r10.1 = 1
    · rw [if_pos cz] at h
      obtain rfl := Option.some.inj h
      exact zw_iret hX hr dX11_disturb_46 (zn_z cz) ⟨_, rfl, rfl⟩
    · rw [if_neg cz] at h
      cases h
  · rintro X S9 rfl
    obtain rfl := Option.some.inj h
    exact zx_out hX hxt rfl
set_option maxHeartbeats 4000000 in
set_option maxRecDepth 100000 in
theorem zt_X11_disturb_J34 {p : Program} {l : Launch} {e : Env} {R : Room} {s : State} {m : MethodId} {args : Array Value} {below : List Frame} {meth : Method} {c : Code} {V : zm_V} {mc ms d rc rs : Nat} (hlt : l.stackTraces = false) (hxt : ∀ x ∈ c.exceptionTable.toList, False) (hX : zm_X p R s m args meth c RX11 "disturb" cX11_disturb 2 zk_E V mc ms) (hr : meth.sig.returnType = (some .boolean)) (hR : R.frames = d ∧ R.locals = 64 * d) (hd : 7 ≤ d) {N : Nat} {a0 : Nat} {i1 : Int32} {out : ((Int32 ⊕ String) × zm_S)} (hc : 1 ≤ rc ∧ 6 ≤ rs) {S : zm_S} (h : zf_X11_disturb_J34 N a0 i1 S = some out) : zw p l e R s m args below meth c (vx_MQ below (zm_Qc zk_E V (zq_i out)) (zm_XC zk_E V (zq_x out)) args s mc ms (fun q => V.2.2.2.1 ≤ q)) 2 zk_E V mc ms 34 [(0, .ref a0), (1, .int i1)] [] S rc rs := by
  unfold zf_X11_disturb_J34 at h
  refine zw_iconst (v := (0 : Int32)) hX dX11_disturb_34 (by decide) ?_
  refine zw_sub (lv' := [(0, .ref a0), (1, .int i1)]) (List.forall_mem_cons.mpr ⟨rfl, (List.forall_mem_cons.mpr ⟨rfl, zs_nil⟩)⟩) ?_
  exact zt_X11_disturb_J35 hlt hxt hX hr hR hd ⟨by omega, by omega⟩ h
set_option maxHeartbeats 4000000 in
set_option maxRecDepth 100000 in
theorem zt_X11_disturb {l : Launch} {V : zm_V} (hlt : l.stackTraces = false) {N : Nat} {S : zm_S} {out : ((Int32 ⊕ String) × zm_S)} {d : Nat} {a0 : Nat} {i1 : Int32} (hd : 7 ≤ d) (h : zf_X11_disturb N a0 i1 S = some out) : zm_Met l zk_E V yX11_disturb (.code yX11_disturb cX11_disturb 2 (some .boolean)) d [.ref a0, .int i1] S 2 12 (zq_i out) (zq_x out) := by
  refine zm_of (by decide +kernel) (Nat.le_of_ble_eq_true rfl) ?_
  intro p e R s m args below meth c hRR hX hr hxt
  have hR : R.frames = d ∧ R.locals = 64 * d := by rw [hRR]; exact ⟨rfl, rfl⟩
  have hX : zm_X p R s m args meth c RX11 "disturb" cX11_disturb 2 zk_E V 2 12 := hX
  unfold zf_X11_disturb at h
  refine zw_sub (lv' := [(0, .ref a0), (1, .int i1)]) (List.forall_mem_cons.mpr ⟨rfl, (List.forall_mem_cons.mpr ⟨rfl, zs_nil⟩)⟩) ?_
  refine zw_iload_n hX dX11_disturb_0 rfl ?_
  refine zw_iconst (v := (1 : Int32)) hX dX11_disturb_1 (by decide) ?_
  refine zw_sipush (v := (2000 : Int32)) hX dX11_disturb_2 (by decide) ?_
  obtain ⟨r2, g, h⟩ := zb_some h
  refine zc_Si (as := [.int i1, .int (1 : Int32), .int (2000 : Int32)]) hX (zt_X11_isWithin (d := d - 1) (by omega) g) zl_X11_133 dX11_disturb_5 ⟨rfl, rfl, Nat.le_of_ble_eq_true rfl⟩ ⟨by omega, by omega⟩ ?_
  obtain ⟨r, g, h⟩ := zb_some h
  refine zc_S (as := [.int r2.1]) hX (zt_X11_needArgument hlt (d := d - 1) (by omega) g) zl_X11_100 dX11_disturb_8 ⟨rfl, rfl, Nat.le_of_ble_eq_true rfl⟩ ⟨by omega, by omega⟩ ⟨by omega, by omega⟩ ?_ ?_
  · rintro _ S4 ⟨⟨u3, rfl⟩, rfl⟩
    try dsimp only at h
    refine zw_aload_n hX dX11_disturb_11 rfl ?_
    obtain ⟨v5, g, h⟩ := zb_some h
    refine zw_geti hX zl_X11_104 dX11_disturb_12 g ?_
    refine zw_if_eq (tgt := 34) hX dX11_disturb_15 (by decide) (fun c15 => ?_) (fun c15 => ?_)
    · rw [if_pos c15] at h
      refine zw_sub (lv' := [(0, .ref a0), (1, .int i1)]) (List.forall_mem_cons.mpr ⟨rfl, (List.forall_mem_cons.mpr ⟨rfl, zs_nil⟩)⟩) ?_
      exact zt_X11_disturb_J34 hlt hxt hX hr hR hd ⟨by omega, by omega⟩ h
    · rw [if_neg c15] at h
      refine zw_aload_n hX dX11_disturb_18 rfl ?_
      obtain ⟨b11, g, h⟩ := zb_some h
      refine zw_getr hX zl_X11_76 dX11_disturb_19 g ?_
      obtain ⟨v12, g, h⟩ := zb_some h
      refine zw_getNi hX zl_X11_491 dX11_disturb_22 g ?_
      refine zw_bipush (v := (50 : Int32)) hX dX11_disturb_25 (by decide) ?_
      refine zw_icmp_ge (tgt := 34) hX dX11_disturb_27 (by decide) (fun c27 => ?_) (fun c27 => ?_)
      · rw [if_pos c27] at h
        refine zw_sub (lv' := [(0, .ref a0), (1, .int i1)]) (List.forall_mem_cons.mpr ⟨rfl, (List.forall_mem_cons.mpr ⟨rfl, zs_nil⟩)⟩) ?_
        exact zt_X11_disturb_J34 hlt hxt hX hr hR hd ⟨by omega, by omega⟩ h
      · rw [if_neg c27] at h
        refine zw_iconst (v := (1 : Int32)) hX dX11_disturb_30 (by decide) ?_
        refine zw_goto (tgt := 35) hX dX11_disturb_31 (by decide) ?_
        refine zw_sub (lv' := [(0, .ref a0), (1, .int i1)]) (List.forall_mem_cons.mpr ⟨rfl, (List.forall_mem_cons.mpr ⟨rfl, zs_nil⟩)⟩) ?_
        exact zt_X11_disturb_J35 hlt hxt hX hr hR hd ⟨by omega, by omega⟩ h
  · rintro X S9 rfl
    obtain rfl := Option.some.inj h
    exact zx_out hX hxt rfl
set_option maxHeartbeats 4000000 in
set_option maxRecDepth 100000 in
theorem zt_X11_station_J21 {p : Program} {l : Launch} {e : Env} {R : Room} {s : State} {m : MethodId} {args : Array Value} {below : List Frame} {meth : Method} {c : Code} {V : zm_V} {mc ms d rc rs : Nat} (hlt : l.stackTraces = false) (hxt : ∀ x ∈ c.exceptionTable.toList, False) (hX : zm_X p R s m args meth c RX11 "station" cX11_station 3 zk_E V mc ms) (hr : meth.sig.returnType = (some .int)) (hR : R.frames = d ∧ R.locals = 64 * d) (hd : 7 ≤ d) {N : Nat} {a0 : Nat} {i1 : Int32} {i2 : Int32} {t0 : Int32} {out : ((Int32 ⊕ String) × zm_S)} (hc : 2 ≤ rc ∧ 12 ≤ rs) {S : zm_S} (h : zf_X11_station_J21 N a0 i1 i2 t0 S = some out) : zw p l e R s m args below meth c (vx_MQ below (zm_Qc zk_E V (zq_i out)) (zm_XC zk_E V (zq_x out)) args s mc ms (fun q => V.2.2.2.1 ≤ q)) 3 zk_E V mc ms 21 [(0, .ref a0), (1, .int i1), (2, .int i2)] [.int t0] S rc rs := by
  unfold zf_X11_station_J21 at h
  obtain ⟨r, g, h⟩ := zb_some h
  refine zc_S (as := [.int t0]) hX (zt_X11_needArgument hlt (d := d - 1) (by omega) g) zl_X11_100 dX11_station_21 ⟨rfl, rfl, Nat.le_of_ble_eq_true rfl⟩ ⟨by omega, by omega⟩ ⟨by omega, by omega⟩ ?_ ?_
  · rintro _ S4 ⟨⟨u3, rfl⟩, rfl⟩
    try dsimp only at h
    refine zw_aload_n hX dX11_station_24 rfl ?_
    obtain ⟨v5, g, h⟩ := zb_some h
    refine zw_geti hX zl_X11_104 dX11_station_25 g ?_
    obtain ⟨r, g, h⟩ := zb_some h
    refine zc_S (as := [.int v5]) hX (zt_X11_needState hlt (d := d - 1) (by omega) g) zl_X11_112 dX11_station_28 ⟨rfl, rfl, Nat.le_of_ble_eq_true rfl⟩ ⟨by omega, by omega⟩ ⟨by omega, by omega⟩ ?_ ?_
    · rintro _ S7 ⟨⟨u6, rfl⟩, rfl⟩
      try dsimp only at h
      refine zw_aload_n hX dX11_station_31 rfl ?_
      obtain ⟨b8, g, h⟩ := zb_some h
      refine zw_getr hX zl_X11_76 dX11_station_32 g ?_
      refine zw_iload_n hX dX11_station_35 rfl ?_
      refine zw_iload_n hX dX11_station_36 rfl ?_
      obtain ⟨_, gi, h⟩ := zb_some h
      obtain ⟨r10, g, h⟩ := zb_some h
      refine zc_Vi (as := [.int i1, .int i2]) hX gi (zt_X1_stationFact (d := d - 1) (by omega) g) zl_X11_497 rfl dX11_station_37 ⟨rfl, rfl, Nat.le_of_ble_eq_true rfl⟩ ⟨by omega, by omega⟩ ?_
      obtain rfl := Option.some.inj h
      exact zw_iret hX hr dX11_station_40 rfl ⟨_, rfl, rfl⟩
    · rintro X S9 rfl
      obtain rfl := Option.some.inj h
      exact zx_out hX hxt rfl
  · rintro X S9 rfl
    obtain rfl := Option.some.inj h
    exact zx_out hX hxt rfl
set_option maxHeartbeats 4000000 in
set_option maxRecDepth 100000 in
theorem zt_X11_station_J20 {p : Program} {l : Launch} {e : Env} {R : Room} {s : State} {m : MethodId} {args : Array Value} {below : List Frame} {meth : Method} {c : Code} {V : zm_V} {mc ms d rc rs : Nat} (hlt : l.stackTraces = false) (hxt : ∀ x ∈ c.exceptionTable.toList, False) (hX : zm_X p R s m args meth c RX11 "station" cX11_station 3 zk_E V mc ms) (hr : meth.sig.returnType = (some .int)) (hR : R.frames = d ∧ R.locals = 64 * d) (hd : 7 ≤ d) {N : Nat} {a0 : Nat} {i1 : Int32} {i2 : Int32} {out : ((Int32 ⊕ String) × zm_S)} (hc : 2 ≤ rc ∧ 12 ≤ rs) {S : zm_S} (h : zf_X11_station_J20 N a0 i1 i2 S = some out) : zw p l e R s m args below meth c (vx_MQ below (zm_Qc zk_E V (zq_i out)) (zm_XC zk_E V (zq_x out)) args s mc ms (fun q => V.2.2.2.1 ≤ q)) 3 zk_E V mc ms 20 [(0, .ref a0), (1, .int i1), (2, .int i2)] [] S rc rs := by
  unfold zf_X11_station_J20 at h
  refine zw_iconst (v := (0 : Int32)) hX dX11_station_20 (by decide) ?_
  refine zw_sub (lv' := [(0, .ref a0), (1, .int i1), (2, .int i2)]) (List.forall_mem_cons.mpr ⟨rfl, (List.forall_mem_cons.mpr ⟨rfl, (List.forall_mem_cons.mpr ⟨rfl, zs_nil⟩)⟩)⟩) ?_
  exact zt_X11_station_J21 hlt hxt hX hr hR hd ⟨by omega, by omega⟩ h
set_option maxHeartbeats 4000000 in
set_option maxRecDepth 100000 in
theorem zt_X11_station {l : Launch} {V : zm_V} (hlt : l.stackTraces = false) {N : Nat} {S : zm_S} {out : ((Int32 ⊕ String) × zm_S)} {d : Nat} {a0 : Nat} {i1 : Int32} {i2 : Int32} (hd : 7 ≤ d) (h : zf_X11_station N a0 i1 i2 S = some out) : zm_Met l zk_E V yX11_station (.code yX11_station cX11_station 3 (some .int)) d [.ref a0, .int i1, .int i2] S 2 12 (zq_i out) (zq_x out) := by
  refine zm_of (by decide +kernel) (Nat.le_of_ble_eq_true rfl) ?_
  intro p e R s m args below meth c hRR hX hr hxt
  have hR : R.frames = d ∧ R.locals = 64 * d := by rw [hRR]; exact ⟨rfl, rfl⟩
  have hX : zm_X p R s m args meth c RX11 "station" cX11_station 3 zk_E V 2 12 := hX
  unfold zf_X11_station at h
  refine zw_sub (lv' := [(0, .ref a0), (1, .int i1), (2, .int i2)]) (List.forall_mem_cons.mpr ⟨rfl, (List.forall_mem_cons.mpr ⟨rfl, (List.forall_mem_cons.mpr ⟨rfl, zs_nil⟩)⟩)⟩) ?_
  refine zw_iload_n hX dX11_station_0 rfl ?_
  obtain ⟨r2, g, h⟩ := zb_some h
  refine zc_Si (as := [.int i1]) hX (zt_X11_isStation (d := d - 1) (by omega) g) zl_X11_471 dX11_station_1 ⟨rfl, rfl, Nat.le_of_ble_eq_true rfl⟩ ⟨by omega, by omega⟩ ?_
  refine zw_if_eq (tgt := 20) hX dX11_station_4 (by decide) (fun c4 => ?_) (fun c4 => ?_)
  · rw [if_pos c4] at h
    refine zw_sub (lv' := [(0, .ref a0), (1, .int i1), (2, .int i2)]) (List.forall_mem_cons.mpr ⟨rfl, (List.forall_mem_cons.mpr ⟨rfl, (List.forall_mem_cons.mpr ⟨rfl, zs_nil⟩)⟩)⟩) ?_
    exact zt_X11_station_J20 hlt hxt hX hr hR hd ⟨by omega, by omega⟩ h
  · rw [if_neg c4] at h
    refine zw_iload_n hX dX11_station_7 rfl ?_
    refine zw_iconst (v := (0 : Int32)) hX dX11_station_8 (by decide) ?_
    refine zw_iconst (v := (5 : Int32)) hX dX11_station_9 (by decide) ?_
    obtain ⟨r12, g, h⟩ := zb_some h
    refine zc_Si (as := [.int i2, .int (0 : Int32), .int (5 : Int32)]) hX (zt_X11_isWithin (d := d - 1) (by omega) g) zl_X11_133 dX11_station_10 ⟨rfl, rfl, Nat.le_of_ble_eq_true rfl⟩ ⟨by omega, by omega⟩ ?_
    refine zw_if_eq (tgt := 20) hX dX11_station_13 (by decide) (fun c13 => ?_) (fun c13 => ?_)
    · rw [if_pos c13] at h
      refine zw_sub (lv' := [(0, .ref a0), (1, .int i1), (2, .int i2)]) (List.forall_mem_cons.mpr ⟨rfl, (List.forall_mem_cons.mpr ⟨rfl, (List.forall_mem_cons.mpr ⟨rfl, zs_nil⟩)⟩)⟩) ?_
      exact zt_X11_station_J20 hlt hxt hX hr hR hd ⟨by omega, by omega⟩ h
    · rw [if_neg c13] at h
      refine zw_iconst (v := (1 : Int32)) hX dX11_station_16 (by decide) ?_
      refine zw_goto (tgt := 21) hX dX11_station_17 (by decide) ?_
      refine zw_sub (lv' := [(0, .ref a0), (1, .int i1), (2, .int i2)]) (List.forall_mem_cons.mpr ⟨rfl, (List.forall_mem_cons.mpr ⟨rfl, (List.forall_mem_cons.mpr ⟨rfl, zs_nil⟩)⟩)⟩) ?_
      exact zt_X11_station_J21 hlt hxt hX hr hR hd ⟨by omega, by omega⟩ h
set_option maxHeartbeats 4000000 in
set_option maxRecDepth 100000 in
theorem zt_X11_heard {l : Launch} {V : zm_V} (hlt : l.stackTraces = false) {N : Nat} {S : zm_S} {out : ((Int32 ⊕ String) × zm_S)} {d : Nat} {a0 : Nat} {i1 : Int32} (hd : 7 ≤ d) (h : zf_X11_heard N a0 i1 S = some out) : zm_Met l zk_E V yX11_heard (.code yX11_heard cX11_heard 2 (some .int)) d [.ref a0, .int i1] S 2 12 (zq_i out) (zq_x out) := by
  refine zm_of (by decide +kernel) (Nat.le_of_ble_eq_true rfl) ?_
  intro p e R s m args below meth c hRR hX hr hxt
  have hR : R.frames = d ∧ R.locals = 64 * d := by rw [hRR]; exact ⟨rfl, rfl⟩
  have hX : zm_X p R s m args meth c RX11 "heard" cX11_heard 2 zk_E V 2 12 := hX
  unfold zf_X11_heard at h
  refine zw_sub (lv' := [(0, .ref a0), (1, .int i1)]) (List.forall_mem_cons.mpr ⟨rfl, (List.forall_mem_cons.mpr ⟨rfl, zs_nil⟩)⟩) ?_
  refine zw_iload_n hX dX11_heard_0 rfl ?_
  refine zw_iconst (v := (0 : Int32)) hX dX11_heard_1 (by decide) ?_
  refine zw_iconst (v := (4 : Int32)) hX dX11_heard_2 (by decide) ?_
  obtain ⟨r2, g, h⟩ := zb_some h
  refine zc_Si (as := [.int i1, .int (0 : Int32), .int (4 : Int32)]) hX (zt_X11_isWithin (d := d - 1) (by omega) g) zl_X11_133 dX11_heard_3 ⟨rfl, rfl, Nat.le_of_ble_eq_true rfl⟩ ⟨by omega, by omega⟩ ?_
  obtain ⟨r, g, h⟩ := zb_some h
  refine zc_S (as := [.int r2.1]) hX (zt_X11_needArgument hlt (d := d - 1) (by omega) g) zl_X11_100 dX11_heard_6 ⟨rfl, rfl, Nat.le_of_ble_eq_true rfl⟩ ⟨by omega, by omega⟩ ⟨by omega, by omega⟩ ?_ ?_
  · rintro _ S4 ⟨⟨u3, rfl⟩, rfl⟩
    try dsimp only at h
    refine zw_aload_n hX dX11_heard_9 rfl ?_
    obtain ⟨v5, g, h⟩ := zb_some h
    refine zw_geti hX zl_X11_104 dX11_heard_10 g ?_
    obtain ⟨r, g, h⟩ := zb_some h
    refine zc_S (as := [.int v5]) hX (zt_X11_needState hlt (d := d - 1) (by omega) g) zl_X11_112 dX11_heard_13 ⟨rfl, rfl, Nat.le_of_ble_eq_true rfl⟩ ⟨by omega, by omega⟩ ⟨by omega, by omega⟩ ?_ ?_
    · rintro _ S7 ⟨⟨u6, rfl⟩, rfl⟩
      try dsimp only at h
      refine zw_aload_n hX dX11_heard_16 rfl ?_
      obtain ⟨b8, g, h⟩ := zb_some h
      refine zw_getr hX zl_X11_76 dX11_heard_17 g ?_
      obtain ⟨b9, g, h⟩ := zb_some h
      refine zw_getNr hX zl_X11_500 dX11_heard_20 g ?_
      refine zw_iload_n hX dX11_heard_23 rfl ?_
      obtain ⟨v10, g, h⟩ := zb_some h
      refine zw_xi hX dX11_heard_24 g ?_
      obtain rfl := Option.some.inj h
      exact zw_iret hX hr dX11_heard_25 rfl ⟨_, rfl, rfl⟩
    · rintro X S9 rfl
      obtain rfl := Option.some.inj h
      exact zx_out hX hxt rfl
  · rintro X S9 rfl
    obtain rfl := Option.some.inj h
    exact zx_out hX hxt rfl
set_option maxHeartbeats 4000000 in
set_option maxRecDepth 100000 in
theorem zt_X11_byteAt {l : Launch} {V : zm_V} (hlt : l.stackTraces = false) {N : Nat} {S : zm_S} {out : ((Int32 ⊕ String) × zm_S)} {d : Nat} {a0 : Nat} {i1 : Int32} (hd : 7 ≤ d) (h : zf_X11_byteAt N a0 i1 S = some out) : zm_Met l zk_E V yX11_byteAt (.code yX11_byteAt cX11_byteAt 2 (some .int)) d [.ref a0, .int i1] S 2 12 (zq_i out) (zq_x out) := by
  refine zm_of (by decide +kernel) (Nat.le_of_ble_eq_true rfl) ?_
  intro p e R s m args below meth c hRR hX hr hxt
  have hR : R.frames = d ∧ R.locals = 64 * d := by rw [hRR]; exact ⟨rfl, rfl⟩
  have hX : zm_X p R s m args meth c RX11 "byteAt" cX11_byteAt 2 zk_E V 2 12 := hX
  unfold zf_X11_byteAt at h
  refine zw_sub (lv' := [(0, .ref a0), (1, .int i1)]) (List.forall_mem_cons.mpr ⟨rfl, (List.forall_mem_cons.mpr ⟨rfl, zs_nil⟩)⟩) ?_
  refine zw_iload_n hX dX11_byteAt_0 rfl ?_
  refine zw_iconst (v := (-1 : Int32)) hX dX11_byteAt_1 (by decide) ?_
  refine zw_aload_n hX dX11_byteAt_2 rfl ?_
  obtain ⟨b1, g, h⟩ := zb_some h
  refine zw_getr hX zl_X11_76 dX11_byteAt_3 g ?_
  obtain ⟨v2, g, h⟩ := zb_some h
  refine zw_getNi hX zl_X11_503 dX11_byteAt_6 g ?_
  refine zw_iconst (v := (1 : Int32)) hX dX11_byteAt_9 (by decide) ?_
  refine zw_isub hX dX11_byteAt_10 ?_
  obtain ⟨r4, g, h⟩ := zb_some h
  refine zc_Si (as := [.int i1, .int (-1 : Int32), .int (v2 - (1 : Int32))]) hX (zt_X11_isWithin (d := d - 1) (by omega) g) zl_X11_133 dX11_byteAt_11 ⟨rfl, rfl, Nat.le_of_ble_eq_true rfl⟩ ⟨by omega, by omega⟩ ?_
  obtain ⟨r, g, h⟩ := zb_some h
  refine zc_S (as := [.int r4.1]) hX (zt_X11_needArgument hlt (d := d - 1) (by omega) g) zl_X11_100 dX11_byteAt_14 ⟨rfl, rfl, Nat.le_of_ble_eq_true rfl⟩ ⟨by omega, by omega⟩ ⟨by omega, by omega⟩ ?_ ?_
  · rintro _ S6 ⟨⟨u5, rfl⟩, rfl⟩
    try dsimp only at h
    refine zw_aload_n hX dX11_byteAt_17 rfl ?_
    obtain ⟨v7, g, h⟩ := zb_some h
    refine zw_geti hX zl_X11_104 dX11_byteAt_18 g ?_
    obtain ⟨r, g, h⟩ := zb_some h
    refine zc_S (as := [.int v7]) hX (zt_X11_needState hlt (d := d - 1) (by omega) g) zl_X11_112 dX11_byteAt_21 ⟨rfl, rfl, Nat.le_of_ble_eq_true rfl⟩ ⟨by omega, by omega⟩ ⟨by omega, by omega⟩ ?_ ?_
    · rintro _ S9 ⟨⟨u8, rfl⟩, rfl⟩
      try dsimp only at h
      refine zw_iload_n hX dX11_byteAt_24 rfl ?_
      refine zw_iconst (v := (-1 : Int32)) hX dX11_byteAt_25 (by decide) ?_
      refine zw_icmp_ne (tgt := 39) hX dX11_byteAt_26 (by decide) (fun c26 => ?_) (fun c26 => ?_)
      · rw [if_neg c26] at h
        refine zw_aload_n hX dX11_byteAt_39 rfl ?_
        obtain ⟨b10, g, h⟩ := zb_some h
        refine zw_getr hX zl_X11_76 dX11_byteAt_40 g ?_
        obtain ⟨b11, g, h⟩ := zb_some h
        refine zw_getNr hX zl_X11_509 dX11_byteAt_43 g ?_
        refine zw_iload_n hX dX11_byteAt_46 rfl ?_
        obtain ⟨v12, g, h⟩ := zb_some h
        refine zw_xi hX dX11_byteAt_47 g ?_
        obtain rfl := Option.some.inj h
        exact zw_iret hX hr dX11_byteAt_48 rfl ⟨_, rfl, rfl⟩
      · rw [if_pos c26] at h
        refine zw_aload_n hX dX11_byteAt_29 rfl ?_
        obtain ⟨b13, g, h⟩ := zb_some h
        refine zw_getr hX zl_X11_76 dX11_byteAt_30 g ?_
        obtain ⟨v14, g, h⟩ := zb_some h
        refine zw_getNi hX zl_X11_506 dX11_byteAt_33 g ?_
        refine zw_goto (tgt := 48) hX dX11_byteAt_36 (by decide) ?_
        obtain rfl := Option.some.inj h
        exact zw_iret hX hr dX11_byteAt_48 rfl ⟨_, rfl, rfl⟩
    · rintro X S9 rfl
      obtain rfl := Option.some.inj h
      exact zx_out hX hxt rfl
  · rintro X S9 rfl
    obtain rfl := Option.some.inj h
    exact zx_out hX hxt rfl
set_option maxHeartbeats 4000000 in
set_option maxRecDepth 100000 in
theorem zt_X11_isFloor {l : Launch} {V : zm_V} {N : Nat} {S : zm_S} {out : (Int32 × zm_S)} {d : Nat} {i0 : Int32} (hd : 2 ≤ d) (h : zf_X11_isFloor N i0 S = some out) : zm_Met l zk_E V yX11_isFloor (.code yX11_isFloor cX11_isFloor 1 (some .boolean)) d [.int i0] S 0 0 (zo_i out) zo_x := by
  refine zm_of (by decide +kernel) (Nat.le_of_ble_eq_true rfl) ?_
  intro p e R s m args below meth c hRR hX hr hxt
  have hR : R.frames = d ∧ R.locals = 64 * d := by rw [hRR]; exact ⟨rfl, rfl⟩
  have hX : zm_X p R s m args meth c RX11 "isFloor" cX11_isFloor 1 zk_E V 0 0 := hX
  unfold zf_X11_isFloor at h
  refine zw_sub (lv' := [(0, .int i0)]) (List.forall_mem_cons.mpr ⟨rfl, zs_nil⟩) ?_
  refine zw_iload_n hX dX11_isFloor_0 rfl ?_
  refine zw_iconst (v := (0 : Int32)) hX dX11_isFloor_1 (by decide) ?_
  refine zw_bipush (v := (59 : Int32)) hX dX11_isFloor_2 (by decide) ?_
  obtain ⟨r2, g, h⟩ := zb_some h
  refine zc_Si (as := [.int i0, .int (0 : Int32), .int (59 : Int32)]) hX (zt_X11_isWithin (d := d - 1) (by omega) g) zl_X11_133 dX11_isFloor_4 ⟨rfl, rfl, Nat.le_of_ble_eq_true rfl⟩ ⟨by omega, by omega⟩ ?_
  by_cases cz : r2.1 = 0 ∨ r2.1 = 1
  · rw [if_pos cz] at h
    obtain rfl := Option.some.inj h
    exact zw_iret hX hr dX11_isFloor_7 (zn_z cz) ⟨rfl, rfl⟩
  · rw [if_neg cz] at h
    cases h
set_option maxHeartbeats 4000000 in
set_option maxRecDepth 100000 in
theorem zt_X11_car_J47 {p : Program} {l : Launch} {e : Env} {R : Room} {s : State} {m : MethodId} {args : Array Value} {below : List Frame} {meth : Method} {c : Code} {V : zm_V} {mc ms d rc rs : Nat} (hlt : l.stackTraces = false) (hxt : ∀ x ∈ c.exceptionTable.toList, False) (hX : zm_X p R s m args meth c RX11 "car" cX11_car 3 zk_E V mc ms) (hr : meth.sig.returnType = (some .int)) (hR : R.frames = d ∧ R.locals = 64 * d) (hd : 7 ≤ d) {N : Nat} {a0 : Nat} {i1 : Int32} {i2 : Int32} {t0 : Int32} {out : ((Int32 ⊕ String) × zm_S)} (hc : 1 ≤ rc ∧ 6 ≤ rs) {S : zm_S} (h : zf_X11_car_J47 N a0 i1 i2 t0 S = some out) : zw p l e R s m args below meth c (vx_MQ below (zm_Qc zk_E V (zq_i out)) (zm_XC zk_E V (zq_x out)) args s mc ms (fun q => V.2.2.2.1 ≤ q)) 3 zk_E V mc ms 47 [(0, .ref a0), (1, .int i1), (2, .int i2)] [.int t0] S rc rs := by
  unfold zf_X11_car_J47 at h
  obtain ⟨r, g, h⟩ := zb_some h
  refine zc_S (as := [.int t0]) hX (zt_X11_needState hlt (d := d - 1) (by omega) g) zl_X11_112 dX11_car_47 ⟨rfl, rfl, Nat.le_of_ble_eq_true rfl⟩ ⟨by omega, by omega⟩ ⟨by omega, by omega⟩ ?_ ?_
  · rintro _ S7 ⟨⟨u6, rfl⟩, rfl⟩
    try dsimp only at h
    refine zw_aload_n hX dX11_car_50 rfl ?_
    obtain ⟨b8, g, h⟩ := zb_some h
    refine zw_getr hX zl_X11_92 dX11_car_51 g ?_
    refine zw_iload_n hX dX11_car_54 rfl ?_
    refine zw_iload_n hX dX11_car_55 rfl ?_
    obtain ⟨_, gi, h⟩ := zb_some h
    obtain ⟨r10, g, h⟩ := zb_some h
    refine zc_Vi (as := [.int i1, .int i2]) hX gi (zt_X3_addCar (d := d - 1) (by omega) g) zl_X11_518 rfl dX11_car_56 ⟨rfl, rfl, Nat.le_of_ble_eq_true rfl⟩ ⟨by omega, by omega⟩ ?_
    obtain rfl := Option.some.inj h
    exact zw_iret hX hr dX11_car_59 rfl ⟨_, rfl, rfl⟩
  · rintro X S9 rfl
    obtain rfl := Option.some.inj h
    exact zx_out hX hxt rfl
set_option maxHeartbeats 4000000 in
set_option maxRecDepth 100000 in
theorem zt_X11_car_J46 {p : Program} {l : Launch} {e : Env} {R : Room} {s : State} {m : MethodId} {args : Array Value} {below : List Frame} {meth : Method} {c : Code} {V : zm_V} {mc ms d rc rs : Nat} (hlt : l.stackTraces = false) (hxt : ∀ x ∈ c.exceptionTable.toList, False) (hX : zm_X p R s m args meth c RX11 "car" cX11_car 3 zk_E V mc ms) (hr : meth.sig.returnType = (some .int)) (hR : R.frames = d ∧ R.locals = 64 * d) (hd : 7 ≤ d) {N : Nat} {a0 : Nat} {i1 : Int32} {i2 : Int32} {out : ((Int32 ⊕ String) × zm_S)} (hc : 1 ≤ rc ∧ 6 ≤ rs) {S : zm_S} (h : zf_X11_car_J46 N a0 i1 i2 S = some out) : zw p l e R s m args below meth c (vx_MQ below (zm_Qc zk_E V (zq_i out)) (zm_XC zk_E V (zq_x out)) args s mc ms (fun q => V.2.2.2.1 ≤ q)) 3 zk_E V mc ms 46 [(0, .ref a0), (1, .int i1), (2, .int i2)] [] S rc rs := by
  unfold zf_X11_car_J46 at h
  refine zw_iconst (v := (0 : Int32)) hX dX11_car_46 (by decide) ?_
  refine zw_sub (lv' := [(0, .ref a0), (1, .int i1), (2, .int i2)]) (List.forall_mem_cons.mpr ⟨rfl, (List.forall_mem_cons.mpr ⟨rfl, (List.forall_mem_cons.mpr ⟨rfl, zs_nil⟩)⟩)⟩) ?_
  exact zt_X11_car_J47 hlt hxt hX hr hR hd ⟨by omega, by omega⟩ h
set_option maxHeartbeats 4000000 in
set_option maxRecDepth 100000 in
theorem zt_X11_car_J21 {p : Program} {l : Launch} {e : Env} {R : Room} {s : State} {m : MethodId} {args : Array Value} {below : List Frame} {meth : Method} {c : Code} {V : zm_V} {mc ms d rc rs : Nat} (hlt : l.stackTraces = false) (hxt : ∀ x ∈ c.exceptionTable.toList, False) (hX : zm_X p R s m args meth c RX11 "car" cX11_car 3 zk_E V mc ms) (hr : meth.sig.returnType = (some .int)) (hR : R.frames = d ∧ R.locals = 64 * d) (hd : 7 ≤ d) {N : Nat} {a0 : Nat} {i1 : Int32} {i2 : Int32} {t0 : Int32} {out : ((Int32 ⊕ String) × zm_S)} (hc : 2 ≤ rc ∧ 12 ≤ rs) {S : zm_S} (h : zf_X11_car_J21 N a0 i1 i2 t0 S = some out) : zw p l e R s m args below meth c (vx_MQ below (zm_Qc zk_E V (zq_i out)) (zm_XC zk_E V (zq_x out)) args s mc ms (fun q => V.2.2.2.1 ≤ q)) 3 zk_E V mc ms 21 [(0, .ref a0), (1, .int i1), (2, .int i2)] [.int t0] S rc rs := by
  unfold zf_X11_car_J21 at h
  obtain ⟨r, g, h⟩ := zb_some h
  refine zc_S (as := [.int t0]) hX (zt_X11_needArgument hlt (d := d - 1) (by omega) g) zl_X11_100 dX11_car_21 ⟨rfl, rfl, Nat.le_of_ble_eq_true rfl⟩ ⟨by omega, by omega⟩ ⟨by omega, by omega⟩ ?_ ?_
  · rintro _ S4 ⟨⟨u3, rfl⟩, rfl⟩
    try dsimp only at h
    refine zw_aload_n hX dX11_car_24 rfl ?_
    obtain ⟨v5, g, h⟩ := zb_some h
    refine zw_geti hX zl_X11_104 dX11_car_25 g ?_
    refine zw_if_eq (tgt := 46) hX dX11_car_28 (by decide) (fun c28 => ?_) (fun c28 => ?_)
    · rw [if_pos c28] at h
      refine zw_sub (lv' := [(0, .ref a0), (1, .int i1), (2, .int i2)]) (List.forall_mem_cons.mpr ⟨rfl, (List.forall_mem_cons.mpr ⟨rfl, (List.forall_mem_cons.mpr ⟨rfl, zs_nil⟩)⟩)⟩) ?_
      exact zt_X11_car_J46 hlt hxt hX hr hR hd ⟨by omega, by omega⟩ h
    · rw [if_neg c28] at h
      refine zw_aload_n hX dX11_car_31 rfl ?_
      obtain ⟨b11, g, h⟩ := zb_some h
      refine zw_getr hX zl_X11_92 dX11_car_32 g ?_
      obtain ⟨v12, g, h⟩ := zb_some h
      refine zw_getNi hX zl_X11_515 dX11_car_35 g ?_
      refine zw_iconst (v := (4 : Int32)) hX dX11_car_38 (by decide) ?_
      refine zw_icmp_ge (tgt := 46) hX dX11_car_39 (by decide) (fun c39 => ?_) (fun c39 => ?_)
      · rw [if_pos c39] at h
        refine zw_sub (lv' := [(0, .ref a0), (1, .int i1), (2, .int i2)]) (List.forall_mem_cons.mpr ⟨rfl, (List.forall_mem_cons.mpr ⟨rfl, (List.forall_mem_cons.mpr ⟨rfl, zs_nil⟩)⟩)⟩) ?_
        exact zt_X11_car_J46 hlt hxt hX hr hR hd ⟨by omega, by omega⟩ h
      · rw [if_neg c39] at h
        refine zw_iconst (v := (1 : Int32)) hX dX11_car_42 (by decide) ?_
        refine zw_goto (tgt := 47) hX dX11_car_43 (by decide) ?_
        refine zw_sub (lv' := [(0, .ref a0), (1, .int i1), (2, .int i2)]) (List.forall_mem_cons.mpr ⟨rfl, (List.forall_mem_cons.mpr ⟨rfl, (List.forall_mem_cons.mpr ⟨rfl, zs_nil⟩)⟩)⟩) ?_
        exact zt_X11_car_J47 hlt hxt hX hr hR hd ⟨by omega, by omega⟩ h
  · rintro X S9 rfl
    obtain rfl := Option.some.inj h
    exact zx_out hX hxt rfl
set_option maxHeartbeats 4000000 in
set_option maxRecDepth 100000 in
theorem zt_X11_car_J20 {p : Program} {l : Launch} {e : Env} {R : Room} {s : State} {m : MethodId} {args : Array Value} {below : List Frame} {meth : Method} {c : Code} {V : zm_V} {mc ms d rc rs : Nat} (hlt : l.stackTraces = false) (hxt : ∀ x ∈ c.exceptionTable.toList, False) (hX : zm_X p R s m args meth c RX11 "car" cX11_car 3 zk_E V mc ms) (hr : meth.sig.returnType = (some .int)) (hR : R.frames = d ∧ R.locals = 64 * d) (hd : 7 ≤ d) {N : Nat} {a0 : Nat} {i1 : Int32} {i2 : Int32} {out : ((Int32 ⊕ String) × zm_S)} (hc : 2 ≤ rc ∧ 12 ≤ rs) {S : zm_S} (h : zf_X11_car_J20 N a0 i1 i2 S = some out) : zw p l e R s m args below meth c (vx_MQ below (zm_Qc zk_E V (zq_i out)) (zm_XC zk_E V (zq_x out)) args s mc ms (fun q => V.2.2.2.1 ≤ q)) 3 zk_E V mc ms 20 [(0, .ref a0), (1, .int i1), (2, .int i2)] [] S rc rs := by
  unfold zf_X11_car_J20 at h
  refine zw_iconst (v := (0 : Int32)) hX dX11_car_20 (by decide) ?_
  refine zw_sub (lv' := [(0, .ref a0), (1, .int i1), (2, .int i2)]) (List.forall_mem_cons.mpr ⟨rfl, (List.forall_mem_cons.mpr ⟨rfl, (List.forall_mem_cons.mpr ⟨rfl, zs_nil⟩)⟩)⟩) ?_
  exact zt_X11_car_J21 hlt hxt hX hr hR hd ⟨by omega, by omega⟩ h
set_option maxHeartbeats 4000000 in
set_option maxRecDepth 100000 in
theorem zt_X11_car {l : Launch} {V : zm_V} (hlt : l.stackTraces = false) {N : Nat} {S : zm_S} {out : ((Int32 ⊕ String) × zm_S)} {d : Nat} {a0 : Nat} {i1 : Int32} {i2 : Int32} (hd : 7 ≤ d) (h : zf_X11_car N a0 i1 i2 S = some out) : zm_Met l zk_E V yX11_car (.code yX11_car cX11_car 3 (some .int)) d [.ref a0, .int i1, .int i2] S 2 12 (zq_i out) (zq_x out) := by
  refine zm_of (by decide +kernel) (Nat.le_of_ble_eq_true rfl) ?_
  intro p e R s m args below meth c hRR hX hr hxt
  have hR : R.frames = d ∧ R.locals = 64 * d := by rw [hRR]; exact ⟨rfl, rfl⟩
  have hX : zm_X p R s m args meth c RX11 "car" cX11_car 3 zk_E V 2 12 := hX
  unfold zf_X11_car at h
  refine zw_sub (lv' := [(0, .ref a0), (1, .int i1), (2, .int i2)]) (List.forall_mem_cons.mpr ⟨rfl, (List.forall_mem_cons.mpr ⟨rfl, (List.forall_mem_cons.mpr ⟨rfl, zs_nil⟩)⟩)⟩) ?_
  refine zw_iload_n hX dX11_car_0 rfl ?_
  obtain ⟨r2, g, h⟩ := zb_some h
  refine zc_Si (as := [.int i1]) hX (zt_X11_isFloor (d := d - 1) (by omega) g) zl_X11_512 dX11_car_1 ⟨rfl, rfl, Nat.le_of_ble_eq_true rfl⟩ ⟨by omega, by omega⟩ ?_
  refine zw_if_eq (tgt := 20) hX dX11_car_4 (by decide) (fun c4 => ?_) (fun c4 => ?_)
  · rw [if_pos c4] at h
    refine zw_sub (lv' := [(0, .ref a0), (1, .int i1), (2, .int i2)]) (List.forall_mem_cons.mpr ⟨rfl, (List.forall_mem_cons.mpr ⟨rfl, (List.forall_mem_cons.mpr ⟨rfl, zs_nil⟩)⟩)⟩) ?_
    exact zt_X11_car_J20 hlt hxt hX hr hR hd ⟨by omega, by omega⟩ h
  · rw [if_neg c4] at h
    refine zw_iload_n hX dX11_car_7 rfl ?_
    refine zw_iconst (v := (1 : Int32)) hX dX11_car_8 (by decide) ?_
    refine zw_iconst (v := (5 : Int32)) hX dX11_car_9 (by decide) ?_
    obtain ⟨r14, g, h⟩ := zb_some h
    refine zc_Si (as := [.int i2, .int (1 : Int32), .int (5 : Int32)]) hX (zt_X11_isWithin (d := d - 1) (by omega) g) zl_X11_133 dX11_car_10 ⟨rfl, rfl, Nat.le_of_ble_eq_true rfl⟩ ⟨by omega, by omega⟩ ?_
    refine zw_if_eq (tgt := 20) hX dX11_car_13 (by decide) (fun c13 => ?_) (fun c13 => ?_)
    · rw [if_pos c13] at h
      refine zw_sub (lv' := [(0, .ref a0), (1, .int i1), (2, .int i2)]) (List.forall_mem_cons.mpr ⟨rfl, (List.forall_mem_cons.mpr ⟨rfl, (List.forall_mem_cons.mpr ⟨rfl, zs_nil⟩)⟩)⟩) ?_
      exact zt_X11_car_J20 hlt hxt hX hr hR hd ⟨by omega, by omega⟩ h
    · rw [if_neg c13] at h
      refine zw_iconst (v := (1 : Int32)) hX dX11_car_16 (by decide) ?_
      refine zw_goto (tgt := 21) hX dX11_car_17 (by decide) ?_
      refine zw_sub (lv' := [(0, .ref a0), (1, .int i1), (2, .int i2)]) (List.forall_mem_cons.mpr ⟨rfl, (List.forall_mem_cons.mpr ⟨rfl, (List.forall_mem_cons.mpr ⟨rfl, zs_nil⟩)⟩)⟩) ?_
      exact zt_X11_car_J21 hlt hxt hX hr hR hd ⟨by omega, by omega⟩ h
set_option maxHeartbeats 4000000 in
set_option maxRecDepth 100000 in
theorem zt_X11_isCar {l : Launch} {V : zm_V} {N : Nat} {S : zm_S} {out : (Int32 × zm_S)} {d : Nat} {a0 : Nat} {i1 : Int32} (hd : 2 ≤ d) (h : zf_X11_isCar N a0 i1 S = some out) : zm_Met l zk_E V yX11_isCar (.code yX11_isCar cX11_isCar 2 (some .boolean)) d [.ref a0, .int i1] S 0 0 (zo_i out) zo_x := by
  refine zm_of (by decide +kernel) (Nat.le_of_ble_eq_true rfl) ?_
  intro p e R s m args below meth c hRR hX hr hxt
  have hR : R.frames = d ∧ R.locals = 64 * d := by rw [hRR]; exact ⟨rfl, rfl⟩
  have hX : zm_X p R s m args meth c RX11 "isCar" cX11_isCar 2 zk_E V 0 0 := hX
  unfold zf_X11_isCar at h
  refine zw_sub (lv' := [(0, .ref a0), (1, .int i1)]) (List.forall_mem_cons.mpr ⟨rfl, (List.forall_mem_cons.mpr ⟨rfl, zs_nil⟩)⟩) ?_
  refine zw_iload_n hX dX11_isCar_0 rfl ?_
  refine zw_iconst (v := (0 : Int32)) hX dX11_isCar_1 (by decide) ?_
  refine zw_aload_n hX dX11_isCar_2 rfl ?_
  obtain ⟨b1, g, h⟩ := zb_some h
  refine zw_getr hX zl_X11_92 dX11_isCar_3 g ?_
  obtain ⟨v2, g, h⟩ := zb_some h
  refine zw_getNi hX zl_X11_515 dX11_isCar_6 g ?_
  refine zw_iconst (v := (1 : Int32)) hX dX11_isCar_9 (by decide) ?_
  refine zw_isub hX dX11_isCar_10 ?_
  obtain ⟨r4, g, h⟩ := zb_some h
  refine zc_Si (as := [.int i1, .int (0 : Int32), .int (v2 - (1 : Int32))]) hX (zt_X11_isWithin (d := d - 1) (by omega) g) zl_X11_133 dX11_isCar_11 ⟨rfl, rfl, Nat.le_of_ble_eq_true rfl⟩ ⟨by omega, by omega⟩ ?_
  by_cases cz : r4.1 = 0 ∨ r4.1 = 1
  · rw [if_pos cz] at h
    obtain rfl := Option.some.inj h
    exact zw_iret hX hr dX11_isCar_14 (zn_z cz) ⟨rfl, rfl⟩
  · rw [if_neg cz] at h
    cases h
set_option maxHeartbeats 4000000 in
set_option maxRecDepth 100000 in
theorem zt_X11_free_J31 {p : Program} {l : Launch} {e : Env} {R : Room} {s : State} {m : MethodId} {args : Array Value} {below : List Frame} {meth : Method} {c : Code} {V : zm_V} {mc ms d rc rs : Nat} (hlt : l.stackTraces = false) (hxt : ∀ x ∈ c.exceptionTable.toList, False) (hX : zm_X p R s m args meth c RX11 "free" cX11_free 4 zk_E V mc ms) (hr : meth.sig.returnType = none) (hR : R.frames = d ∧ R.locals = 64 * d) (hd : 7 ≤ d) {N : Nat} {a0 : Nat} {i1 : Int32} {i2 : Int32} {i3 : Int32} {t0 : Int32} {out : ((Unit ⊕ String) × zm_S)} (hc : 2 ≤ rc ∧ 12 ≤ rs) {S : zm_S} (h : zf_X11_free_J31 N a0 i1 i2 i3 t0 S = some out) : zw p l e R s m args below meth c (vx_MQ below (zm_Qc zk_E V (zq_v out)) (zm_XC zk_E V (zq_x out)) args s mc ms (fun q => V.2.2.2.1 ≤ q)) 4 zk_E V mc ms 31 [(0, .ref a0), (1, .int i1), (2, .int i2), (3, .int i3)] [.int t0] S rc rs := by
  unfold zf_X11_free_J31 at h
  obtain ⟨r, g, h⟩ := zb_some h
  refine zc_S (as := [.int t0]) hX (zt_X11_needArgument hlt (d := d - 1) (by omega) g) zl_X11_100 dX11_free_31 ⟨rfl, rfl, Nat.le_of_ble_eq_true rfl⟩ ⟨by omega, by omega⟩ ⟨by omega, by omega⟩ ?_ ?_
  · rintro _ S4 ⟨⟨u3, rfl⟩, rfl⟩
    try dsimp only at h
    refine zw_aload_n hX dX11_free_34 rfl ?_
    obtain ⟨v5, g, h⟩ := zb_some h
    refine zw_geti hX zl_X11_104 dX11_free_35 g ?_
    obtain ⟨r, g, h⟩ := zb_some h
    refine zc_S (as := [.int v5]) hX (zt_X11_needState hlt (d := d - 1) (by omega) g) zl_X11_112 dX11_free_38 ⟨rfl, rfl, Nat.le_of_ble_eq_true rfl⟩ ⟨by omega, by omega⟩ ⟨by omega, by omega⟩ ?_ ?_
    · rintro _ S7 ⟨⟨u6, rfl⟩, rfl⟩
      try dsimp only at h
      refine zw_aload_n hX dX11_free_41 rfl ?_
      obtain ⟨b8, g, h⟩ := zb_some h
      refine zw_getr hX zl_X11_92 dX11_free_42 g ?_
      refine zw_iload_n hX dX11_free_45 rfl ?_
      refine zw_iload_n hX dX11_free_46 rfl ?_
      refine zw_iload_n hX dX11_free_47 rfl ?_
      obtain ⟨_, gi, h⟩ := zb_some h
      obtain ⟨r10, g, h⟩ := zb_some h
      refine zc_Vv (as := [.int i1, .int i2, .int i3]) hX gi (zt_X3_setFree (d := d - 1) (by omega) g) zl_X11_525 rfl dX11_free_48 ⟨rfl, rfl, Nat.le_of_ble_eq_true rfl⟩ ⟨by omega, by omega⟩ ?_
      obtain rfl := Option.some.inj h
      exact zw_vret hX hr dX11_free_51 ⟨⟨_, rfl⟩, rfl⟩
    · rintro X S9 rfl
      obtain rfl := Option.some.inj h
      exact zx_out hX hxt rfl
  · rintro X S9 rfl
    obtain rfl := Option.some.inj h
    exact zx_out hX hxt rfl
set_option maxHeartbeats 4000000 in
set_option maxRecDepth 100000 in
theorem zt_X11_free_J30 {p : Program} {l : Launch} {e : Env} {R : Room} {s : State} {m : MethodId} {args : Array Value} {below : List Frame} {meth : Method} {c : Code} {V : zm_V} {mc ms d rc rs : Nat} (hlt : l.stackTraces = false) (hxt : ∀ x ∈ c.exceptionTable.toList, False) (hX : zm_X p R s m args meth c RX11 "free" cX11_free 4 zk_E V mc ms) (hr : meth.sig.returnType = none) (hR : R.frames = d ∧ R.locals = 64 * d) (hd : 7 ≤ d) {N : Nat} {a0 : Nat} {i1 : Int32} {i2 : Int32} {i3 : Int32} {out : ((Unit ⊕ String) × zm_S)} (hc : 2 ≤ rc ∧ 12 ≤ rs) {S : zm_S} (h : zf_X11_free_J30 N a0 i1 i2 i3 S = some out) : zw p l e R s m args below meth c (vx_MQ below (zm_Qc zk_E V (zq_v out)) (zm_XC zk_E V (zq_x out)) args s mc ms (fun q => V.2.2.2.1 ≤ q)) 4 zk_E V mc ms 30 [(0, .ref a0), (1, .int i1), (2, .int i2), (3, .int i3)] [] S rc rs := by
  unfold zf_X11_free_J30 at h
  refine zw_iconst (v := (0 : Int32)) hX dX11_free_30 (by decide) ?_
  refine zw_sub (lv' := [(0, .ref a0), (1, .int i1), (2, .int i2), (3, .int i3)]) (List.forall_mem_cons.mpr ⟨rfl, (List.forall_mem_cons.mpr ⟨rfl, (List.forall_mem_cons.mpr ⟨rfl, (List.forall_mem_cons.mpr ⟨rfl, zs_nil⟩)⟩)⟩)⟩) ?_
  exact zt_X11_free_J31 hlt hxt hX hr hR hd ⟨by omega, by omega⟩ h
set_option maxHeartbeats 4000000 in
set_option maxRecDepth 100000 in
theorem zt_X11_free {l : Launch} {V : zm_V} (hlt : l.stackTraces = false) {N : Nat} {S : zm_S} {out : ((Unit ⊕ String) × zm_S)} {d : Nat} {a0 : Nat} {i1 : Int32} {i2 : Int32} {i3 : Int32} (hd : 7 ≤ d) (h : zf_X11_free N a0 i1 i2 i3 S = some out) : zm_Met l zk_E V yX11_free (.code yX11_free cX11_free 4 none) d [.ref a0, .int i1, .int i2, .int i3] S 2 12 (zq_v out) (zq_x out) := by
  refine zm_of (by decide +kernel) (Nat.le_of_ble_eq_true rfl) ?_
  intro p e R s m args below meth c hRR hX hr hxt
  have hR : R.frames = d ∧ R.locals = 64 * d := by rw [hRR]; exact ⟨rfl, rfl⟩
  have hX : zm_X p R s m args meth c RX11 "free" cX11_free 4 zk_E V 2 12 := hX
  unfold zf_X11_free at h
  refine zw_sub (lv' := [(0, .ref a0), (1, .int i1), (2, .int i2), (3, .int i3)]) (List.forall_mem_cons.mpr ⟨rfl, (List.forall_mem_cons.mpr ⟨rfl, (List.forall_mem_cons.mpr ⟨rfl, (List.forall_mem_cons.mpr ⟨rfl, zs_nil⟩)⟩)⟩)⟩) ?_
  refine zw_aload_n hX dX11_free_0 rfl ?_
  refine zw_iload_n hX dX11_free_1 rfl ?_
  obtain ⟨_, gi, h⟩ := zb_some h
  obtain ⟨r2, g, h⟩ := zb_some h
  refine zc_Vi (as := [.int i1]) hX gi (zt_X11_isCar (d := d - 1) (by omega) g) zl_X11_521 rfl dX11_free_2 ⟨rfl, rfl, Nat.le_of_ble_eq_true rfl⟩ ⟨by omega, by omega⟩ ?_
  refine zw_if_eq (tgt := 30) hX dX11_free_5 (by decide) (fun c5 => ?_) (fun c5 => ?_)
  · rw [if_pos c5] at h
    refine zw_sub (lv' := [(0, .ref a0), (1, .int i1), (2, .int i2), (3, .int i3)]) (List.forall_mem_cons.mpr ⟨rfl, (List.forall_mem_cons.mpr ⟨rfl, (List.forall_mem_cons.mpr ⟨rfl, (List.forall_mem_cons.mpr ⟨rfl, zs_nil⟩)⟩)⟩)⟩) ?_
    exact zt_X11_free_J30 hlt hxt hX hr hR hd ⟨by omega, by omega⟩ h
  · rw [if_neg c5] at h
    refine zw_iload_n hX dX11_free_8 rfl ?_
    obtain ⟨r12, g, h⟩ := zb_some h
    refine zc_Si (as := [.int i2]) hX (zt_X11_isFloor (d := d - 1) (by omega) g) zl_X11_512 dX11_free_9 ⟨rfl, rfl, Nat.le_of_ble_eq_true rfl⟩ ⟨by omega, by omega⟩ ?_
    refine zw_if_eq (tgt := 30) hX dX11_free_12 (by decide) (fun c12 => ?_) (fun c12 => ?_)
    · rw [if_pos c12] at h
      refine zw_sub (lv' := [(0, .ref a0), (1, .int i1), (2, .int i2), (3, .int i3)]) (List.forall_mem_cons.mpr ⟨rfl, (List.forall_mem_cons.mpr ⟨rfl, (List.forall_mem_cons.mpr ⟨rfl, (List.forall_mem_cons.mpr ⟨rfl, zs_nil⟩)⟩)⟩)⟩) ?_
      exact zt_X11_free_J30 hlt hxt hX hr hR hd ⟨by omega, by omega⟩ h
    · rw [if_neg c12] at h
      refine zw_iload_n hX dX11_free_15 rfl ?_
      refine zw_iconst (v := (0 : Int32)) hX dX11_free_16 (by decide) ?_
      refine zw_ldcw (v := (100000 : Int32)) hX dX11_free_17 zl_X11_524 ?_
      obtain ⟨r14, g, h⟩ := zb_some h
      refine zc_Si (as := [.int i3, .int (0 : Int32), .int (100000 : Int32)]) hX (zt_X11_isWithin (d := d - 1) (by omega) g) zl_X11_133 dX11_free_20 ⟨rfl, rfl, Nat.le_of_ble_eq_true rfl⟩ ⟨by omega, by omega⟩ ?_
      refine zw_if_eq (tgt := 30) hX dX11_free_23 (by decide) (fun c23 => ?_) (fun c23 => ?_)
      · rw [if_pos c23] at h
        refine zw_sub (lv' := [(0, .ref a0), (1, .int i1), (2, .int i2), (3, .int i3)]) (List.forall_mem_cons.mpr ⟨rfl, (List.forall_mem_cons.mpr ⟨rfl, (List.forall_mem_cons.mpr ⟨rfl, (List.forall_mem_cons.mpr ⟨rfl, zs_nil⟩)⟩)⟩)⟩) ?_
        exact zt_X11_free_J30 hlt hxt hX hr hR hd ⟨by omega, by omega⟩ h
      · rw [if_neg c23] at h
        refine zw_iconst (v := (1 : Int32)) hX dX11_free_26 (by decide) ?_
        refine zw_goto (tgt := 31) hX dX11_free_27 (by decide) ?_
        refine zw_sub (lv' := [(0, .ref a0), (1, .int i1), (2, .int i2), (3, .int i3)]) (List.forall_mem_cons.mpr ⟨rfl, (List.forall_mem_cons.mpr ⟨rfl, (List.forall_mem_cons.mpr ⟨rfl, (List.forall_mem_cons.mpr ⟨rfl, zs_nil⟩)⟩)⟩)⟩) ?_
        exact zt_X11_free_J31 hlt hxt hX hr hR hd ⟨by omega, by omega⟩ h
set_option maxHeartbeats 4000000 in
set_option maxRecDepth 100000 in
theorem zt_X11_span_J32 {p : Program} {l : Launch} {e : Env} {R : Room} {s : State} {m : MethodId} {args : Array Value} {below : List Frame} {meth : Method} {c : Code} {V : zm_V} {mc ms d rc rs : Nat} (hlt : l.stackTraces = false) (hxt : ∀ x ∈ c.exceptionTable.toList, False) (hX : zm_X p R s m args meth c RX11 "span" cX11_span 4 zk_E V mc ms) (hr : meth.sig.returnType = none) (hR : R.frames = d ∧ R.locals = 64 * d) (hd : 7 ≤ d) {N : Nat} {a0 : Nat} {i1 : Int32} {i2 : Int32} {i3 : Int32} {t0 : Int32} {out : ((Unit ⊕ String) × zm_S)} (hc : 2 ≤ rc ∧ 12 ≤ rs) {S : zm_S} (h : zf_X11_span_J32 N a0 i1 i2 i3 t0 S = some out) : zw p l e R s m args below meth c (vx_MQ below (zm_Qc zk_E V (zq_v out)) (zm_XC zk_E V (zq_x out)) args s mc ms (fun q => V.2.2.2.1 ≤ q)) 4 zk_E V mc ms 32 [(0, .ref a0), (1, .int i1), (2, .int i2), (3, .int i3)] [.int t0] S rc rs := by
  unfold zf_X11_span_J32 at h
  obtain ⟨r, g, h⟩ := zb_some h
  refine zc_S (as := [.int t0]) hX (zt_X11_needArgument hlt (d := d - 1) (by omega) g) zl_X11_100 dX11_span_32 ⟨rfl, rfl, Nat.le_of_ble_eq_true rfl⟩ ⟨by omega, by omega⟩ ⟨by omega, by omega⟩ ?_ ?_
  · rintro _ S4 ⟨⟨u3, rfl⟩, rfl⟩
    try dsimp only at h
    refine zw_aload_n hX dX11_span_35 rfl ?_
    obtain ⟨v5, g, h⟩ := zb_some h
    refine zw_geti hX zl_X11_104 dX11_span_36 g ?_
    obtain ⟨r, g, h⟩ := zb_some h
    refine zc_S (as := [.int v5]) hX (zt_X11_needState hlt (d := d - 1) (by omega) g) zl_X11_112 dX11_span_39 ⟨rfl, rfl, Nat.le_of_ble_eq_true rfl⟩ ⟨by omega, by omega⟩ ⟨by omega, by omega⟩ ?_ ?_
    · rintro _ S7 ⟨⟨u6, rfl⟩, rfl⟩
      try dsimp only at h
      refine zw_aload_n hX dX11_span_42 rfl ?_
      obtain ⟨b8, g, h⟩ := zb_some h
      refine zw_getr hX zl_X11_92 dX11_span_43 g ?_
      refine zw_iload_n hX dX11_span_46 rfl ?_
      refine zw_iload_n hX dX11_span_47 rfl ?_
      refine zw_iload_n hX dX11_span_48 rfl ?_
      obtain ⟨_, gi, h⟩ := zb_some h
      obtain ⟨r10, g, h⟩ := zb_some h
      refine zc_Vv (as := [.int i1, .int i2, .int i3]) hX gi (zt_X3_setSpan (d := d - 1) (by omega) g) zl_X11_529 rfl dX11_span_49 ⟨rfl, rfl, Nat.le_of_ble_eq_true rfl⟩ ⟨by omega, by omega⟩ ?_
      obtain rfl := Option.some.inj h
      exact zw_vret hX hr dX11_span_52 ⟨⟨_, rfl⟩, rfl⟩
    · rintro X S9 rfl
      obtain rfl := Option.some.inj h
      exact zx_out hX hxt rfl
  · rintro X S9 rfl
    obtain rfl := Option.some.inj h
    exact zx_out hX hxt rfl
set_option maxHeartbeats 4000000 in
set_option maxRecDepth 100000 in
theorem zt_X11_span_J31 {p : Program} {l : Launch} {e : Env} {R : Room} {s : State} {m : MethodId} {args : Array Value} {below : List Frame} {meth : Method} {c : Code} {V : zm_V} {mc ms d rc rs : Nat} (hlt : l.stackTraces = false) (hxt : ∀ x ∈ c.exceptionTable.toList, False) (hX : zm_X p R s m args meth c RX11 "span" cX11_span 4 zk_E V mc ms) (hr : meth.sig.returnType = none) (hR : R.frames = d ∧ R.locals = 64 * d) (hd : 7 ≤ d) {N : Nat} {a0 : Nat} {i1 : Int32} {i2 : Int32} {i3 : Int32} {out : ((Unit ⊕ String) × zm_S)} (hc : 2 ≤ rc ∧ 12 ≤ rs) {S : zm_S} (h : zf_X11_span_J31 N a0 i1 i2 i3 S = some out) : zw p l e R s m args below meth c (vx_MQ below (zm_Qc zk_E V (zq_v out)) (zm_XC zk_E V (zq_x out)) args s mc ms (fun q => V.2.2.2.1 ≤ q)) 4 zk_E V mc ms 31 [(0, .ref a0), (1, .int i1), (2, .int i2), (3, .int i3)] [] S rc rs := by
  unfold zf_X11_span_J31 at h
  refine zw_iconst (v := (0 : Int32)) hX dX11_span_31 (by decide) ?_
  refine zw_sub (lv' := [(0, .ref a0), (1, .int i1), (2, .int i2), (3, .int i3)]) (List.forall_mem_cons.mpr ⟨rfl, (List.forall_mem_cons.mpr ⟨rfl, (List.forall_mem_cons.mpr ⟨rfl, (List.forall_mem_cons.mpr ⟨rfl, zs_nil⟩)⟩)⟩)⟩) ?_
  exact zt_X11_span_J32 hlt hxt hX hr hR hd ⟨by omega, by omega⟩ h
set_option maxHeartbeats 4000000 in
set_option maxRecDepth 100000 in
theorem zt_X11_span {l : Launch} {V : zm_V} (hlt : l.stackTraces = false) {N : Nat} {S : zm_S} {out : ((Unit ⊕ String) × zm_S)} {d : Nat} {a0 : Nat} {i1 : Int32} {i2 : Int32} {i3 : Int32} (hd : 7 ≤ d) (h : zf_X11_span N a0 i1 i2 i3 S = some out) : zm_Met l zk_E V yX11_span (.code yX11_span cX11_span 4 none) d [.ref a0, .int i1, .int i2, .int i3] S 2 12 (zq_v out) (zq_x out) := by
  refine zm_of (by decide +kernel) (Nat.le_of_ble_eq_true rfl) ?_
  intro p e R s m args below meth c hRR hX hr hxt
  have hR : R.frames = d ∧ R.locals = 64 * d := by rw [hRR]; exact ⟨rfl, rfl⟩
  have hX : zm_X p R s m args meth c RX11 "span" cX11_span 4 zk_E V 2 12 := hX
  unfold zf_X11_span at h
  refine zw_sub (lv' := [(0, .ref a0), (1, .int i1), (2, .int i2), (3, .int i3)]) (List.forall_mem_cons.mpr ⟨rfl, (List.forall_mem_cons.mpr ⟨rfl, (List.forall_mem_cons.mpr ⟨rfl, (List.forall_mem_cons.mpr ⟨rfl, zs_nil⟩)⟩)⟩)⟩) ?_
  refine zw_aload_n hX dX11_span_0 rfl ?_
  refine zw_iload_n hX dX11_span_1 rfl ?_
  obtain ⟨_, gi, h⟩ := zb_some h
  obtain ⟨r2, g, h⟩ := zb_some h
  refine zc_Vi (as := [.int i1]) hX gi (zt_X11_isCar (d := d - 1) (by omega) g) zl_X11_521 rfl dX11_span_2 ⟨rfl, rfl, Nat.le_of_ble_eq_true rfl⟩ ⟨by omega, by omega⟩ ?_
  refine zw_if_eq (tgt := 31) hX dX11_span_5 (by decide) (fun c5 => ?_) (fun c5 => ?_)
  · rw [if_pos c5] at h
    refine zw_sub (lv' := [(0, .ref a0), (1, .int i1), (2, .int i2), (3, .int i3)]) (List.forall_mem_cons.mpr ⟨rfl, (List.forall_mem_cons.mpr ⟨rfl, (List.forall_mem_cons.mpr ⟨rfl, (List.forall_mem_cons.mpr ⟨rfl, zs_nil⟩)⟩)⟩)⟩) ?_
    exact zt_X11_span_J31 hlt hxt hX hr hR hd ⟨by omega, by omega⟩ h
  · rw [if_neg c5] at h
    refine zw_iload_n hX dX11_span_8 rfl ?_
    obtain ⟨r12, g, h⟩ := zb_some h
    refine zc_Si (as := [.int i2]) hX (zt_X11_isFloor (d := d - 1) (by omega) g) zl_X11_512 dX11_span_9 ⟨rfl, rfl, Nat.le_of_ble_eq_true rfl⟩ ⟨by omega, by omega⟩ ?_
    refine zw_if_eq (tgt := 31) hX dX11_span_12 (by decide) (fun c12 => ?_) (fun c12 => ?_)
    · rw [if_pos c12] at h
      refine zw_sub (lv' := [(0, .ref a0), (1, .int i1), (2, .int i2), (3, .int i3)]) (List.forall_mem_cons.mpr ⟨rfl, (List.forall_mem_cons.mpr ⟨rfl, (List.forall_mem_cons.mpr ⟨rfl, (List.forall_mem_cons.mpr ⟨rfl, zs_nil⟩)⟩)⟩)⟩) ?_
      exact zt_X11_span_J31 hlt hxt hX hr hR hd ⟨by omega, by omega⟩ h
    · rw [if_neg c12] at h
      refine zw_iload_n hX dX11_span_15 rfl ?_
      obtain ⟨r14, g, h⟩ := zb_some h
      refine zc_Si (as := [.int i3]) hX (zt_X11_isFloor (d := d - 1) (by omega) g) zl_X11_512 dX11_span_16 ⟨rfl, rfl, Nat.le_of_ble_eq_true rfl⟩ ⟨by omega, by omega⟩ ?_
      refine zw_if_eq (tgt := 31) hX dX11_span_19 (by decide) (fun c19 => ?_) (fun c19 => ?_)
      · rw [if_pos c19] at h
        refine zw_sub (lv' := [(0, .ref a0), (1, .int i1), (2, .int i2), (3, .int i3)]) (List.forall_mem_cons.mpr ⟨rfl, (List.forall_mem_cons.mpr ⟨rfl, (List.forall_mem_cons.mpr ⟨rfl, (List.forall_mem_cons.mpr ⟨rfl, zs_nil⟩)⟩)⟩)⟩) ?_
        exact zt_X11_span_J31 hlt hxt hX hr hR hd ⟨by omega, by omega⟩ h
      · rw [if_neg c19] at h
        refine zw_iload_n hX dX11_span_22 rfl ?_
        refine zw_iload_n hX dX11_span_23 rfl ?_
        refine zw_icmp_gt (tgt := 31) hX dX11_span_24 (by decide) (fun c24 => ?_) (fun c24 => ?_)
        · rw [if_pos c24] at h
          refine zw_sub (lv' := [(0, .ref a0), (1, .int i1), (2, .int i2), (3, .int i3)]) (List.forall_mem_cons.mpr ⟨rfl, (List.forall_mem_cons.mpr ⟨rfl, (List.forall_mem_cons.mpr ⟨rfl, (List.forall_mem_cons.mpr ⟨rfl, zs_nil⟩)⟩)⟩)⟩) ?_
          exact zt_X11_span_J31 hlt hxt hX hr hR hd ⟨by omega, by omega⟩ h
        · rw [if_neg c24] at h
          refine zw_iconst (v := (1 : Int32)) hX dX11_span_27 (by decide) ?_
          refine zw_goto (tgt := 32) hX dX11_span_28 (by decide) ?_
          refine zw_sub (lv' := [(0, .ref a0), (1, .int i1), (2, .int i2), (3, .int i3)]) (List.forall_mem_cons.mpr ⟨rfl, (List.forall_mem_cons.mpr ⟨rfl, (List.forall_mem_cons.mpr ⟨rfl, (List.forall_mem_cons.mpr ⟨rfl, zs_nil⟩)⟩)⟩)⟩) ?_
          exact zt_X11_span_J32 hlt hxt hX hr hR hd ⟨by omega, by omega⟩ h
set_option maxHeartbeats 4000000 in
set_option maxRecDepth 100000 in
theorem zt_X11_call_J64 {p : Program} {l : Launch} {e : Env} {R : Room} {s : State} {m : MethodId} {args : Array Value} {below : List Frame} {meth : Method} {c : Code} {V : zm_V} {mc ms d rc rs : Nat} (hlt : l.stackTraces = false) (hxt : ∀ x ∈ c.exceptionTable.toList, False) (hX : zm_X p R s m args meth c RX11 "call" cX11_call 3 zk_E V mc ms) (hr : meth.sig.returnType = (some .int)) (hR : R.frames = d ∧ R.locals = 64 * d) (hd : 7 ≤ d) {N : Nat} {a0 : Nat} {i1 : Int32} {i2 : Int32} {t0 : Int32} {out : ((Int32 ⊕ String) × zm_S)} (hc : 1 ≤ rc ∧ 6 ≤ rs) {S : zm_S} (h : zf_X11_call_J64 N a0 i1 i2 t0 S = some out) : zw p l e R s m args below meth c (vx_MQ below (zm_Qc zk_E V (zq_i out)) (zm_XC zk_E V (zq_x out)) args s mc ms (fun q => V.2.2.2.1 ≤ q)) 3 zk_E V mc ms 64 [(0, .ref a0), (1, .int i1), (2, .int i2)] [.int t0] S rc rs := by
  unfold zf_X11_call_J64 at h
  obtain ⟨r, g, h⟩ := zb_some h
  refine zc_S (as := [.int t0]) hX (zt_X11_needState hlt (d := d - 1) (by omega) g) zl_X11_112 dX11_call_64 ⟨rfl, rfl, Nat.le_of_ble_eq_true rfl⟩ ⟨by omega, by omega⟩ ⟨by omega, by omega⟩ ?_ ?_
  · rintro _ S7 ⟨⟨u6, rfl⟩, rfl⟩
    try dsimp only at h
    refine zw_aload_n hX dX11_call_67 rfl ?_
    obtain ⟨b8, g, h⟩ := zb_some h
    refine zw_getr hX zl_X11_92 dX11_call_68 g ?_
    refine zw_iload_n hX dX11_call_71 rfl ?_
    refine zw_iload_n hX dX11_call_72 rfl ?_
    refine zw_aload_n hX dX11_call_73 rfl ?_
    obtain ⟨v9, g, h⟩ := zb_some h
    refine zw_geti hX zl_X11_312 dX11_call_74 g ?_
    obtain ⟨_, gi, h⟩ := zb_some h
    obtain ⟨r11, g, h⟩ := zb_some h
    refine zc_Vi (as := [.int i1, .int i2, .int v9]) hX gi (zt_X3_addCall (d := d - 1) (by omega) g) zl_X11_538 rfl dX11_call_77 ⟨rfl, rfl, Nat.le_of_ble_eq_true rfl⟩ ⟨by omega, by omega⟩ ?_
    obtain rfl := Option.some.inj h
    exact zw_iret hX hr dX11_call_80 rfl ⟨_, rfl, rfl⟩
  · rintro X S9 rfl
    obtain rfl := Option.some.inj h
    exact zx_out hX hxt rfl
set_option maxHeartbeats 4000000 in
set_option maxRecDepth 100000 in
theorem zt_X11_call_J63 {p : Program} {l : Launch} {e : Env} {R : Room} {s : State} {m : MethodId} {args : Array Value} {below : List Frame} {meth : Method} {c : Code} {V : zm_V} {mc ms d rc rs : Nat} (hlt : l.stackTraces = false) (hxt : ∀ x ∈ c.exceptionTable.toList, False) (hX : zm_X p R s m args meth c RX11 "call" cX11_call 3 zk_E V mc ms) (hr : meth.sig.returnType = (some .int)) (hR : R.frames = d ∧ R.locals = 64 * d) (hd : 7 ≤ d) {N : Nat} {a0 : Nat} {i1 : Int32} {i2 : Int32} {out : ((Int32 ⊕ String) × zm_S)} (hc : 1 ≤ rc ∧ 6 ≤ rs) {S : zm_S} (h : zf_X11_call_J63 N a0 i1 i2 S = some out) : zw p l e R s m args below meth c (vx_MQ below (zm_Qc zk_E V (zq_i out)) (zm_XC zk_E V (zq_x out)) args s mc ms (fun q => V.2.2.2.1 ≤ q)) 3 zk_E V mc ms 63 [(0, .ref a0), (1, .int i1), (2, .int i2)] [] S rc rs := by
  unfold zf_X11_call_J63 at h
  refine zw_iconst (v := (0 : Int32)) hX dX11_call_63 (by decide) ?_
  refine zw_sub (lv' := [(0, .ref a0), (1, .int i1), (2, .int i2)]) (List.forall_mem_cons.mpr ⟨rfl, (List.forall_mem_cons.mpr ⟨rfl, (List.forall_mem_cons.mpr ⟨rfl, zs_nil⟩)⟩)⟩) ?_
  exact zt_X11_call_J64 hlt hxt hX hr hR hd ⟨by omega, by omega⟩ h
set_option maxHeartbeats 4000000 in
set_option maxRecDepth 100000 in
theorem zt_X11_call_J24 {p : Program} {l : Launch} {e : Env} {R : Room} {s : State} {m : MethodId} {args : Array Value} {below : List Frame} {meth : Method} {c : Code} {V : zm_V} {mc ms d rc rs : Nat} (hlt : l.stackTraces = false) (hxt : ∀ x ∈ c.exceptionTable.toList, False) (hX : zm_X p R s m args meth c RX11 "call" cX11_call 3 zk_E V mc ms) (hr : meth.sig.returnType = (some .int)) (hR : R.frames = d ∧ R.locals = 64 * d) (hd : 7 ≤ d) {N : Nat} {a0 : Nat} {i1 : Int32} {i2 : Int32} {t0 : Int32} {out : ((Int32 ⊕ String) × zm_S)} (hc : 2 ≤ rc ∧ 12 ≤ rs) {S : zm_S} (h : zf_X11_call_J24 N a0 i1 i2 t0 S = some out) : zw p l e R s m args below meth c (vx_MQ below (zm_Qc zk_E V (zq_i out)) (zm_XC zk_E V (zq_x out)) args s mc ms (fun q => V.2.2.2.1 ≤ q)) 3 zk_E V mc ms 24 [(0, .ref a0), (1, .int i1), (2, .int i2)] [.int t0] S rc rs := by
  unfold zf_X11_call_J24 at h
  obtain ⟨r, g, h⟩ := zb_some h
  refine zc_S (as := [.int t0]) hX (zt_X11_needArgument hlt (d := d - 1) (by omega) g) zl_X11_100 dX11_call_24 ⟨rfl, rfl, Nat.le_of_ble_eq_true rfl⟩ ⟨by omega, by omega⟩ ⟨by omega, by omega⟩ ?_ ?_
  · rintro _ S4 ⟨⟨u3, rfl⟩, rfl⟩
    try dsimp only at h
    refine zw_aload_n hX dX11_call_27 rfl ?_
    obtain ⟨v5, g, h⟩ := zb_some h
    refine zw_geti hX zl_X11_104 dX11_call_28 g ?_
    refine zw_if_eq (tgt := 63) hX dX11_call_31 (by decide) (fun c31 => ?_) (fun c31 => ?_)
    · rw [if_pos c31] at h
      refine zw_sub (lv' := [(0, .ref a0), (1, .int i1), (2, .int i2)]) (List.forall_mem_cons.mpr ⟨rfl, (List.forall_mem_cons.mpr ⟨rfl, (List.forall_mem_cons.mpr ⟨rfl, zs_nil⟩)⟩)⟩) ?_
      exact zt_X11_call_J63 hlt hxt hX hr hR hd ⟨by omega, by omega⟩ h
    · rw [if_neg c31] at h
      refine zw_aload_n hX dX11_call_34 rfl ?_
      obtain ⟨b12, g, h⟩ := zb_some h
      refine zw_getr hX zl_X11_92 dX11_call_35 g ?_
      obtain ⟨v13, g, h⟩ := zb_some h
      refine zw_getNi hX zl_X11_532 dX11_call_38 g ?_
      refine zw_bipush (v := (6 : Int32)) hX dX11_call_41 (by decide) ?_
      refine zw_icmp_ge (tgt := 63) hX dX11_call_43 (by decide) (fun c43 => ?_) (fun c43 => ?_)
      · rw [if_pos c43] at h
        refine zw_sub (lv' := [(0, .ref a0), (1, .int i1), (2, .int i2)]) (List.forall_mem_cons.mpr ⟨rfl, (List.forall_mem_cons.mpr ⟨rfl, (List.forall_mem_cons.mpr ⟨rfl, zs_nil⟩)⟩)⟩) ?_
        exact zt_X11_call_J63 hlt hxt hX hr hR hd ⟨by omega, by omega⟩ h
      · rw [if_neg c43] at h
        refine zw_aload_n hX dX11_call_46 rfl ?_
        obtain ⟨b14, g, h⟩ := zb_some h
        refine zw_getr hX zl_X11_92 dX11_call_47 g ?_
        obtain ⟨v15, g, h⟩ := zb_some h
        refine zw_getNi hX zl_X11_535 dX11_call_50 g ?_
        refine zw_sipush (v := (400 : Int32)) hX dX11_call_53 (by decide) ?_
        refine zw_icmp_ge (tgt := 63) hX dX11_call_56 (by decide) (fun c56 => ?_) (fun c56 => ?_)
        · rw [if_pos c56] at h
          refine zw_sub (lv' := [(0, .ref a0), (1, .int i1), (2, .int i2)]) (List.forall_mem_cons.mpr ⟨rfl, (List.forall_mem_cons.mpr ⟨rfl, (List.forall_mem_cons.mpr ⟨rfl, zs_nil⟩)⟩)⟩) ?_
          exact zt_X11_call_J63 hlt hxt hX hr hR hd ⟨by omega, by omega⟩ h
        · rw [if_neg c56] at h
          refine zw_iconst (v := (1 : Int32)) hX dX11_call_59 (by decide) ?_
          refine zw_goto (tgt := 64) hX dX11_call_60 (by decide) ?_
          refine zw_sub (lv' := [(0, .ref a0), (1, .int i1), (2, .int i2)]) (List.forall_mem_cons.mpr ⟨rfl, (List.forall_mem_cons.mpr ⟨rfl, (List.forall_mem_cons.mpr ⟨rfl, zs_nil⟩)⟩)⟩) ?_
          exact zt_X11_call_J64 hlt hxt hX hr hR hd ⟨by omega, by omega⟩ h
  · rintro X S9 rfl
    obtain rfl := Option.some.inj h
    exact zx_out hX hxt rfl
set_option maxHeartbeats 4000000 in
set_option maxRecDepth 100000 in
theorem zt_X11_call_J23 {p : Program} {l : Launch} {e : Env} {R : Room} {s : State} {m : MethodId} {args : Array Value} {below : List Frame} {meth : Method} {c : Code} {V : zm_V} {mc ms d rc rs : Nat} (hlt : l.stackTraces = false) (hxt : ∀ x ∈ c.exceptionTable.toList, False) (hX : zm_X p R s m args meth c RX11 "call" cX11_call 3 zk_E V mc ms) (hr : meth.sig.returnType = (some .int)) (hR : R.frames = d ∧ R.locals = 64 * d) (hd : 7 ≤ d) {N : Nat} {a0 : Nat} {i1 : Int32} {i2 : Int32} {out : ((Int32 ⊕ String) × zm_S)} (hc : 2 ≤ rc ∧ 12 ≤ rs) {S : zm_S} (h : zf_X11_call_J23 N a0 i1 i2 S = some out) : zw p l e R s m args below meth c (vx_MQ below (zm_Qc zk_E V (zq_i out)) (zm_XC zk_E V (zq_x out)) args s mc ms (fun q => V.2.2.2.1 ≤ q)) 3 zk_E V mc ms 23 [(0, .ref a0), (1, .int i1), (2, .int i2)] [] S rc rs := by
  unfold zf_X11_call_J23 at h
  refine zw_iconst (v := (0 : Int32)) hX dX11_call_23 (by decide) ?_
  refine zw_sub (lv' := [(0, .ref a0), (1, .int i1), (2, .int i2)]) (List.forall_mem_cons.mpr ⟨rfl, (List.forall_mem_cons.mpr ⟨rfl, (List.forall_mem_cons.mpr ⟨rfl, zs_nil⟩)⟩)⟩) ?_
  exact zt_X11_call_J24 hlt hxt hX hr hR hd ⟨by omega, by omega⟩ h
set_option maxHeartbeats 4000000 in
set_option maxRecDepth 100000 in
theorem zt_X11_call {l : Launch} {V : zm_V} (hlt : l.stackTraces = false) {N : Nat} {S : zm_S} {out : ((Int32 ⊕ String) × zm_S)} {d : Nat} {a0 : Nat} {i1 : Int32} {i2 : Int32} (hd : 7 ≤ d) (h : zf_X11_call N a0 i1 i2 S = some out) : zm_Met l zk_E V yX11_call (.code yX11_call cX11_call 3 (some .int)) d [.ref a0, .int i1, .int i2] S 2 12 (zq_i out) (zq_x out) := by
  refine zm_of (by decide +kernel) (Nat.le_of_ble_eq_true rfl) ?_
  intro p e R s m args below meth c hRR hX hr hxt
  have hR : R.frames = d ∧ R.locals = 64 * d := by rw [hRR]; exact ⟨rfl, rfl⟩
  have hX : zm_X p R s m args meth c RX11 "call" cX11_call 3 zk_E V 2 12 := hX
  unfold zf_X11_call at h
  refine zw_sub (lv' := [(0, .ref a0), (1, .int i1), (2, .int i2)]) (List.forall_mem_cons.mpr ⟨rfl, (List.forall_mem_cons.mpr ⟨rfl, (List.forall_mem_cons.mpr ⟨rfl, zs_nil⟩)⟩)⟩) ?_
  refine zw_iload_n hX dX11_call_0 rfl ?_
  obtain ⟨r2, g, h⟩ := zb_some h
  refine zc_Si (as := [.int i1]) hX (zt_X11_isFloor (d := d - 1) (by omega) g) zl_X11_512 dX11_call_1 ⟨rfl, rfl, Nat.le_of_ble_eq_true rfl⟩ ⟨by omega, by omega⟩ ?_
  refine zw_if_eq (tgt := 23) hX dX11_call_4 (by decide) (fun c4 => ?_) (fun c4 => ?_)
  · rw [if_pos c4] at h
    refine zw_sub (lv' := [(0, .ref a0), (1, .int i1), (2, .int i2)]) (List.forall_mem_cons.mpr ⟨rfl, (List.forall_mem_cons.mpr ⟨rfl, (List.forall_mem_cons.mpr ⟨rfl, zs_nil⟩)⟩)⟩) ?_
    exact zt_X11_call_J23 hlt hxt hX hr hR hd ⟨by omega, by omega⟩ h
  · rw [if_neg c4] at h
    refine zw_iload_n hX dX11_call_7 rfl ?_
    obtain ⟨r17, g, h⟩ := zb_some h
    refine zc_Si (as := [.int i2]) hX (zt_X11_isFloor (d := d - 1) (by omega) g) zl_X11_512 dX11_call_8 ⟨rfl, rfl, Nat.le_of_ble_eq_true rfl⟩ ⟨by omega, by omega⟩ ?_
    refine zw_if_eq (tgt := 23) hX dX11_call_11 (by decide) (fun c11 => ?_) (fun c11 => ?_)
    · rw [if_pos c11] at h
      refine zw_sub (lv' := [(0, .ref a0), (1, .int i1), (2, .int i2)]) (List.forall_mem_cons.mpr ⟨rfl, (List.forall_mem_cons.mpr ⟨rfl, (List.forall_mem_cons.mpr ⟨rfl, zs_nil⟩)⟩)⟩) ?_
      exact zt_X11_call_J23 hlt hxt hX hr hR hd ⟨by omega, by omega⟩ h
    · rw [if_neg c11] at h
      refine zw_iload_n hX dX11_call_14 rfl ?_
      refine zw_iload_n hX dX11_call_15 rfl ?_
      refine zw_icmp_eq (tgt := 23) hX dX11_call_16 (by decide) (fun c16 => ?_) (fun c16 => ?_)
      · rw [if_pos c16] at h
        refine zw_sub (lv' := [(0, .ref a0), (1, .int i1), (2, .int i2)]) (List.forall_mem_cons.mpr ⟨rfl, (List.forall_mem_cons.mpr ⟨rfl, (List.forall_mem_cons.mpr ⟨rfl, zs_nil⟩)⟩)⟩) ?_
        exact zt_X11_call_J23 hlt hxt hX hr hR hd ⟨by omega, by omega⟩ h
      · rw [if_neg c16] at h
        refine zw_iconst (v := (1 : Int32)) hX dX11_call_19 (by decide) ?_
        refine zw_goto (tgt := 24) hX dX11_call_20 (by decide) ?_
        refine zw_sub (lv' := [(0, .ref a0), (1, .int i1), (2, .int i2)]) (List.forall_mem_cons.mpr ⟨rfl, (List.forall_mem_cons.mpr ⟨rfl, (List.forall_mem_cons.mpr ⟨rfl, zs_nil⟩)⟩)⟩) ?_
        exact zt_X11_call_J24 hlt hxt hX hr hR hd ⟨by omega, by omega⟩ h
set_option maxHeartbeats 4000000 in
set_option maxRecDepth 100000 in
theorem zt_X11_begin_J29 {p : Program} {l : Launch} {e : Env} {R : Room} {s : State} {m : MethodId} {args : Array Value} {below : List Frame} {meth : Method} {c : Code} {V : zm_V} {mc ms d rc rs : Nat} (hlt : l.stackTraces = false) (hxt : ∀ x ∈ c.exceptionTable.toList, False) (hX : zm_X p R s m args meth c RX11 "begin" cX11_begin 3 zk_E V mc ms) (hr : meth.sig.returnType = (some .boolean)) (hR : R.frames = d ∧ R.locals = 64 * d) (hd : 7 ≤ d) {N : Nat} {a0 : Nat} {i1 : Int32} {i2 : Int32} {t0 : Int32} {out : ((Int32 ⊕ String) × zm_S)} (hc : 2 ≤ rc ∧ 12 ≤ rs) {S : zm_S} (h : zf_X11_begin_J29 N a0 i1 i2 t0 S = some out) : zw p l e R s m args below meth c (vx_MQ below (zm_Qc zk_E V (zq_i out)) (zm_XC zk_E V (zq_x out)) args s mc ms (fun q => V.2.2.2.1 ≤ q)) 3 zk_E V mc ms 29 [(0, .ref a0), (1, .int i1), (2, .int i2)] [.int t0] S rc rs := by
  unfold zf_X11_begin_J29 at h
  obtain ⟨r, g, h⟩ := zb_some h
  refine zc_S (as := [.int t0]) hX (zt_X11_needArgument hlt (d := d - 1) (by omega) g) zl_X11_100 dX11_begin_29 ⟨rfl, rfl, Nat.le_of_ble_eq_true rfl⟩ ⟨by omega, by omega⟩ ⟨by omega, by omega⟩ ?_ ?_
  · rintro _ S5 ⟨⟨u4, rfl⟩, rfl⟩
    try dsimp only at h
    refine zw_aload_n hX dX11_begin_32 rfl ?_
    obtain ⟨v6, g, h⟩ := zb_some h
    refine zw_geti hX zl_X11_104 dX11_begin_33 g ?_
    obtain ⟨r, g, h⟩ := zb_some h
    refine zc_S (as := [.int v6]) hX (zt_X11_needState hlt (d := d - 1) (by omega) g) zl_X11_112 dX11_begin_36 ⟨rfl, rfl, Nat.le_of_ble_eq_true rfl⟩ ⟨by omega, by omega⟩ ⟨by omega, by omega⟩ ?_ ?_
    · rintro _ S8 ⟨⟨u7, rfl⟩, rfl⟩
      try dsimp only at h
      refine zw_aload_n hX dX11_begin_39 rfl ?_
      obtain ⟨b9, g, h⟩ := zb_some h
      refine zw_getr hX zl_X11_92 dX11_begin_40 g ?_
      refine zw_iload_n hX dX11_begin_43 rfl ?_
      refine zw_iload_n hX dX11_begin_44 rfl ?_
      obtain ⟨_, gi, h⟩ := zb_some h
      obtain ⟨r11, g, h⟩ := zb_some h
      refine zc_Vi (as := [.int i1, .int i2]) hX gi (zt_X3_setBegun (d := d - 1) (by omega) g) zl_X11_544 rfl dX11_begin_45 ⟨rfl, rfl, Nat.le_of_ble_eq_true rfl⟩ ⟨by omega, by omega⟩ ?_
      by_cases cz : r11.1 = 0 ∨ r11.1 = 1
      · rw [if_pos cz] at h
        obtain rfl := Option.some.inj h
        exact zw_iret hX hr dX11_begin_48 (zn_z cz) ⟨_, rfl, rfl⟩
      · rw [if_neg cz] at h
        cases h
    · rintro X S9 rfl
      obtain rfl := Option.some.inj h
      exact zx_out hX hxt rfl
  · rintro X S9 rfl
    obtain rfl := Option.some.inj h
    exact zx_out hX hxt rfl
set_option maxHeartbeats 4000000 in
set_option maxRecDepth 100000 in
theorem zt_X11_begin_J28 {p : Program} {l : Launch} {e : Env} {R : Room} {s : State} {m : MethodId} {args : Array Value} {below : List Frame} {meth : Method} {c : Code} {V : zm_V} {mc ms d rc rs : Nat} (hlt : l.stackTraces = false) (hxt : ∀ x ∈ c.exceptionTable.toList, False) (hX : zm_X p R s m args meth c RX11 "begin" cX11_begin 3 zk_E V mc ms) (hr : meth.sig.returnType = (some .boolean)) (hR : R.frames = d ∧ R.locals = 64 * d) (hd : 7 ≤ d) {N : Nat} {a0 : Nat} {i1 : Int32} {i2 : Int32} {out : ((Int32 ⊕ String) × zm_S)} (hc : 2 ≤ rc ∧ 12 ≤ rs) {S : zm_S} (h : zf_X11_begin_J28 N a0 i1 i2 S = some out) : zw p l e R s m args below meth c (vx_MQ below (zm_Qc zk_E V (zq_i out)) (zm_XC zk_E V (zq_x out)) args s mc ms (fun q => V.2.2.2.1 ≤ q)) 3 zk_E V mc ms 28 [(0, .ref a0), (1, .int i1), (2, .int i2)] [] S rc rs := by
  unfold zf_X11_begin_J28 at h
  refine zw_iconst (v := (0 : Int32)) hX dX11_begin_28 (by decide) ?_
  refine zw_sub (lv' := [(0, .ref a0), (1, .int i1), (2, .int i2)]) (List.forall_mem_cons.mpr ⟨rfl, (List.forall_mem_cons.mpr ⟨rfl, (List.forall_mem_cons.mpr ⟨rfl, zs_nil⟩)⟩)⟩) ?_
  exact zt_X11_begin_J29 hlt hxt hX hr hR hd ⟨by omega, by omega⟩ h
set_option maxHeartbeats 4000000 in
set_option maxRecDepth 100000 in
theorem zt_X11_begin_J24 {p : Program} {l : Launch} {e : Env} {R : Room} {s : State} {m : MethodId} {args : Array Value} {below : List Frame} {meth : Method} {c : Code} {V : zm_V} {mc ms d rc rs : Nat} (hlt : l.stackTraces = false) (hxt : ∀ x ∈ c.exceptionTable.toList, False) (hX : zm_X p R s m args meth c RX11 "begin" cX11_begin 3 zk_E V mc ms) (hr : meth.sig.returnType = (some .boolean)) (hR : R.frames = d ∧ R.locals = 64 * d) (hd : 7 ≤ d) {N : Nat} {a0 : Nat} {i1 : Int32} {i2 : Int32} {out : ((Int32 ⊕ String) × zm_S)} (hc : 2 ≤ rc ∧ 12 ≤ rs) {S : zm_S} (h : zf_X11_begin_J24 N a0 i1 i2 S = some out) : zw p l e R s m args below meth c (vx_MQ below (zm_Qc zk_E V (zq_i out)) (zm_XC zk_E V (zq_x out)) args s mc ms (fun q => V.2.2.2.1 ≤ q)) 3 zk_E V mc ms 24 [(0, .ref a0), (1, .int i1), (2, .int i2)] [] S rc rs := by
  unfold zf_X11_begin_J24 at h
  refine zw_iconst (v := (1 : Int32)) hX dX11_begin_24 (by decide) ?_
  refine zw_goto (tgt := 29) hX dX11_begin_25 (by decide) ?_
  refine zw_sub (lv' := [(0, .ref a0), (1, .int i1), (2, .int i2)]) (List.forall_mem_cons.mpr ⟨rfl, (List.forall_mem_cons.mpr ⟨rfl, (List.forall_mem_cons.mpr ⟨rfl, zs_nil⟩)⟩)⟩) ?_
  exact zt_X11_begin_J29 hlt hxt hX hr hR hd ⟨by omega, by omega⟩ h
set_option maxHeartbeats 4000000 in
set_option maxRecDepth 100000 in
theorem zt_X11_begin {l : Launch} {V : zm_V} (hlt : l.stackTraces = false) {N : Nat} {S : zm_S} {out : ((Int32 ⊕ String) × zm_S)} {d : Nat} {a0 : Nat} {i1 : Int32} {i2 : Int32} (hd : 7 ≤ d) (h : zf_X11_begin N a0 i1 i2 S = some out) : zm_Met l zk_E V yX11_begin (.code yX11_begin cX11_begin 3 (some .boolean)) d [.ref a0, .int i1, .int i2] S 2 12 (zq_i out) (zq_x out) := by
  refine zm_of (by decide +kernel) (Nat.le_of_ble_eq_true rfl) ?_
  intro p e R s m args below meth c hRR hX hr hxt
  have hR : R.frames = d ∧ R.locals = 64 * d := by rw [hRR]; exact ⟨rfl, rfl⟩
  have hX : zm_X p R s m args meth c RX11 "begin" cX11_begin 3 zk_E V 2 12 := hX
  unfold zf_X11_begin at h
  refine zw_sub (lv' := [(0, .ref a0), (1, .int i1), (2, .int i2)]) (List.forall_mem_cons.mpr ⟨rfl, (List.forall_mem_cons.mpr ⟨rfl, (List.forall_mem_cons.mpr ⟨rfl, zs_nil⟩)⟩)⟩) ?_
  refine zw_aload_n hX dX11_begin_0 rfl ?_
  obtain ⟨b1, g, h⟩ := zb_some h
  refine zw_getr hX zl_X11_92 dX11_begin_1 g ?_
  refine zw_iload_n hX dX11_begin_4 rfl ?_
  obtain ⟨_, gi, h⟩ := zb_some h
  obtain ⟨r3, g, h⟩ := zb_some h
  refine zc_Vi (as := [.int i1]) hX gi (zt_X3_isOpenCall (d := d - 1) (by omega) g) zl_X11_541 rfl dX11_begin_5 ⟨rfl, rfl, Nat.le_of_ble_eq_true rfl⟩ ⟨by omega, by omega⟩ ?_
  refine zw_if_eq (tgt := 28) hX dX11_begin_8 (by decide) (fun c8 => ?_) (fun c8 => ?_)
  · rw [if_pos c8] at h
    refine zw_sub (lv' := [(0, .ref a0), (1, .int i1), (2, .int i2)]) (List.forall_mem_cons.mpr ⟨rfl, (List.forall_mem_cons.mpr ⟨rfl, (List.forall_mem_cons.mpr ⟨rfl, zs_nil⟩)⟩)⟩) ?_
    exact zt_X11_begin_J28 hlt hxt hX hr hR hd ⟨by omega, by omega⟩ h
  · rw [if_neg c8] at h
    refine zw_iload_n hX dX11_begin_11 rfl ?_
    refine zw_iconst (v := (-1 : Int32)) hX dX11_begin_12 (by decide) ?_
    refine zw_icmp_eq (tgt := 24) hX dX11_begin_13 (by decide) (fun c13 => ?_) (fun c13 => ?_)
    · rw [if_pos c13] at h
      refine zw_sub (lv' := [(0, .ref a0), (1, .int i1), (2, .int i2)]) (List.forall_mem_cons.mpr ⟨rfl, (List.forall_mem_cons.mpr ⟨rfl, (List.forall_mem_cons.mpr ⟨rfl, zs_nil⟩)⟩)⟩) ?_
      exact zt_X11_begin_J24 hlt hxt hX hr hR hd ⟨by omega, by omega⟩ h
    · rw [if_neg c13] at h
      refine zw_aload_n hX dX11_begin_16 rfl ?_
      refine zw_iload_n hX dX11_begin_17 rfl ?_
      obtain ⟨_, gi, h⟩ := zb_some h
      obtain ⟨r13, g, h⟩ := zb_some h
      refine zc_Vi (as := [.int i2]) hX gi (zt_X11_isCar (d := d - 1) (by omega) g) zl_X11_521 rfl dX11_begin_18 ⟨rfl, rfl, Nat.le_of_ble_eq_true rfl⟩ ⟨by omega, by omega⟩ ?_
      refine zw_if_eq (tgt := 28) hX dX11_begin_21 (by decide) (fun c21 => ?_) (fun c21 => ?_)
      · rw [if_pos c21] at h
        refine zw_sub (lv' := [(0, .ref a0), (1, .int i1), (2, .int i2)]) (List.forall_mem_cons.mpr ⟨rfl, (List.forall_mem_cons.mpr ⟨rfl, (List.forall_mem_cons.mpr ⟨rfl, zs_nil⟩)⟩)⟩) ?_
        exact zt_X11_begin_J28 hlt hxt hX hr hR hd ⟨by omega, by omega⟩ h
      · rw [if_neg c21] at h
        refine zw_sub (lv' := [(0, .ref a0), (1, .int i1), (2, .int i2)]) (List.forall_mem_cons.mpr ⟨rfl, (List.forall_mem_cons.mpr ⟨rfl, (List.forall_mem_cons.mpr ⟨rfl, zs_nil⟩)⟩)⟩) ?_
        exact zt_X11_begin_J24 hlt hxt hX hr hR hd ⟨by omega, by omega⟩ h
set_option maxHeartbeats 4000000 in
set_option maxRecDepth 100000 in
theorem zt_X11_done {l : Launch} {V : zm_V} (hlt : l.stackTraces = false) {N : Nat} {S : zm_S} {out : ((Unit ⊕ String) × zm_S)} {d : Nat} {a0 : Nat} {i1 : Int32} (hd : 7 ≤ d) (h : zf_X11_done N a0 i1 S = some out) : zm_Met l zk_E V yX11_done (.code yX11_done cX11_done 2 none) d [.ref a0, .int i1] S 2 12 (zq_v out) (zq_x out) := by
  refine zm_of (by decide +kernel) (Nat.le_of_ble_eq_true rfl) ?_
  intro p e R s m args below meth c hRR hX hr hxt
  have hR : R.frames = d ∧ R.locals = 64 * d := by rw [hRR]; exact ⟨rfl, rfl⟩
  have hX : zm_X p R s m args meth c RX11 "done" cX11_done 2 zk_E V 2 12 := hX
  unfold zf_X11_done at h
  refine zw_sub (lv' := [(0, .ref a0), (1, .int i1)]) (List.forall_mem_cons.mpr ⟨rfl, (List.forall_mem_cons.mpr ⟨rfl, zs_nil⟩)⟩) ?_
  refine zw_aload_n hX dX11_done_0 rfl ?_
  obtain ⟨b1, g, h⟩ := zb_some h
  refine zw_getr hX zl_X11_92 dX11_done_1 g ?_
  refine zw_iload_n hX dX11_done_4 rfl ?_
  obtain ⟨_, gi, h⟩ := zb_some h
  obtain ⟨r3, g, h⟩ := zb_some h
  refine zc_Vi (as := [.int i1]) hX gi (zt_X3_isOpenCall (d := d - 1) (by omega) g) zl_X11_541 rfl dX11_done_5 ⟨rfl, rfl, Nat.le_of_ble_eq_true rfl⟩ ⟨by omega, by omega⟩ ?_
  obtain ⟨r, g, h⟩ := zb_some h
  refine zc_S (as := [.int r3.1]) hX (zt_X11_needArgument hlt (d := d - 1) (by omega) g) zl_X11_100 dX11_done_8 ⟨rfl, rfl, Nat.le_of_ble_eq_true rfl⟩ ⟨by omega, by omega⟩ ⟨by omega, by omega⟩ ?_ ?_
  · rintro _ S5 ⟨⟨u4, rfl⟩, rfl⟩
    try dsimp only at h
    refine zw_aload_n hX dX11_done_11 rfl ?_
    obtain ⟨v6, g, h⟩ := zb_some h
    refine zw_geti hX zl_X11_104 dX11_done_12 g ?_
    obtain ⟨r, g, h⟩ := zb_some h
    refine zc_S (as := [.int v6]) hX (zt_X11_needState hlt (d := d - 1) (by omega) g) zl_X11_112 dX11_done_15 ⟨rfl, rfl, Nat.le_of_ble_eq_true rfl⟩ ⟨by omega, by omega⟩ ⟨by omega, by omega⟩ ?_ ?_
    · rintro _ S8 ⟨⟨u7, rfl⟩, rfl⟩
      try dsimp only at h
      refine zw_aload_n hX dX11_done_18 rfl ?_
      obtain ⟨b9, g, h⟩ := zb_some h
      refine zw_getr hX zl_X11_92 dX11_done_19 g ?_
      refine zw_iload_n hX dX11_done_22 rfl ?_
      obtain ⟨_, gi, h⟩ := zb_some h
      obtain ⟨r11, g, h⟩ := zb_some h
      refine zc_Vv (as := [.int i1]) hX gi (zt_X3_closeCall (d := d - 1) (by omega) g) zl_X11_547 rfl dX11_done_23 ⟨rfl, rfl, Nat.le_of_ble_eq_true rfl⟩ ⟨by omega, by omega⟩ ?_
      obtain rfl := Option.some.inj h
      exact zw_vret hX hr dX11_done_26 ⟨⟨_, rfl⟩, rfl⟩
    · rintro X S9 rfl
      obtain rfl := Option.some.inj h
      exact zx_out hX hxt rfl
  · rintro X S9 rfl
    obtain rfl := Option.some.inj h
    exact zx_out hX hxt rfl
set_option maxHeartbeats 4000000 in
set_option maxRecDepth 100000 in
theorem zt_X11_isHome {l : Launch} {V : zm_V} {N : Nat} {S : zm_S} {out : (Int32 × zm_S)} {d : Nat} {a0 : Nat} (hd : 2 ≤ d) (h : zf_X11_isHome N a0 S = some out) : zm_Met l zk_E V yX11_isHome (.code yX11_isHome cX11_isHome 1 (some .boolean)) d [.ref a0] S 0 0 (zo_i out) zo_x := by
  refine zm_of (by decide +kernel) (Nat.le_of_ble_eq_true rfl) ?_
  intro p e R s m args below meth c hRR hX hr hxt
  have hR : R.frames = d ∧ R.locals = 64 * d := by rw [hRR]; exact ⟨rfl, rfl⟩
  have hX : zm_X p R s m args meth c RX11 "isHome" cX11_isHome 1 zk_E V 0 0 := hX
  unfold zf_X11_isHome at h
  refine zw_sub (lv' := [(0, .ref a0)]) (List.forall_mem_cons.mpr ⟨rfl, zs_nil⟩) ?_
  refine zw_aload_n hX dX11_isHome_0 rfl ?_
  obtain ⟨b1, g, h⟩ := zb_some h
  refine zw_getr hX zl_X11_85 dX11_isHome_1 g ?_
  refine zw_iconst (v := (1 : Int32)) hX dX11_isHome_4 (by decide) ?_
  obtain ⟨_, gi, h⟩ := zb_some h
  obtain ⟨r3, g, h⟩ := zb_some h
  refine zc_Vi (as := [.int (1 : Int32)]) hX gi (zt_X4_isKindDone (d := d - 1) (by omega) g) zl_X11_617 rfl dX11_isHome_5 ⟨rfl, rfl, Nat.le_of_ble_eq_true rfl⟩ ⟨by omega, by omega⟩ ?_
  by_cases cz : r3.1 = 0 ∨ r3.1 = 1
  · rw [if_pos cz] at h
    obtain rfl := Option.some.inj h
    exact zw_iret hX hr dX11_isHome_8 (zn_z cz) ⟨rfl, rfl⟩
  · rw [if_neg cz] at h
    cases h
set_option maxHeartbeats 4000000 in
set_option maxRecDepth 100000 in
theorem zt_X11_give {l : Launch} {V : zm_V} (hlt : l.stackTraces = false) {N : Nat} {S : zm_S} {out : ((Int64 ⊕ String) × zm_S)} {d : Nat} {a0 : Nat} (hd : 19 ≤ d) (h : zf_X11_give N a0 S = some out) : zm_Met l zk_E V yX11_give (.code yX11_give cX11_give 1 (some .long)) d [.ref a0] S 1 6 (zq_l out) (zq_x out) := by
  refine zm_of (by decide +kernel) (Nat.le_of_ble_eq_true rfl) ?_
  intro p e R s m args below meth c hRR hX hr hxt
  have hR : R.frames = d ∧ R.locals = 64 * d := by rw [hRR]; exact ⟨rfl, rfl⟩
  have hX : zm_X p R s m args meth c RX11 "give" cX11_give 1 zk_E V 1 6 := hX
  unfold zf_X11_give at h
  refine zw_sub (lv' := [(0, .ref a0)]) (List.forall_mem_cons.mpr ⟨rfl, zs_nil⟩) ?_
  refine zw_aload_n hX dX11_give_0 rfl ?_
  obtain ⟨v1, g, h⟩ := zb_some h
  refine zw_geti hX zl_X11_104 dX11_give_1 g ?_
  obtain ⟨r, g, h⟩ := zb_some h
  refine zc_S (as := [.int v1]) hX (zt_X11_needState hlt (d := d - 1) (by omega) g) zl_X11_112 dX11_give_4 ⟨rfl, rfl, Nat.le_of_ble_eq_true rfl⟩ ⟨by omega, by omega⟩ ⟨by omega, by omega⟩ ?_ ?_
  · rintro _ S3 ⟨⟨u2, rfl⟩, rfl⟩
    try dsimp only at h
    refine zw_aload_n hX dX11_give_7 rfl ?_
    obtain ⟨b4, g, h⟩ := zb_some h
    refine zw_getr hX zl_X11_92 dX11_give_8 g ?_
    refine zw_aload_n hX dX11_give_11 rfl ?_
    obtain ⟨v5, g, h⟩ := zb_some h
    refine zw_geti hX zl_X11_312 dX11_give_12 g ?_
    refine zw_aload_n hX dX11_give_15 rfl ?_
    obtain ⟨_, gi, h⟩ := zb_some h
    obtain ⟨r7, g, h⟩ := zb_some h
    refine zc_Vi (as := []) hX gi (zt_X11_isHome (d := d - 1) (by omega) g) zl_X11_550 rfl dX11_give_16 ⟨rfl, rfl, Nat.le_of_ble_eq_true rfl⟩ ⟨by omega, by omega⟩ ?_
    obtain ⟨_, gi, h⟩ := zb_some h
    obtain ⟨r9, g, h⟩ := zb_some h
    refine zc_Vl (as := [.int v5, .int r7.1]) hX gi (zt_X3_makeGiving (d := d - 1) (by omega) g) zl_X11_553 rfl dX11_give_19 ⟨rfl, rfl, Nat.le_of_ble_eq_true rfl⟩ ⟨by omega, by omega⟩ ?_
    obtain rfl := Option.some.inj h
    exact zw_lret hX hr dX11_give_22 ⟨_, rfl, rfl⟩
  · rintro X S9 rfl
    obtain rfl := Option.some.inj h
    exact zx_out hX hxt rfl
set_option maxHeartbeats 4000000 in
set_option maxRecDepth 100000 in
theorem zt_X11_given_J31 {p : Program} {l : Launch} {e : Env} {R : Room} {s : State} {m : MethodId} {args : Array Value} {below : List Frame} {meth : Method} {c : Code} {V : zm_V} {mc ms d rc rs : Nat} (hlt : l.stackTraces = false) (hxt : ∀ x ∈ c.exceptionTable.toList, False) (hX : zm_X p R s m args meth c RX11 "given" cX11_given 3 zk_E V mc ms) (hr : meth.sig.returnType = (some .int)) (hR : R.frames = d ∧ R.locals = 64 * d) (hd : 7 ≤ d) {N : Nat} {a0 : Nat} {i1 : Int32} {i2 : Int32} {t0 : Int32} {out : ((Int32 ⊕ String) × zm_S)} (hc : 2 ≤ rc ∧ 12 ≤ rs) {S : zm_S} (h : zf_X11_given_J31 N a0 i1 i2 t0 S = some out) : zw p l e R s m args below meth c (vx_MQ below (zm_Qc zk_E V (zq_i out)) (zm_XC zk_E V (zq_x out)) args s mc ms (fun q => V.2.2.2.1 ≤ q)) 3 zk_E V mc ms 31 [(0, .ref a0), (1, .int i1), (2, .int i2)] [.int t0] S rc rs := by
  unfold zf_X11_given_J31 at h
  obtain ⟨r, g, h⟩ := zb_some h
  refine zc_S (as := [.int t0]) hX (zt_X11_needArgument hlt (d := d - 1) (by omega) g) zl_X11_100 dX11_given_31 ⟨rfl, rfl, Nat.le_of_ble_eq_true rfl⟩ ⟨by omega, by omega⟩ ⟨by omega, by omega⟩ ?_ ?_
  · rintro _ S6 ⟨⟨u5, rfl⟩, rfl⟩
    try dsimp only at h
    refine zw_aload_n hX dX11_given_34 rfl ?_
    obtain ⟨v7, g, h⟩ := zb_some h
    refine zw_geti hX zl_X11_104 dX11_given_35 g ?_
    obtain ⟨r, g, h⟩ := zb_some h
    refine zc_S (as := [.int v7]) hX (zt_X11_needState hlt (d := d - 1) (by omega) g) zl_X11_112 dX11_given_38 ⟨rfl, rfl, Nat.le_of_ble_eq_true rfl⟩ ⟨by omega, by omega⟩ ⟨by omega, by omega⟩ ?_ ?_
    · rintro _ S9 ⟨⟨u8, rfl⟩, rfl⟩
      try dsimp only at h
      refine zw_aload_n hX dX11_given_41 rfl ?_
      obtain ⟨b10, g, h⟩ := zb_some h
      refine zw_getr hX zl_X11_92 dX11_given_42 g ?_
      obtain ⟨b11, g, h⟩ := zb_some h
      refine zw_getNr hX zl_X11_557 dX11_given_45 g ?_
      refine zw_iload_n hX dX11_given_48 rfl ?_
      obtain ⟨b12, g, h⟩ := zb_some h
      refine zw_xr hX dX11_given_49 g ?_
      refine zw_iload_n hX dX11_given_50 rfl ?_
      obtain ⟨v13, g, h⟩ := zb_some h
      refine zw_xi hX dX11_given_51 g ?_
      obtain rfl := Option.some.inj h
      exact zw_iret hX hr dX11_given_52 rfl ⟨_, rfl, rfl⟩
    · rintro X S9 rfl
      obtain rfl := Option.some.inj h
      exact zx_out hX hxt rfl
  · rintro X S9 rfl
    obtain rfl := Option.some.inj h
    exact zx_out hX hxt rfl
set_option maxHeartbeats 4000000 in
set_option maxRecDepth 100000 in
theorem zt_X11_given_J30 {p : Program} {l : Launch} {e : Env} {R : Room} {s : State} {m : MethodId} {args : Array Value} {below : List Frame} {meth : Method} {c : Code} {V : zm_V} {mc ms d rc rs : Nat} (hlt : l.stackTraces = false) (hxt : ∀ x ∈ c.exceptionTable.toList, False) (hX : zm_X p R s m args meth c RX11 "given" cX11_given 3 zk_E V mc ms) (hr : meth.sig.returnType = (some .int)) (hR : R.frames = d ∧ R.locals = 64 * d) (hd : 7 ≤ d) {N : Nat} {a0 : Nat} {i1 : Int32} {i2 : Int32} {out : ((Int32 ⊕ String) × zm_S)} (hc : 2 ≤ rc ∧ 12 ≤ rs) {S : zm_S} (h : zf_X11_given_J30 N a0 i1 i2 S = some out) : zw p l e R s m args below meth c (vx_MQ below (zm_Qc zk_E V (zq_i out)) (zm_XC zk_E V (zq_x out)) args s mc ms (fun q => V.2.2.2.1 ≤ q)) 3 zk_E V mc ms 30 [(0, .ref a0), (1, .int i1), (2, .int i2)] [] S rc rs := by
  unfold zf_X11_given_J30 at h
  refine zw_iconst (v := (0 : Int32)) hX dX11_given_30 (by decide) ?_
  refine zw_sub (lv' := [(0, .ref a0), (1, .int i1), (2, .int i2)]) (List.forall_mem_cons.mpr ⟨rfl, (List.forall_mem_cons.mpr ⟨rfl, (List.forall_mem_cons.mpr ⟨rfl, zs_nil⟩)⟩)⟩) ?_
  exact zt_X11_given_J31 hlt hxt hX hr hR hd ⟨by omega, by omega⟩ h
set_option maxHeartbeats 4000000 in
set_option maxRecDepth 100000 in
theorem zt_X11_given {l : Launch} {V : zm_V} (hlt : l.stackTraces = false) {N : Nat} {S : zm_S} {out : ((Int32 ⊕ String) × zm_S)} {d : Nat} {a0 : Nat} {i1 : Int32} {i2 : Int32} (hd : 7 ≤ d) (h : zf_X11_given N a0 i1 i2 S = some out) : zm_Met l zk_E V yX11_given (.code yX11_given cX11_given 3 (some .int)) d [.ref a0, .int i1, .int i2] S 2 12 (zq_i out) (zq_x out) := by
  refine zm_of (by decide +kernel) (Nat.le_of_ble_eq_true rfl) ?_
  intro p e R s m args below meth c hRR hX hr hxt
  have hR : R.frames = d ∧ R.locals = 64 * d := by rw [hRR]; exact ⟨rfl, rfl⟩
  have hX : zm_X p R s m args meth c RX11 "given" cX11_given 3 zk_E V 2 12 := hX
  unfold zf_X11_given at h
  refine zw_sub (lv' := [(0, .ref a0), (1, .int i1), (2, .int i2)]) (List.forall_mem_cons.mpr ⟨rfl, (List.forall_mem_cons.mpr ⟨rfl, (List.forall_mem_cons.mpr ⟨rfl, zs_nil⟩)⟩)⟩) ?_
  refine zw_iload_n hX dX11_given_0 rfl ?_
  refine zw_iconst (v := (0 : Int32)) hX dX11_given_1 (by decide) ?_
  refine zw_aload_n hX dX11_given_2 rfl ?_
  obtain ⟨b1, g, h⟩ := zb_some h
  refine zw_getr hX zl_X11_92 dX11_given_3 g ?_
  obtain ⟨v2, g, h⟩ := zb_some h
  refine zw_getNi hX zl_X11_535 dX11_given_6 g ?_
  refine zw_iconst (v := (1 : Int32)) hX dX11_given_9 (by decide) ?_
  refine zw_isub hX dX11_given_10 ?_
  obtain ⟨r4, g, h⟩ := zb_some h
  refine zc_Si (as := [.int i1, .int (0 : Int32), .int (v2 - (1 : Int32))]) hX (zt_X11_isWithin (d := d - 1) (by omega) g) zl_X11_133 dX11_given_11 ⟨rfl, rfl, Nat.le_of_ble_eq_true rfl⟩ ⟨by omega, by omega⟩ ?_
  refine zw_if_eq (tgt := 30) hX dX11_given_14 (by decide) (fun c14 => ?_) (fun c14 => ?_)
  · rw [if_pos c14] at h
    refine zw_sub (lv' := [(0, .ref a0), (1, .int i1), (2, .int i2)]) (List.forall_mem_cons.mpr ⟨rfl, (List.forall_mem_cons.mpr ⟨rfl, (List.forall_mem_cons.mpr ⟨rfl, zs_nil⟩)⟩)⟩) ?_
    exact zt_X11_given_J30 hlt hxt hX hr hR hd ⟨by omega, by omega⟩ h
  · rw [if_neg c14] at h
    refine zw_iload_n hX dX11_given_17 rfl ?_
    refine zw_iconst (v := (0 : Int32)) hX dX11_given_18 (by decide) ?_
    refine zw_iconst (v := (3 : Int32)) hX dX11_given_19 (by decide) ?_
    obtain ⟨r15, g, h⟩ := zb_some h
    refine zc_Si (as := [.int i2, .int (0 : Int32), .int (3 : Int32)]) hX (zt_X11_isWithin (d := d - 1) (by omega) g) zl_X11_133 dX11_given_20 ⟨rfl, rfl, Nat.le_of_ble_eq_true rfl⟩ ⟨by omega, by omega⟩ ?_
    refine zw_if_eq (tgt := 30) hX dX11_given_23 (by decide) (fun c23 => ?_) (fun c23 => ?_)
    · rw [if_pos c23] at h
      refine zw_sub (lv' := [(0, .ref a0), (1, .int i1), (2, .int i2)]) (List.forall_mem_cons.mpr ⟨rfl, (List.forall_mem_cons.mpr ⟨rfl, (List.forall_mem_cons.mpr ⟨rfl, zs_nil⟩)⟩)⟩) ?_
      exact zt_X11_given_J30 hlt hxt hX hr hR hd ⟨by omega, by omega⟩ h
    · rw [if_neg c23] at h
      refine zw_iconst (v := (1 : Int32)) hX dX11_given_26 (by decide) ?_
      refine zw_goto (tgt := 31) hX dX11_given_27 (by decide) ?_
      refine zw_sub (lv' := [(0, .ref a0), (1, .int i1), (2, .int i2)]) (List.forall_mem_cons.mpr ⟨rfl, (List.forall_mem_cons.mpr ⟨rfl, (List.forall_mem_cons.mpr ⟨rfl, zs_nil⟩)⟩)⟩) ?_
      exact zt_X11_given_J31 hlt hxt hX hr hR hd ⟨by omega, by omega⟩ h
set_option maxHeartbeats 4000000 in
set_option maxRecDepth 100000 in
theorem zt_X11_fire {l : Launch} {V : zm_V} (hlt : l.stackTraces = false) {N : Nat} {S : zm_S} {out : ((Int32 ⊕ String) × zm_S)} {d : Nat} {a0 : Nat} {i1 : Int32} {i2 : Int32} (hd : 7 ≤ d) (h : zf_X11_fire N a0 i1 i2 S = some out) : zm_Met l zk_E V yX11_fire (.code yX11_fire cX11_fire 3 (some .boolean)) d [.ref a0, .int i1, .int i2] S 2 12 (zq_i out) (zq_x out) := by
  refine zm_of (by decide +kernel) (Nat.le_of_ble_eq_true rfl) ?_
  intro p e R s m args below meth c hRR hX hr hxt
  have hR : R.frames = d ∧ R.locals = 64 * d := by rw [hRR]; exact ⟨rfl, rfl⟩
  have hX : zm_X p R s m args meth c RX11 "fire" cX11_fire 3 zk_E V 2 12 := hX
  unfold zf_X11_fire at h
  refine zw_sub (lv' := [(0, .ref a0), (1, .int i1), (2, .int i2)]) (List.forall_mem_cons.mpr ⟨rfl, (List.forall_mem_cons.mpr ⟨rfl, (List.forall_mem_cons.mpr ⟨rfl, zs_nil⟩)⟩)⟩) ?_
  refine zw_iload_n hX dX11_fire_0 rfl ?_
  refine zw_iload_n hX dX11_fire_1 rfl ?_
  obtain ⟨r2, g, h⟩ := zb_some h
  refine zc_Si (as := [.int i1, .int i2]) hX (zt_X11_isCell (d := d - 1) (by omega) g) zl_X11_179 dX11_fire_2 ⟨rfl, rfl, Nat.le_of_ble_eq_true rfl⟩ ⟨by omega, by omega⟩ ?_
  obtain ⟨r, g, h⟩ := zb_some h
  refine zc_S (as := [.int r2.1]) hX (zt_X11_needArgument hlt (d := d - 1) (by omega) g) zl_X11_100 dX11_fire_5 ⟨rfl, rfl, Nat.le_of_ble_eq_true rfl⟩ ⟨by omega, by omega⟩ ⟨by omega, by omega⟩ ?_ ?_
  · rintro _ S4 ⟨⟨u3, rfl⟩, rfl⟩
    try dsimp only at h
    refine zw_aload_n hX dX11_fire_8 rfl ?_
    obtain ⟨v5, g, h⟩ := zb_some h
    refine zw_geti hX zl_X11_104 dX11_fire_9 g ?_
    obtain ⟨r, g, h⟩ := zb_some h
    refine zc_S (as := [.int v5]) hX (zt_X11_needState hlt (d := d - 1) (by omega) g) zl_X11_112 dX11_fire_12 ⟨rfl, rfl, Nat.le_of_ble_eq_true rfl⟩ ⟨by omega, by omega⟩ ⟨by omega, by omega⟩ ?_ ?_
    · rintro _ S7 ⟨⟨u6, rfl⟩, rfl⟩
      try dsimp only at h
      refine zw_aload_n hX dX11_fire_15 rfl ?_
      obtain ⟨b8, g, h⟩ := zb_some h
      refine zw_getr hX zl_X11_44 dX11_fire_16 g ?_
      refine zw_iload_n hX dX11_fire_19 rfl ?_
      refine zw_iload_n hX dX11_fire_20 rfl ?_
      obtain ⟨r10, g, h⟩ := zb_some h
      refine zc_Si (as := [.int i1, .int i2]) hX (zt_X2_cellNumber (d := d - 1) (by omega) g) zl_X11_560 dX11_fire_21 ⟨rfl, rfl, Nat.le_of_ble_eq_true rfl⟩ ⟨by omega, by omega⟩ ?_
      obtain ⟨_, gi, h⟩ := zb_some h
      obtain ⟨r12, g, h⟩ := zb_some h
      refine zc_Vi (as := [.int r10.1]) hX gi (zt_X10_addSmoke (d := d - 1) (by omega) g) zl_X11_563 rfl dX11_fire_24 ⟨rfl, rfl, Nat.le_of_ble_eq_true rfl⟩ ⟨by omega, by omega⟩ ?_
      by_cases cz : r12.1 = 0 ∨ r12.1 = 1
      · rw [if_pos cz] at h
        obtain rfl := Option.some.inj h
        exact zw_iret hX hr dX11_fire_27 (zn_z cz) ⟨_, rfl, rfl⟩
      · rw [if_neg cz] at h
        cases h
    · rintro X S9 rfl
      obtain rfl := Option.some.inj h
      exact zx_out hX hxt rfl
  · rintro X S9 rfl
    obtain rfl := Option.some.inj h
    exact zx_out hX hxt rfl
set_option maxHeartbeats 4000000 in
set_option maxRecDepth 100000 in
theorem zt_X11_cell_J22 {p : Program} {l : Launch} {e : Env} {R : Room} {s : State} {m : MethodId} {args : Array Value} {below : List Frame} {meth : Method} {c : Code} {V : zm_V} {mc ms d rc rs : Nat} (hlt : l.stackTraces = false) (hxt : ∀ x ∈ c.exceptionTable.toList, False) (hX : zm_X p R s m args meth c RX11 "cell" cX11_cell 4 zk_E V mc ms) (hr : meth.sig.returnType = (some .int)) (hR : R.frames = d ∧ R.locals = 64 * d) (hd : 7 ≤ d) {N : Nat} {a0 : Nat} {i1 : Int32} {i2 : Int32} {i3 : Int32} {t0 : Int32} {out : ((Int32 ⊕ String) × zm_S)} (hc : 2 ≤ rc ∧ 12 ≤ rs) {S : zm_S} (h : zf_X11_cell_J22 N a0 i1 i2 i3 t0 S = some out) : zw p l e R s m args below meth c (vx_MQ below (zm_Qc zk_E V (zq_i out)) (zm_XC zk_E V (zq_x out)) args s mc ms (fun q => V.2.2.2.1 ≤ q)) 4 zk_E V mc ms 22 [(0, .ref a0), (1, .int i1), (2, .int i2), (3, .int i3)] [.int t0] S rc rs := by
  unfold zf_X11_cell_J22 at h
  obtain ⟨r, g, h⟩ := zb_some h
  refine zc_S (as := [.int t0]) hX (zt_X11_needArgument hlt (d := d - 1) (by omega) g) zl_X11_100 dX11_cell_22 ⟨rfl, rfl, Nat.le_of_ble_eq_true rfl⟩ ⟨by omega, by omega⟩ ⟨by omega, by omega⟩ ?_ ?_
  · rintro _ S4 ⟨⟨u3, rfl⟩, rfl⟩
    try dsimp only at h
    refine zw_aload_n hX dX11_cell_25 rfl ?_
    obtain ⟨v5, g, h⟩ := zb_some h
    refine zw_geti hX zl_X11_104 dX11_cell_26 g ?_
    obtain ⟨r, g, h⟩ := zb_some h
    refine zc_S (as := [.int v5]) hX (zt_X11_needState hlt (d := d - 1) (by omega) g) zl_X11_112 dX11_cell_29 ⟨rfl, rfl, Nat.le_of_ble_eq_true rfl⟩ ⟨by omega, by omega⟩ ⟨by omega, by omega⟩ ?_ ?_
    · rintro _ S7 ⟨⟨u6, rfl⟩, rfl⟩
      try dsimp only at h
      refine zw_aload_n hX dX11_cell_32 rfl ?_
      obtain ⟨b8, g, h⟩ := zb_some h
      refine zw_getr hX zl_X11_44 dX11_cell_33 g ?_
      refine zw_iload_n hX dX11_cell_36 rfl ?_
      refine zw_iload_n hX dX11_cell_37 rfl ?_
      obtain ⟨r10, g, h⟩ := zb_some h
      refine zc_Si (as := [.int i1, .int i2]) hX (zt_X2_cellNumber (d := d - 1) (by omega) g) zl_X11_560 dX11_cell_38 ⟨rfl, rfl, Nat.le_of_ble_eq_true rfl⟩ ⟨by omega, by omega⟩ ?_
      refine zw_iload_n hX dX11_cell_41 rfl ?_
      obtain ⟨_, gi, h⟩ := zb_some h
      obtain ⟨r12, g, h⟩ := zb_some h
      refine zc_Vi (as := [.int r10.1, .int i3]) hX gi (zt_X10_cellFact (d := d - 1) (by omega) g) zl_X11_566 rfl dX11_cell_42 ⟨rfl, rfl, Nat.le_of_ble_eq_true rfl⟩ ⟨by omega, by omega⟩ ?_
      obtain rfl := Option.some.inj h
      exact zw_iret hX hr dX11_cell_45 rfl ⟨_, rfl, rfl⟩
    · rintro X S9 rfl
      obtain rfl := Option.some.inj h
      exact zx_out hX hxt rfl
  · rintro X S9 rfl
    obtain rfl := Option.some.inj h
    exact zx_out hX hxt rfl
set_option maxHeartbeats 4000000 in
set_option maxRecDepth 100000 in
theorem zt_X11_cell_J21 {p : Program} {l : Launch} {e : Env} {R : Room} {s : State} {m : MethodId} {args : Array Value} {below : List Frame} {meth : Method} {c : Code} {V : zm_V} {mc ms d rc rs : Nat} (hlt : l.stackTraces = false) (hxt : ∀ x ∈ c.exceptionTable.toList, False) (hX : zm_X p R s m args meth c RX11 "cell" cX11_cell 4 zk_E V mc ms) (hr : meth.sig.returnType = (some .int)) (hR : R.frames = d ∧ R.locals = 64 * d) (hd : 7 ≤ d) {N : Nat} {a0 : Nat} {i1 : Int32} {i2 : Int32} {i3 : Int32} {out : ((Int32 ⊕ String) × zm_S)} (hc : 2 ≤ rc ∧ 12 ≤ rs) {S : zm_S} (h : zf_X11_cell_J21 N a0 i1 i2 i3 S = some out) : zw p l e R s m args below meth c (vx_MQ below (zm_Qc zk_E V (zq_i out)) (zm_XC zk_E V (zq_x out)) args s mc ms (fun q => V.2.2.2.1 ≤ q)) 4 zk_E V mc ms 21 [(0, .ref a0), (1, .int i1), (2, .int i2), (3, .int i3)] [] S rc rs := by
  unfold zf_X11_cell_J21 at h
  refine zw_iconst (v := (0 : Int32)) hX dX11_cell_21 (by decide) ?_
  refine zw_sub (lv' := [(0, .ref a0), (1, .int i1), (2, .int i2), (3, .int i3)]) (List.forall_mem_cons.mpr ⟨rfl, (List.forall_mem_cons.mpr ⟨rfl, (List.forall_mem_cons.mpr ⟨rfl, (List.forall_mem_cons.mpr ⟨rfl, zs_nil⟩)⟩)⟩)⟩) ?_
  exact zt_X11_cell_J22 hlt hxt hX hr hR hd ⟨by omega, by omega⟩ h
set_option maxHeartbeats 4000000 in
set_option maxRecDepth 100000 in
theorem zt_X11_cell {l : Launch} {V : zm_V} (hlt : l.stackTraces = false) {N : Nat} {S : zm_S} {out : ((Int32 ⊕ String) × zm_S)} {d : Nat} {a0 : Nat} {i1 : Int32} {i2 : Int32} {i3 : Int32} (hd : 7 ≤ d) (h : zf_X11_cell N a0 i1 i2 i3 S = some out) : zm_Met l zk_E V yX11_cell (.code yX11_cell cX11_cell 4 (some .int)) d [.ref a0, .int i1, .int i2, .int i3] S 2 12 (zq_i out) (zq_x out) := by
  refine zm_of (by decide +kernel) (Nat.le_of_ble_eq_true rfl) ?_
  intro p e R s m args below meth c hRR hX hr hxt
  have hR : R.frames = d ∧ R.locals = 64 * d := by rw [hRR]; exact ⟨rfl, rfl⟩
  have hX : zm_X p R s m args meth c RX11 "cell" cX11_cell 4 zk_E V 2 12 := hX
  unfold zf_X11_cell at h
  refine zw_sub (lv' := [(0, .ref a0), (1, .int i1), (2, .int i2), (3, .int i3)]) (List.forall_mem_cons.mpr ⟨rfl, (List.forall_mem_cons.mpr ⟨rfl, (List.forall_mem_cons.mpr ⟨rfl, (List.forall_mem_cons.mpr ⟨rfl, zs_nil⟩)⟩)⟩)⟩) ?_
  refine zw_iload_n hX dX11_cell_0 rfl ?_
  refine zw_iload_n hX dX11_cell_1 rfl ?_
  obtain ⟨r2, g, h⟩ := zb_some h
  refine zc_Si (as := [.int i1, .int i2]) hX (zt_X11_isCell (d := d - 1) (by omega) g) zl_X11_179 dX11_cell_2 ⟨rfl, rfl, Nat.le_of_ble_eq_true rfl⟩ ⟨by omega, by omega⟩ ?_
  refine zw_if_eq (tgt := 21) hX dX11_cell_5 (by decide) (fun c5 => ?_) (fun c5 => ?_)
  · rw [if_pos c5] at h
    refine zw_sub (lv' := [(0, .ref a0), (1, .int i1), (2, .int i2), (3, .int i3)]) (List.forall_mem_cons.mpr ⟨rfl, (List.forall_mem_cons.mpr ⟨rfl, (List.forall_mem_cons.mpr ⟨rfl, (List.forall_mem_cons.mpr ⟨rfl, zs_nil⟩)⟩)⟩)⟩) ?_
    exact zt_X11_cell_J21 hlt hxt hX hr hR hd ⟨by omega, by omega⟩ h
  · rw [if_neg c5] at h
    refine zw_iload_n hX dX11_cell_8 rfl ?_
    refine zw_iconst (v := (0 : Int32)) hX dX11_cell_9 (by decide) ?_
    refine zw_iconst (v := (2 : Int32)) hX dX11_cell_10 (by decide) ?_
    obtain ⟨r14, g, h⟩ := zb_some h
    refine zc_Si (as := [.int i3, .int (0 : Int32), .int (2 : Int32)]) hX (zt_X11_isWithin (d := d - 1) (by omega) g) zl_X11_133 dX11_cell_11 ⟨rfl, rfl, Nat.le_of_ble_eq_true rfl⟩ ⟨by omega, by omega⟩ ?_
    refine zw_if_eq (tgt := 21) hX dX11_cell_14 (by decide) (fun c14 => ?_) (fun c14 => ?_)
    · rw [if_pos c14] at h
      refine zw_sub (lv' := [(0, .ref a0), (1, .int i1), (2, .int i2), (3, .int i3)]) (List.forall_mem_cons.mpr ⟨rfl, (List.forall_mem_cons.mpr ⟨rfl, (List.forall_mem_cons.mpr ⟨rfl, (List.forall_mem_cons.mpr ⟨rfl, zs_nil⟩)⟩)⟩)⟩) ?_
      exact zt_X11_cell_J21 hlt hxt hX hr hR hd ⟨by omega, by omega⟩ h
    · rw [if_neg c14] at h
      refine zw_iconst (v := (1 : Int32)) hX dX11_cell_17 (by decide) ?_
      refine zw_goto (tgt := 22) hX dX11_cell_18 (by decide) ?_
      refine zw_sub (lv' := [(0, .ref a0), (1, .int i1), (2, .int i2), (3, .int i3)]) (List.forall_mem_cons.mpr ⟨rfl, (List.forall_mem_cons.mpr ⟨rfl, (List.forall_mem_cons.mpr ⟨rfl, (List.forall_mem_cons.mpr ⟨rfl, zs_nil⟩)⟩)⟩)⟩) ?_
      exact zt_X11_cell_J22 hlt hxt hX hr hR hd ⟨by omega, by omega⟩ h
set_option maxHeartbeats 4000000 in
set_option maxRecDepth 100000 in
theorem zt_X11_doPersonsLeave {l : Launch} {V : zm_V} {N : Nat} {S : zm_S} {out : (Int32 × zm_S)} {d : Nat} {a0 : Nat} (hd : 2 ≤ d) (h : zf_X11_doPersonsLeave N a0 S = some out) : zm_Met l zk_E V yX11_doPersonsLeave (.code yX11_doPersonsLeave cX11_doPersonsLeave 1 (some .boolean)) d [.ref a0] S 0 0 (zo_i out) zo_x := by
  refine zm_of (by decide +kernel) (Nat.le_of_ble_eq_true rfl) ?_
  intro p e R s m args below meth c hRR hX hr hxt
  have hR : R.frames = d ∧ R.locals = 64 * d := by rw [hRR]; exact ⟨rfl, rfl⟩
  have hX : zm_X p R s m args meth c RX11 "doPersonsLeave" cX11_doPersonsLeave 1 zk_E V 0 0 := hX
  unfold zf_X11_doPersonsLeave at h
  refine zw_sub (lv' := [(0, .ref a0)]) (List.forall_mem_cons.mpr ⟨rfl, zs_nil⟩) ?_
  refine zw_aload_n hX dX11_doPersonsLeave_0 rfl ?_
  obtain ⟨b1, g, h⟩ := zb_some h
  refine zw_getr hX zl_X11_85 dX11_doPersonsLeave_1 g ?_
  refine zw_iconst (v := (4 : Int32)) hX dX11_doPersonsLeave_4 (by decide) ?_
  obtain ⟨_, gi, h⟩ := zb_some h
  obtain ⟨r3, g, h⟩ := zb_some h
  refine zc_Vi (as := [.int (4 : Int32)]) hX gi (zt_X4_isKindDone (d := d - 1) (by omega) g) zl_X11_617 rfl dX11_doPersonsLeave_5 ⟨rfl, rfl, Nat.le_of_ble_eq_true rfl⟩ ⟨by omega, by omega⟩ ?_
  by_cases cz : r3.1 = 0 ∨ r3.1 = 1
  · rw [if_pos cz] at h
    obtain rfl := Option.some.inj h
    exact zw_iret hX hr dX11_doPersonsLeave_8 (zn_z cz) ⟨rfl, rfl⟩
  · rw [if_neg cz] at h
    cases h
set_option maxHeartbeats 4000000 in
set_option maxRecDepth 100000 in
theorem zt_X11_passSecond_L23 {p : Program} {l : Launch} {e : Env} {R : Room} {s : State} {m : MethodId} {args : Array Value} {below : List Frame} {meth : Method} {c : Code} {V : zm_V} {mc ms d rc rs : Nat} (hX : zm_X p R s m args meth c RX11 "passSecond" cX11_passSecond 2 zk_E V mc ms) (hr : meth.sig.returnType = none) (hR : R.frames = d ∧ R.locals = 64 * d) (hd : 7 ≤ d) {N : Nat} {res : (Unit × zm_S) ⊕ ((Unit) × zm_S)} {out : (Unit × zm_S)} (a0 : Nat) (hf : ∀ o, res = .inl o → o = out) (hk : ∀ (S' : zm_S), res = .inr ((), S') → zw p l e R s m args below meth c (vx_MQ below (zm_Qc zk_E V (zo_v out)) (zm_XC zk_E V zo_x) args s mc ms (fun q => V.2.2.2.1 ≤ q)) 2 zk_E V mc ms 72 [(0, .ref a0)] [] S' rc rs) : ∀ (n : Nat) (i1 : Int32) (S : zm_S), zf_X11_passSecond_L23 N n a0 i1 S = some res → zw p l e R s m args below meth c (vx_MQ below (zm_Qc zk_E V (zo_v out)) (zm_XC zk_E V zo_x) args s mc ms (fun q => V.2.2.2.1 ≤ q)) 2 zk_E V mc ms 23 [(0, .ref a0), (1, .int i1)] [] S rc rs := by
  intro n
  induction n with
  | zero => intro i1 S h; cases h
  | succ n ih =>
    intro i1 S h
    rw [zf_X11_passSecond_L23] at h
    refine zw_iload_n hX dX11_passSecond_23 rfl ?_
    refine zw_aload_n hX dX11_passSecond_24 rfl ?_
    obtain ⟨b7, g, h⟩ := zb_some h
    refine zw_getr hX zl_X11_21 dX11_passSecond_25 g ?_
    obtain ⟨v8, g, h⟩ := zb_some h
    refine zw_getNi hX zl_X11_154 dX11_passSecond_28 g ?_
    refine zw_icmp_ge (tgt := 72) hX dX11_passSecond_31 (by decide) (fun c31 => ?_) (fun c31 => ?_)
    · rw [if_pos c31] at h
      refine zw_sub (lv' := [(0, .ref a0)]) (List.forall_mem_cons.mpr ⟨rfl, zs_nil⟩) ?_
      exact hk  _ (Option.some.inj h).symm
    · rw [if_neg c31] at h
      refine zw_iload_n hX dX11_passSecond_34 rfl ?_
      refine zw_bipush (v := (40 : Int32)) hX dX11_passSecond_35 (by decide) ?_
      refine zw_icmp_ge (tgt := 72) hX dX11_passSecond_37 (by decide) (fun c37 => ?_) (fun c37 => ?_)
      · rw [if_pos c37] at h
        refine zw_sub (lv' := [(0, .ref a0)]) (List.forall_mem_cons.mpr ⟨rfl, zs_nil⟩) ?_
        exact hk  _ (Option.some.inj h).symm
      · rw [if_neg c37] at h
        refine zw_aload_n hX dX11_passSecond_40 rfl ?_
        obtain ⟨b9, g, h⟩ := zb_some h
        refine zw_getr hX zl_X11_85 dX11_passSecond_41 g ?_
        obtain ⟨b10, g, h⟩ := zb_some h
        refine zw_getNr hX zl_X11_383 dX11_passSecond_44 g ?_
        refine zw_iload_n hX dX11_passSecond_47 rfl ?_
        refine zw_bipush (v := (10 : Int32)) hX dX11_passSecond_48 (by decide) ?_
        refine zw_aload_n hX dX11_passSecond_50 rfl ?_
        obtain ⟨b11, g, h⟩ := zb_some h
        refine zw_getr hX zl_X11_44 dX11_passSecond_51 g ?_
        obtain ⟨b12, g, h⟩ := zb_some h
        refine zw_getNr hX zl_X11_587 dX11_passSecond_54 g ?_
        refine zw_iload_n hX dX11_passSecond_57 rfl ?_
        obtain ⟨v13, g, h⟩ := zb_some h
        refine zw_xi hX dX11_passSecond_58 g ?_
        refine zw_imul hX dX11_passSecond_59 ?_
        refine zw_bipush (v := (100 : Int32)) hX dX11_passSecond_60 (by decide) ?_
        refine zw_mmin hX zl_X11_590 dX11_passSecond_62 (Nat.le_of_ble_eq_true rfl) ⟨by omega, by omega⟩ ?_
        obtain ⟨S14, g, h⟩ := zb_some h
        refine zw_si hX dX11_passSecond_65 g ?_
        refine zw_iinc (v := (i1 + (1 : Int32))) hX dX11_passSecond_66 rfl rfl (by decide) ?_
        refine zw_goto (tgt := 23) hX dX11_passSecond_69 (by decide) ?_
        refine zw_sub (lv' := [(0, .ref a0), (1, .int (i1 + (1 : Int32)))]) (List.forall_mem_cons.mpr ⟨rfl, (List.forall_mem_cons.mpr ⟨rfl, zs_nil⟩)⟩) ?_
        exact ih _ _ h
set_option maxHeartbeats 4000000 in
set_option maxRecDepth 100000 in
theorem zt_X11_passSecond_L74 {p : Program} {l : Launch} {e : Env} {R : Room} {s : State} {m : MethodId} {args : Array Value} {below : List Frame} {meth : Method} {c : Code} {V : zm_V} {mc ms d rc rs : Nat} (hX : zm_X p R s m args meth c RX11 "passSecond" cX11_passSecond 2 zk_E V mc ms) (hr : meth.sig.returnType = none) (hR : R.frames = d ∧ R.locals = 64 * d) (hd : 7 ≤ d) {N : Nat} {res : (Unit × zm_S) ⊕ ((Unit) × zm_S)} {out : (Unit × zm_S)} (a0 : Nat) (hf : ∀ o, res = .inl o → o = out) (hk : ∀ (S' : zm_S), res = .inr ((), S') → zw p l e R s m args below meth c (vx_MQ below (zm_Qc zk_E V (zo_v out)) (zm_XC zk_E V zo_x) args s mc ms (fun q => V.2.2.2.1 ≤ q)) 2 zk_E V mc ms 116 [(0, .ref a0)] [] S' rc rs) : ∀ (n : Nat) (i1 : Int32) (S : zm_S), zf_X11_passSecond_L74 N n a0 i1 S = some res → zw p l e R s m args below meth c (vx_MQ below (zm_Qc zk_E V (zo_v out)) (zm_XC zk_E V zo_x) args s mc ms (fun q => V.2.2.2.1 ≤ q)) 2 zk_E V mc ms 74 [(0, .ref a0), (1, .int i1)] [] S rc rs := by
  intro n
  induction n with
  | zero => intro i1 S h; cases h
  | succ n ih =>
    intro i1 S h
    rw [zf_X11_passSecond_L74] at h
    refine zw_iload_n hX dX11_passSecond_74 rfl ?_
    refine zw_aload_n hX dX11_passSecond_75 rfl ?_
    obtain ⟨b16, g, h⟩ := zb_some h
    refine zw_getr hX zl_X11_67 dX11_passSecond_76 g ?_
    obtain ⟨v17, g, h⟩ := zb_some h
    refine zw_getNi hX zl_X11_420 dX11_passSecond_79 g ?_
    refine zw_icmp_ge (tgt := 116) hX dX11_passSecond_82 (by decide) (fun c82 => ?_) (fun c82 => ?_)
    · rw [if_pos c82] at h
      refine zw_sub (lv' := [(0, .ref a0)]) (List.forall_mem_cons.mpr ⟨rfl, zs_nil⟩) ?_
      exact hk  _ (Option.some.inj h).symm
    · rw [if_neg c82] at h
      refine zw_aload_n hX dX11_passSecond_85 rfl ?_
      obtain ⟨b18, g, h⟩ := zb_some h
      refine zw_getr hX zl_X11_85 dX11_passSecond_86 g ?_
      refine zw_aload_n hX dX11_passSecond_89 rfl ?_
      obtain ⟨b19, g, h⟩ := zb_some h
      refine zw_getr hX zl_X11_67 dX11_passSecond_90 g ?_
      obtain ⟨b20, g, h⟩ := zb_some h
      refine zw_getNr hX zl_X11_454 dX11_passSecond_93 g ?_
      refine zw_iload_n hX dX11_passSecond_96 rfl ?_
      obtain ⟨v21, g, h⟩ := zb_some h
      refine zw_xi hX dX11_passSecond_97 g ?_
      refine zw_aload_n hX dX11_passSecond_98 rfl ?_
      obtain ⟨b22, g, h⟩ := zb_some h
      refine zw_getr hX zl_X11_67 dX11_passSecond_99 g ?_
      obtain ⟨b23, g, h⟩ := zb_some h
      refine zw_getNr hX zl_X11_595 dX11_passSecond_102 g ?_
      refine zw_iload_n hX dX11_passSecond_105 rfl ?_
      obtain ⟨v24, g, h⟩ := zb_some h
      refine zw_xi hX dX11_passSecond_106 g ?_
      obtain ⟨_, gi, h⟩ := zb_some h
      obtain ⟨r26, g, h⟩ := zb_some h
      refine zc_Vv (as := [.int v21, .int v24]) hX gi (zt_X4_setSwitch (d := d - 1) (by omega) g) zl_X11_598 rfl dX11_passSecond_107 ⟨rfl, rfl, Nat.le_of_ble_eq_true rfl⟩ ⟨by omega, by omega⟩ ?_
      refine zw_iinc (v := (i1 + (1 : Int32))) hX dX11_passSecond_110 rfl rfl (by decide) ?_
      refine zw_goto (tgt := 74) hX dX11_passSecond_113 (by decide) ?_
      refine zw_sub (lv' := [(0, .ref a0), (1, .int (i1 + (1 : Int32)))]) (List.forall_mem_cons.mpr ⟨rfl, (List.forall_mem_cons.mpr ⟨rfl, zs_nil⟩)⟩) ?_
      exact ih _ _ h
set_option maxHeartbeats 4000000 in
set_option maxRecDepth 100000 in
theorem zt_X11_passSecond_L211 {p : Program} {l : Launch} {e : Env} {R : Room} {s : State} {m : MethodId} {args : Array Value} {below : List Frame} {meth : Method} {c : Code} {V : zm_V} {mc ms d rc rs : Nat} (hX : zm_X p R s m args meth c RX11 "passSecond" cX11_passSecond 2 zk_E V mc ms) (hr : meth.sig.returnType = none) (hR : R.frames = d ∧ R.locals = 64 * d) (hd : 7 ≤ d) {N : Nat} {res : (Unit × zm_S) ⊕ ((Unit) × zm_S)} {out : (Unit × zm_S)} (a0 : Nat) (hf : ∀ o, res = .inl o → o = out) (hk : ∀ (S' : zm_S), res = .inr ((), S') → zw p l e R s m args below meth c (vx_MQ below (zm_Qc zk_E V (zo_v out)) (zm_XC zk_E V zo_x) args s mc ms (fun q => V.2.2.2.1 ≤ q)) 2 zk_E V mc ms 230 [(0, .ref a0)] [] S' rc rs) : ∀ (n : Nat) (i1 : Int32) (S : zm_S), zf_X11_passSecond_L211 N n a0 i1 S = some res → zw p l e R s m args below meth c (vx_MQ below (zm_Qc zk_E V (zo_v out)) (zm_XC zk_E V zo_x) args s mc ms (fun q => V.2.2.2.1 ≤ q)) 2 zk_E V mc ms 211 [(0, .ref a0), (1, .int i1)] [] S rc rs := by
  intro n
  induction n with
  | zero => intro i1 S h; cases h
  | succ n ih =>
    intro i1 S h
    rw [zf_X11_passSecond_L211] at h
    refine zw_iload_n hX dX11_passSecond_211 rfl ?_
    refine zw_bipush (v := (30 : Int32)) hX dX11_passSecond_212 (by decide) ?_
    refine zw_icmp_ge (tgt := 230) hX dX11_passSecond_214 (by decide) (fun c214 => ?_) (fun c214 => ?_)
    · rw [if_pos c214] at h
      refine zw_sub (lv' := [(0, .ref a0)]) (List.forall_mem_cons.mpr ⟨rfl, zs_nil⟩) ?_
      exact hk  _ (Option.some.inj h).symm
    · rw [if_neg c214] at h
      refine zw_aload_n hX dX11_passSecond_217 rfl ?_
      obtain ⟨b58, g, h⟩ := zb_some h
      refine zw_getr hX zl_X11_76 dX11_passSecond_218 g ?_
      obtain ⟨_, gi, h⟩ := zb_some h
      obtain ⟨r60, g, h⟩ := zb_some h
      refine zc_Vv (as := []) hX gi (zt_X1_runBitTime (d := d - 1) (by omega) g) zl_X11_608 rfl dX11_passSecond_221 ⟨rfl, rfl, Nat.le_of_ble_eq_true rfl⟩ ⟨by omega, by omega⟩ ?_
      refine zw_iinc (v := (i1 + (1 : Int32))) hX dX11_passSecond_224 rfl rfl (by decide) ?_
      refine zw_goto (tgt := 211) hX dX11_passSecond_227 (by decide) ?_
      refine zw_sub (lv' := [(0, .ref a0), (1, .int (i1 + (1 : Int32)))]) (List.forall_mem_cons.mpr ⟨rfl, (List.forall_mem_cons.mpr ⟨rfl, zs_nil⟩)⟩) ?_
      exact ih _ _ h
set_option maxHeartbeats 4000000 in
set_option maxRecDepth 100000 in
theorem zt_X11_passSecond_J72 {p : Program} {l : Launch} {e : Env} {R : Room} {s : State} {m : MethodId} {args : Array Value} {below : List Frame} {meth : Method} {c : Code} {V : zm_V} {mc ms d rc rs : Nat} (hX : zm_X p R s m args meth c RX11 "passSecond" cX11_passSecond 2 zk_E V mc ms) (hr : meth.sig.returnType = none) (hR : R.frames = d ∧ R.locals = 64 * d) (hd : 7 ≤ d) {N : Nat} {a0 : Nat} {out : (Unit × zm_S)} {S : zm_S} (h : zf_X11_passSecond_J72 N a0 S = some out) : zw p l e R s m args below meth c (vx_MQ below (zm_Qc zk_E V (zo_v out)) (zm_XC zk_E V zo_x) args s mc ms (fun q => V.2.2.2.1 ≤ q)) 2 zk_E V mc ms 72 [(0, .ref a0)] [] S rc rs := by
  unfold zf_X11_passSecond_J72 at h
  refine zw_iconst (v := (0 : Int32)) hX dX11_passSecond_72 (by decide) ?_
  refine zw_istore_n hX dX11_passSecond_73 (by decide) ?_
  obtain ⟨r, g, h⟩ := zb_some h
  refine zw_sub (lv' := [(0, .ref a0), (1, .int (0 : Int32))]) (List.forall_mem_cons.mpr ⟨rfl, (List.forall_mem_cons.mpr ⟨rfl, zs_nil⟩)⟩) ?_
  refine zt_X11_passSecond_L74 hX hr hR hd (res := r) (out := out) a0 ?_ ?_ N _ _ g
  · intro o ho
    subst ho
    exact Option.some.inj h
  · intro  S27 hx
    subst hx
    try dsimp only at h
    refine zw_aload_n hX dX11_passSecond_116 rfl ?_
    obtain ⟨b28, g, h⟩ := zb_some h
    refine zw_getr hX zl_X11_85 dX11_passSecond_117 g ?_
    refine zw_aload_n hX dX11_passSecond_120 rfl ?_
    obtain ⟨v29, g, h⟩ := zb_some h
    refine zw_geti hX zl_X11_312 dX11_passSecond_121 g ?_
    obtain ⟨_, gi, h⟩ := zb_some h
    obtain ⟨r31, g, h⟩ := zb_some h
    refine zc_Vv (as := [.int v29]) hX gi (zt_X4_runActs (d := d - 1) (by omega) g) zl_X11_602 rfl dX11_passSecond_124 ⟨rfl, rfl, Nat.le_of_ble_eq_true rfl⟩ ⟨by omega, by omega⟩ ?_
    refine zw_aload_n hX dX11_passSecond_127 rfl ?_
    obtain ⟨b32, g, h⟩ := zb_some h
    refine zw_getr hX zl_X11_67 dX11_passSecond_128 g ?_
    obtain ⟨b33, g, h⟩ := zb_some h
    refine zw_getNr hX zl_X11_457 dX11_passSecond_131 g ?_
    refine zw_iconst (v := (0 : Int32)) hX dX11_passSecond_134 (by decide) ?_
    refine zw_aload_n hX dX11_passSecond_135 rfl ?_
    obtain ⟨b34, g, h⟩ := zb_some h
    refine zw_getr hX zl_X11_44 dX11_passSecond_136 g ?_
    obtain ⟨_, gi, h⟩ := zb_some h
    obtain ⟨r36, g, h⟩ := zb_some h
    refine zc_Vi (as := []) hX gi (zt_X10_countFreeInside (d := d - 1) (by omega) g) zl_X11_572 rfl dX11_passSecond_139 ⟨rfl, rfl, Nat.le_of_ble_eq_true rfl⟩ ⟨by omega, by omega⟩ ?_
    obtain ⟨S37, g, h⟩ := zb_some h
    refine zw_si hX dX11_passSecond_142 g ?_
    refine zw_aload_n hX dX11_passSecond_143 rfl ?_
    obtain ⟨b38, g, h⟩ := zb_some h
    refine zw_getr hX zl_X11_67 dX11_passSecond_144 g ?_
    obtain ⟨b39, g, h⟩ := zb_some h
    refine zw_getNr hX zl_X11_457 dX11_passSecond_147 g ?_
    refine zw_iconst (v := (1 : Int32)) hX dX11_passSecond_150 (by decide) ?_
    refine zw_aload_n hX dX11_passSecond_151 rfl ?_
    obtain ⟨b40, g, h⟩ := zb_some h
    refine zw_getr hX zl_X11_85 dX11_passSecond_152 g ?_
    obtain ⟨_, gi, h⟩ := zb_some h
    obtain ⟨r42, g, h⟩ := zb_some h
    refine zc_Vi (as := []) hX gi (zt_X4_countDone (d := d - 1) (by omega) g) zl_X11_575 rfl dX11_passSecond_155 ⟨rfl, rfl, Nat.le_of_ble_eq_true rfl⟩ ⟨by omega, by omega⟩ ?_
    obtain ⟨S43, g, h⟩ := zb_some h
    refine zw_si hX dX11_passSecond_158 g ?_
    refine zw_aload_n hX dX11_passSecond_159 rfl ?_
    obtain ⟨b44, g, h⟩ := zb_some h
    refine zw_getr hX zl_X11_67 dX11_passSecond_160 g ?_
    obtain ⟨b45, g, h⟩ := zb_some h
    refine zw_getNr hX zl_X11_457 dX11_passSecond_163 g ?_
    refine zw_iconst (v := (2 : Int32)) hX dX11_passSecond_166 (by decide) ?_
    refine zw_aload_n hX dX11_passSecond_167 rfl ?_
    obtain ⟨b46, g, h⟩ := zb_some h
    refine zw_getr hX zl_X11_44 dX11_passSecond_168 g ?_
    obtain ⟨v47, g, h⟩ := zb_some h
    refine zw_getNi hX zl_X11_578 dX11_passSecond_171 g ?_
    obtain ⟨S48, g, h⟩ := zb_some h
    refine zw_si hX dX11_passSecond_174 g ?_
    refine zw_aload_n hX dX11_passSecond_175 rfl ?_
    obtain ⟨b49, g, h⟩ := zb_some h
    refine zw_getr hX zl_X11_67 dX11_passSecond_176 g ?_
    obtain ⟨b50, g, h⟩ := zb_some h
    refine zw_getNr hX zl_X11_457 dX11_passSecond_179 g ?_
    refine zw_iconst (v := (3 : Int32)) hX dX11_passSecond_182 (by decide) ?_
    refine zw_aload_n hX dX11_passSecond_183 rfl ?_
    obtain ⟨b51, g, h⟩ := zb_some h
    refine zw_getr hX zl_X11_92 dX11_passSecond_184 g ?_
    obtain ⟨v52, g, h⟩ := zb_some h
    refine zw_getNi hX zl_X11_532 dX11_passSecond_187 g ?_
    obtain ⟨S53, g, h⟩ := zb_some h
    refine zw_si hX dX11_passSecond_190 g ?_
    refine zw_aload_n hX dX11_passSecond_191 rfl ?_
    obtain ⟨b54, g, h⟩ := zb_some h
    refine zw_getr hX zl_X11_67 dX11_passSecond_192 g ?_
    refine zw_aload_n hX dX11_passSecond_195 rfl ?_
    obtain ⟨v55, g, h⟩ := zb_some h
    refine zw_geti hX zl_X11_312 dX11_passSecond_196 g ?_
    refine zw_bipush (v := (60 : Int32)) hX dX11_passSecond_199 (by decide) ?_
    refine zw_idiv hX dX11_passSecond_201 (by decide) ?_
    refine zw_sipush (v := (1440 : Int32)) hX dX11_passSecond_202 (by decide) ?_
    refine zw_irem hX dX11_passSecond_205 (by decide) ?_
    obtain ⟨_, gi, h⟩ := zb_some h
    obtain ⟨r57, g, h⟩ := zb_some h
    refine zc_Vv (as := [.int ((v55 / (60 : Int32)) - (v55 / (60 : Int32)) / (1440 : Int32) * (1440 : Int32))]) hX gi (zt_X9_reckonBlocks (d := d - 1) (by omega) g) zl_X11_605 rfl dX11_passSecond_206 ⟨rfl, rfl, Nat.le_of_ble_eq_true rfl⟩ ⟨by omega, by omega⟩ ?_
    refine zw_iconst (v := (0 : Int32)) hX dX11_passSecond_209 (by decide) ?_
    refine zw_istore_n hX dX11_passSecond_210 (by decide) ?_
    obtain ⟨r, g, h⟩ := zb_some h
    refine zw_sub (lv' := [(0, .ref a0), (1, .int (0 : Int32))]) (List.forall_mem_cons.mpr ⟨rfl, (List.forall_mem_cons.mpr ⟨rfl, zs_nil⟩)⟩) ?_
    refine zt_X11_passSecond_L211 hX hr hR hd (res := r) (out := out) a0 ?_ ?_ N _ _ g
    · intro o ho
      subst ho
      exact Option.some.inj h
    · intro  S61 hx
      subst hx
      try dsimp only at h
      refine zw_aload_n hX dX11_passSecond_230 rfl ?_
      obtain ⟨b62, g, h⟩ := zb_some h
      refine zw_getr hX zl_X11_44 dX11_passSecond_231 g ?_
      refine zw_aload_n hX dX11_passSecond_234 rfl ?_
      obtain ⟨v63, g, h⟩ := zb_some h
      refine zw_geti hX zl_X11_312 dX11_passSecond_235 g ?_
      obtain ⟨_, gi, h⟩ := zb_some h
      obtain ⟨r65, g, h⟩ := zb_some h
      refine zc_Vv (as := [.int v63]) hX gi (zt_X10_catchPersons (d := d - 1) (by omega) g) zl_X11_611 rfl dX11_passSecond_238 ⟨rfl, rfl, Nat.le_of_ble_eq_true rfl⟩ ⟨by omega, by omega⟩ ?_
      refine zw_aload_n hX dX11_passSecond_241 rfl ?_
      obtain ⟨_, gi, h⟩ := zb_some h
      obtain ⟨r67, g, h⟩ := zb_some h
      refine zc_Vi (as := []) hX gi (zt_X11_doPersonsLeave (d := d - 1) (by omega) g) zl_X11_581 rfl dX11_passSecond_242 ⟨rfl, rfl, Nat.le_of_ble_eq_true rfl⟩ ⟨by omega, by omega⟩ ?_
      refine zw_if_eq (tgt := 259) hX dX11_passSecond_245 (by decide) (fun c245 => ?_) (fun c245 => ?_)
      · rw [if_pos c245] at h
        obtain rfl := Option.some.inj h
        exact zw_vret hX hr dX11_passSecond_259 ⟨rfl, rfl⟩
      · rw [if_neg c245] at h
        refine zw_aload_n hX dX11_passSecond_248 rfl ?_
        obtain ⟨b68, g, h⟩ := zb_some h
        refine zw_getr hX zl_X11_44 dX11_passSecond_249 g ?_
        refine zw_aload_n hX dX11_passSecond_252 rfl ?_
        obtain ⟨v69, g, h⟩ := zb_some h
        refine zw_geti hX zl_X11_312 dX11_passSecond_253 g ?_
        obtain ⟨_, gi, h⟩ := zb_some h
        obtain ⟨r71, g, h⟩ := zb_some h
        refine zc_Vv (as := [.int v69]) hX gi (zt_X10_movePersons (d := d - 1) (by omega) g) zl_X11_614 rfl dX11_passSecond_256 ⟨rfl, rfl, Nat.le_of_ble_eq_true rfl⟩ ⟨by omega, by omega⟩ ?_
        obtain rfl := Option.some.inj h
        exact zw_vret hX hr dX11_passSecond_259 ⟨rfl, rfl⟩
set_option maxHeartbeats 4000000 in
set_option maxRecDepth 100000 in
theorem zt_X11_passSecond {l : Launch} {V : zm_V} {N : Nat} {S : zm_S} {out : (Unit × zm_S)} {d : Nat} {a0 : Nat} (hd : 7 ≤ d) (h : zf_X11_passSecond N a0 S = some out) : zm_Met l zk_E V yX11_passSecond (.code yX11_passSecond cX11_passSecond 2 none) d [.ref a0] S 0 0 (zo_v out) zo_x := by
  refine zm_of (by decide +kernel) (Nat.le_of_ble_eq_true rfl) ?_
  intro p e R s m args below meth c hRR hX hr hxt
  have hR : R.frames = d ∧ R.locals = 64 * d := by rw [hRR]; exact ⟨rfl, rfl⟩
  have hX : zm_X p R s m args meth c RX11 "passSecond" cX11_passSecond 2 zk_E V 0 0 := hX
  unfold zf_X11_passSecond at h
  refine zw_sub (lv' := [(0, .ref a0)]) (List.forall_mem_cons.mpr ⟨rfl, zs_nil⟩) ?_
  refine zw_aload_n hX dX11_passSecond_0 rfl ?_
  refine zw_dup hX dX11_passSecond_1 rfl ?_
  obtain ⟨v1, g, h⟩ := zb_some h
  refine zw_geti hX zl_X11_312 dX11_passSecond_2 g ?_
  refine zw_iconst (v := (1 : Int32)) hX dX11_passSecond_5 (by decide) ?_
  refine zw_iadd hX dX11_passSecond_6 ?_
  obtain ⟨S2, g, h⟩ := zb_some h
  refine zw_putv hX zl_X11_312 zt_11_12 dX11_passSecond_7 rfl rfl g ?_
  refine zw_aload_n hX dX11_passSecond_10 rfl ?_
  obtain ⟨b3, g, h⟩ := zb_some h
  refine zw_getr hX zl_X11_44 dX11_passSecond_11 g ?_
  refine zw_aload_n hX dX11_passSecond_14 rfl ?_
  obtain ⟨v4, g, h⟩ := zb_some h
  refine zw_geti hX zl_X11_312 dX11_passSecond_15 g ?_
  obtain ⟨_, gi, h⟩ := zb_some h
  obtain ⟨r6, g, h⟩ := zb_some h
  refine zc_Vv (as := [.int v4]) hX gi (zt_X10_spreadSmoke (d := d - 1) (by omega) g) zl_X11_584 rfl dX11_passSecond_18 ⟨rfl, rfl, Nat.le_of_ble_eq_true rfl⟩ ⟨by omega, by omega⟩ ?_
  refine zw_iconst (v := (0 : Int32)) hX dX11_passSecond_21 (by decide) ?_
  refine zw_istore_n hX dX11_passSecond_22 (by decide) ?_
  obtain ⟨r, g, h⟩ := zb_some h
  refine zw_sub (lv' := [(0, .ref a0), (1, .int (0 : Int32))]) (List.forall_mem_cons.mpr ⟨rfl, (List.forall_mem_cons.mpr ⟨rfl, zs_nil⟩)⟩) ?_
  refine zt_X11_passSecond_L23 hX hr hR hd (res := r) (out := out) a0 ?_ ?_ N _ _ g
  · intro o ho
    subst ho
    exact Option.some.inj h
  · intro  S15 hx
    subst hx
    try dsimp only at h
    refine zw_sub (lv' := [(0, .ref a0)]) (List.forall_mem_cons.mpr ⟨rfl, zs_nil⟩) ?_
    exact zt_X11_passSecond_J72 hX hr hR hd h
set_option maxHeartbeats 4000000 in
set_option maxRecDepth 100000 in
theorem zt_X11_pass_L39 {p : Program} {l : Launch} {e : Env} {R : Room} {s : State} {m : MethodId} {args : Array Value} {below : List Frame} {meth : Method} {c : Code} {V : zm_V} {mc ms d rc rs : Nat} (hlt : l.stackTraces = false) (hxt : ∀ x ∈ c.exceptionTable.toList, False) (hX : zm_X p R s m args meth c RX11 "pass" cX11_pass 3 zk_E V mc ms) (hr : meth.sig.returnType = (some .int)) (hR : R.frames = d ∧ R.locals = 64 * d) (hd : 8 ≤ d) {N : Nat} {res : ((Int32 ⊕ String) × zm_S) ⊕ ((Unit) × zm_S)} {out : ((Int32 ⊕ String) × zm_S)} (a0 : Nat) (i1 : Int32) (hf : ∀ o, res = .inl o → o = out) (hk : ∀ (S' : zm_S), res = .inr ((), S') → zw p l e R s m args below meth c (vx_MQ below (zm_Qc zk_E V (zq_i out)) (zm_XC zk_E V (zq_x out)) args s mc ms (fun q => V.2.2.2.1 ≤ q)) 3 zk_E V mc ms 54 [(0, .ref a0)] [] S' rc rs) : ∀ (n : Nat) (i2 : Int32) (S : zm_S), zf_X11_pass_L39 N n a0 i1 i2 S = some res → zw p l e R s m args below meth c (vx_MQ below (zm_Qc zk_E V (zq_i out)) (zm_XC zk_E V (zq_x out)) args s mc ms (fun q => V.2.2.2.1 ≤ q)) 3 zk_E V mc ms 39 [(0, .ref a0), (1, .int i1), (2, .int i2)] [] S rc rs := by
  intro n
  induction n with
  | zero => intro i2 S h; cases h
  | succ n ih =>
    intro i2 S h
    rw [zf_X11_pass_L39] at h
    refine zw_iload_n hX dX11_pass_39 rfl ?_
    refine zw_iload_n hX dX11_pass_40 rfl ?_
    refine zw_icmp_ge (tgt := 54) hX dX11_pass_41 (by decide) (fun c41 => ?_) (fun c41 => ?_)
    · rw [if_pos c41] at h
      refine zw_sub (lv' := [(0, .ref a0)]) (List.forall_mem_cons.mpr ⟨rfl, zs_nil⟩) ?_
      exact hk  _ (Option.some.inj h).symm
    · rw [if_neg c41] at h
      refine zw_aload_n hX dX11_pass_44 rfl ?_
      obtain ⟨_, gi, h⟩ := zb_some h
      obtain ⟨r9, g, h⟩ := zb_some h
      refine zc_Vv (as := []) hX gi (zt_X11_passSecond (d := d - 1) (by omega) g) zl_X11_569 rfl dX11_pass_45 ⟨rfl, rfl, Nat.le_of_ble_eq_true rfl⟩ ⟨by omega, by omega⟩ ?_
      refine zw_iinc (v := (i2 + (1 : Int32))) hX dX11_pass_48 rfl rfl (by decide) ?_
      refine zw_goto (tgt := 39) hX dX11_pass_51 (by decide) ?_
      refine zw_sub (lv' := [(0, .ref a0), (1, .int i1), (2, .int (i2 + (1 : Int32)))]) (List.forall_mem_cons.mpr ⟨rfl, (List.forall_mem_cons.mpr ⟨rfl, (List.forall_mem_cons.mpr ⟨rfl, zs_nil⟩)⟩)⟩) ?_
      exact ih _ _ h
set_option maxHeartbeats 4000000 in
set_option maxRecDepth 100000 in
theorem zt_X11_pass_J34 {p : Program} {l : Launch} {e : Env} {R : Room} {s : State} {m : MethodId} {args : Array Value} {below : List Frame} {meth : Method} {c : Code} {V : zm_V} {mc ms d rc rs : Nat} (hlt : l.stackTraces = false) (hxt : ∀ x ∈ c.exceptionTable.toList, False) (hX : zm_X p R s m args meth c RX11 "pass" cX11_pass 3 zk_E V mc ms) (hr : meth.sig.returnType = (some .int)) (hR : R.frames = d ∧ R.locals = 64 * d) (hd : 8 ≤ d) {N : Nat} {a0 : Nat} {i1 : Int32} {t0 : Int32} {out : ((Int32 ⊕ String) × zm_S)} (hc : 1 ≤ rc ∧ 6 ≤ rs) {S : zm_S} (h : zf_X11_pass_J34 N a0 i1 t0 S = some out) : zw p l e R s m args below meth c (vx_MQ below (zm_Qc zk_E V (zq_i out)) (zm_XC zk_E V (zq_x out)) args s mc ms (fun q => V.2.2.2.1 ≤ q)) 3 zk_E V mc ms 34 [(0, .ref a0), (1, .int i1)] [.int t0] S rc rs := by
  unfold zf_X11_pass_J34 at h
  obtain ⟨r, g, h⟩ := zb_some h
  refine zc_S (as := [.int t0]) hX (zt_X11_needState hlt (d := d - 1) (by omega) g) zl_X11_112 dX11_pass_34 ⟨rfl, rfl, Nat.le_of_ble_eq_true rfl⟩ ⟨by omega, by omega⟩ ⟨by omega, by omega⟩ ?_ ?_
  · rintro _ S7 ⟨⟨u6, rfl⟩, rfl⟩
    try dsimp only at h
    refine zw_iconst (v := (0 : Int32)) hX dX11_pass_37 (by decide) ?_
    refine zw_istore_n hX dX11_pass_38 (by decide) ?_
    obtain ⟨r, g, h⟩ := zb_some h
    refine zw_sub (lv' := [(0, .ref a0), (1, .int i1), (2, .int (0 : Int32))]) (List.forall_mem_cons.mpr ⟨rfl, (List.forall_mem_cons.mpr ⟨rfl, (List.forall_mem_cons.mpr ⟨rfl, zs_nil⟩)⟩)⟩) ?_
    refine zt_X11_pass_L39 hlt hxt hX hr hR hd (res := r) (out := out) a0 i1 ?_ ?_ N _ _ g
    · intro o ho
      subst ho
      exact Option.some.inj h
    · intro  S10 hx
      subst hx
      try dsimp only at h
      refine zw_aload_n hX dX11_pass_54 rfl ?_
      obtain ⟨v11, g, h⟩ := zb_some h
      refine zw_geti hX zl_X11_312 dX11_pass_55 g ?_
      obtain rfl := Option.some.inj h
      exact zw_iret hX hr dX11_pass_58 rfl ⟨_, rfl, rfl⟩
  · rintro X S9 rfl
    obtain rfl := Option.some.inj h
    exact zx_out hX hxt rfl
set_option maxHeartbeats 4000000 in
set_option maxRecDepth 100000 in
theorem zt_X11_pass_J33 {p : Program} {l : Launch} {e : Env} {R : Room} {s : State} {m : MethodId} {args : Array Value} {below : List Frame} {meth : Method} {c : Code} {V : zm_V} {mc ms d rc rs : Nat} (hlt : l.stackTraces = false) (hxt : ∀ x ∈ c.exceptionTable.toList, False) (hX : zm_X p R s m args meth c RX11 "pass" cX11_pass 3 zk_E V mc ms) (hr : meth.sig.returnType = (some .int)) (hR : R.frames = d ∧ R.locals = 64 * d) (hd : 8 ≤ d) {N : Nat} {a0 : Nat} {i1 : Int32} {out : ((Int32 ⊕ String) × zm_S)} (hc : 1 ≤ rc ∧ 6 ≤ rs) {S : zm_S} (h : zf_X11_pass_J33 N a0 i1 S = some out) : zw p l e R s m args below meth c (vx_MQ below (zm_Qc zk_E V (zq_i out)) (zm_XC zk_E V (zq_x out)) args s mc ms (fun q => V.2.2.2.1 ≤ q)) 3 zk_E V mc ms 33 [(0, .ref a0), (1, .int i1)] [] S rc rs := by
  unfold zf_X11_pass_J33 at h
  refine zw_iconst (v := (0 : Int32)) hX dX11_pass_33 (by decide) ?_
  refine zw_sub (lv' := [(0, .ref a0), (1, .int i1)]) (List.forall_mem_cons.mpr ⟨rfl, (List.forall_mem_cons.mpr ⟨rfl, zs_nil⟩)⟩) ?_
  exact zt_X11_pass_J34 hlt hxt hX hr hR hd ⟨by omega, by omega⟩ h
set_option maxHeartbeats 4000000 in
set_option maxRecDepth 100000 in
theorem zt_X11_pass {l : Launch} {V : zm_V} (hlt : l.stackTraces = false) {N : Nat} {S : zm_S} {out : ((Int32 ⊕ String) × zm_S)} {d : Nat} {a0 : Nat} {i1 : Int32} (hd : 8 ≤ d) (h : zf_X11_pass N a0 i1 S = some out) : zm_Met l zk_E V yX11_pass (.code yX11_pass cX11_pass 3 (some .int)) d [.ref a0, .int i1] S 2 12 (zq_i out) (zq_x out) := by
  refine zm_of (by decide +kernel) (Nat.le_of_ble_eq_true rfl) ?_
  intro p e R s m args below meth c hRR hX hr hxt
  have hR : R.frames = d ∧ R.locals = 64 * d := by rw [hRR]; exact ⟨rfl, rfl⟩
  have hX : zm_X p R s m args meth c RX11 "pass" cX11_pass 3 zk_E V 2 12 := hX
  unfold zf_X11_pass at h
  refine zw_sub (lv' := [(0, .ref a0), (1, .int i1)]) (List.forall_mem_cons.mpr ⟨rfl, (List.forall_mem_cons.mpr ⟨rfl, zs_nil⟩)⟩) ?_
  refine zw_iload_n hX dX11_pass_0 rfl ?_
  refine zw_iconst (v := (1 : Int32)) hX dX11_pass_1 (by decide) ?_
  refine zw_bipush (v := (60 : Int32)) hX dX11_pass_2 (by decide) ?_
  obtain ⟨r2, g, h⟩ := zb_some h
  refine zc_Si (as := [.int i1, .int (1 : Int32), .int (60 : Int32)]) hX (zt_X11_isWithin (d := d - 1) (by omega) g) zl_X11_133 dX11_pass_4 ⟨rfl, rfl, Nat.le_of_ble_eq_true rfl⟩ ⟨by omega, by omega⟩ ?_
  obtain ⟨r, g, h⟩ := zb_some h
  refine zc_S (as := [.int r2.1]) hX (zt_X11_needArgument hlt (d := d - 1) (by omega) g) zl_X11_100 dX11_pass_7 ⟨rfl, rfl, Nat.le_of_ble_eq_true rfl⟩ ⟨by omega, by omega⟩ ⟨by omega, by omega⟩ ?_ ?_
  · rintro _ S4 ⟨⟨u3, rfl⟩, rfl⟩
    try dsimp only at h
    refine zw_aload_n hX dX11_pass_10 rfl ?_
    obtain ⟨v5, g, h⟩ := zb_some h
    refine zw_geti hX zl_X11_104 dX11_pass_11 g ?_
    refine zw_if_eq (tgt := 33) hX dX11_pass_14 (by decide) (fun c14 => ?_) (fun c14 => ?_)
    · rw [if_pos c14] at h
      refine zw_sub (lv' := [(0, .ref a0), (1, .int i1)]) (List.forall_mem_cons.mpr ⟨rfl, (List.forall_mem_cons.mpr ⟨rfl, zs_nil⟩)⟩) ?_
      exact zt_X11_pass_J33 hlt hxt hX hr hR hd ⟨by omega, by omega⟩ h
    · rw [if_neg c14] at h
      refine zw_aload_n hX dX11_pass_17 rfl ?_
      obtain ⟨v12, g, h⟩ := zb_some h
      refine zw_geti hX zl_X11_312 dX11_pass_18 g ?_
      refine zw_iload_n hX dX11_pass_21 rfl ?_
      refine zw_iadd hX dX11_pass_22 ?_
      refine zw_sipush (v := (6000 : Int32)) hX dX11_pass_23 (by decide) ?_
      refine zw_icmp_gt (tgt := 33) hX dX11_pass_26 (by decide) (fun c26 => ?_) (fun c26 => ?_)
      · rw [if_pos c26] at h
        refine zw_sub (lv' := [(0, .ref a0), (1, .int i1)]) (List.forall_mem_cons.mpr ⟨rfl, (List.forall_mem_cons.mpr ⟨rfl, zs_nil⟩)⟩) ?_
        exact zt_X11_pass_J33 hlt hxt hX hr hR hd ⟨by omega, by omega⟩ h
      · rw [if_neg c26] at h
        refine zw_iconst (v := (1 : Int32)) hX dX11_pass_29 (by decide) ?_
        refine zw_goto (tgt := 34) hX dX11_pass_30 (by decide) ?_
        refine zw_sub (lv' := [(0, .ref a0), (1, .int i1)]) (List.forall_mem_cons.mpr ⟨rfl, (List.forall_mem_cons.mpr ⟨rfl, zs_nil⟩)⟩) ?_
        exact zt_X11_pass_J34 hlt hxt hX hr hR hd ⟨by omega, by omega⟩ h
  · rintro X S9 rfl
    obtain rfl := Option.some.inj h
    exact zx_out hX hxt rfl
set_option maxHeartbeats 4000000 in
set_option maxRecDepth 100000 in
theorem zt_X11_told_J64 {p : Program} {l : Launch} {e : Env} {R : Room} {s : State} {m : MethodId} {args : Array Value} {below : List Frame} {meth : Method} {c : Code} {V : zm_V} {mc ms d rc rs : Nat} (hlt : l.stackTraces = false) (hxt : ∀ x ∈ c.exceptionTable.toList, False) (hX : zm_X p R s m args meth c RX11 "told" cX11_told 2 zk_E V mc ms) (hr : meth.sig.returnType = (some .int)) (hR : R.frames = d ∧ R.locals = 64 * d) (hd : 7 ≤ d) {N : Nat} {a0 : Nat} {out : ((Int32 ⊕ String) × zm_S)} (hc : 0 ≤ rc ∧ 0 ≤ rs) {S : zm_S} (h : zf_X11_told_J64 N a0 S = some out) : zw p l e R s m args below meth c (vx_MQ below (zm_Qc zk_E V (zq_i out)) (zm_XC zk_E V (zq_x out)) args s mc ms (fun q => V.2.2.2.1 ≤ q)) 2 zk_E V mc ms 64 [(0, .ref a0)] [] S rc rs := by
  unfold zf_X11_told_J64 at h
  refine zw_aload_n hX dX11_told_64 rfl ?_
  obtain ⟨b9, g, h⟩ := zb_some h
  refine zw_getr hX zl_X11_53 dX11_told_65 g ?_
  obtain ⟨v10, g, h⟩ := zb_some h
  refine zw_getNi hX zl_X11_264 dX11_told_68 g ?_
  obtain rfl := Option.some.inj h
  exact zw_iret hX hr dX11_told_71 rfl ⟨_, rfl, rfl⟩
set_option maxHeartbeats 4000000 in
set_option maxRecDepth 100000 in
theorem zt_X11_told_J72 {p : Program} {l : Launch} {e : Env} {R : Room} {s : State} {m : MethodId} {args : Array Value} {below : List Frame} {meth : Method} {c : Code} {V : zm_V} {mc ms d rc rs : Nat} (hlt : l.stackTraces = false) (hxt : ∀ x ∈ c.exceptionTable.toList, False) (hX : zm_X p R s m args meth c RX11 "told" cX11_told 2 zk_E V mc ms) (hr : meth.sig.returnType = (some .int)) (hR : R.frames = d ∧ R.locals = 64 * d) (hd : 7 ≤ d) {N : Nat} {a0 : Nat} {out : ((Int32 ⊕ String) × zm_S)} (hc : 0 ≤ rc ∧ 0 ≤ rs) {S : zm_S} (h : zf_X11_told_J72 N a0 S = some out) : zw p l e R s m args below meth c (vx_MQ below (zm_Qc zk_E V (zq_i out)) (zm_XC zk_E V (zq_x out)) args s mc ms (fun q => V.2.2.2.1 ≤ q)) 2 zk_E V mc ms 72 [(0, .ref a0)] [] S rc rs := by
  unfold zf_X11_told_J72 at h
  refine zw_aload_n hX dX11_told_72 rfl ?_
  obtain ⟨b11, g, h⟩ := zb_some h
  refine zw_getr hX zl_X11_44 dX11_told_73 g ?_
  obtain ⟨_, gi, h⟩ := zb_some h
  obtain ⟨r13, g, h⟩ := zb_some h
  refine zc_Vi (as := []) hX gi (zt_X10_countFreeInside (d := d - 1) (by omega) g) zl_X11_572 rfl dX11_told_76 ⟨rfl, rfl, Nat.le_of_ble_eq_true rfl⟩ ⟨by omega, by omega⟩ ?_
  obtain rfl := Option.some.inj h
  exact zw_iret hX hr dX11_told_79 rfl ⟨_, rfl, rfl⟩
set_option maxHeartbeats 4000000 in
set_option maxRecDepth 100000 in
theorem zt_X11_told_J80 {p : Program} {l : Launch} {e : Env} {R : Room} {s : State} {m : MethodId} {args : Array Value} {below : List Frame} {meth : Method} {c : Code} {V : zm_V} {mc ms d rc rs : Nat} (hlt : l.stackTraces = false) (hxt : ∀ x ∈ c.exceptionTable.toList, False) (hX : zm_X p R s m args meth c RX11 "told" cX11_told 2 zk_E V mc ms) (hr : meth.sig.returnType = (some .int)) (hR : R.frames = d ∧ R.locals = 64 * d) (hd : 7 ≤ d) {N : Nat} {a0 : Nat} {out : ((Int32 ⊕ String) × zm_S)} (hc : 0 ≤ rc ∧ 0 ≤ rs) {S : zm_S} (h : zf_X11_told_J80 N a0 S = some out) : zw p l e R s m args below meth c (vx_MQ below (zm_Qc zk_E V (zq_i out)) (zm_XC zk_E V (zq_x out)) args s mc ms (fun q => V.2.2.2.1 ≤ q)) 2 zk_E V mc ms 80 [(0, .ref a0)] [] S rc rs := by
  unfold zf_X11_told_J80 at h
  refine zw_aload_n hX dX11_told_80 rfl ?_
  obtain ⟨b14, g, h⟩ := zb_some h
  refine zw_getr hX zl_X11_85 dX11_told_81 g ?_
  obtain ⟨_, gi, h⟩ := zb_some h
  obtain ⟨r16, g, h⟩ := zb_some h
  refine zc_Vi (as := []) hX gi (zt_X4_countDone (d := d - 1) (by omega) g) zl_X11_575 rfl dX11_told_84 ⟨rfl, rfl, Nat.le_of_ble_eq_true rfl⟩ ⟨by omega, by omega⟩ ?_
  obtain rfl := Option.some.inj h
  exact zw_iret hX hr dX11_told_87 rfl ⟨_, rfl, rfl⟩
set_option maxHeartbeats 4000000 in
set_option maxRecDepth 100000 in
theorem zt_X11_told_J88 {p : Program} {l : Launch} {e : Env} {R : Room} {s : State} {m : MethodId} {args : Array Value} {below : List Frame} {meth : Method} {c : Code} {V : zm_V} {mc ms d rc rs : Nat} (hlt : l.stackTraces = false) (hxt : ∀ x ∈ c.exceptionTable.toList, False) (hX : zm_X p R s m args meth c RX11 "told" cX11_told 2 zk_E V mc ms) (hr : meth.sig.returnType = (some .int)) (hR : R.frames = d ∧ R.locals = 64 * d) (hd : 7 ≤ d) {N : Nat} {a0 : Nat} {out : ((Int32 ⊕ String) × zm_S)} (hc : 0 ≤ rc ∧ 0 ≤ rs) {S : zm_S} (h : zf_X11_told_J88 N a0 S = some out) : zw p l e R s m args below meth c (vx_MQ below (zm_Qc zk_E V (zq_i out)) (zm_XC zk_E V (zq_x out)) args s mc ms (fun q => V.2.2.2.1 ≤ q)) 2 zk_E V mc ms 88 [(0, .ref a0)] [] S rc rs := by
  unfold zf_X11_told_J88 at h
  refine zw_aload_n hX dX11_told_88 rfl ?_
  obtain ⟨b17, g, h⟩ := zb_some h
  refine zw_getr hX zl_X11_44 dX11_told_89 g ?_
  obtain ⟨v18, g, h⟩ := zb_some h
  refine zw_getNi hX zl_X11_578 dX11_told_92 g ?_
  obtain rfl := Option.some.inj h
  exact zw_iret hX hr dX11_told_95 rfl ⟨_, rfl, rfl⟩
set_option maxHeartbeats 4000000 in
set_option maxRecDepth 100000 in
theorem zt_X11_told_J96 {p : Program} {l : Launch} {e : Env} {R : Room} {s : State} {m : MethodId} {args : Array Value} {below : List Frame} {meth : Method} {c : Code} {V : zm_V} {mc ms d rc rs : Nat} (hlt : l.stackTraces = false) (hxt : ∀ x ∈ c.exceptionTable.toList, False) (hX : zm_X p R s m args meth c RX11 "told" cX11_told 2 zk_E V mc ms) (hr : meth.sig.returnType = (some .int)) (hR : R.frames = d ∧ R.locals = 64 * d) (hd : 7 ≤ d) {N : Nat} {a0 : Nat} {out : ((Int32 ⊕ String) × zm_S)} (hc : 0 ≤ rc ∧ 0 ≤ rs) {S : zm_S} (h : zf_X11_told_J96 N a0 S = some out) : zw p l e R s m args below meth c (vx_MQ below (zm_Qc zk_E V (zq_i out)) (zm_XC zk_E V (zq_x out)) args s mc ms (fun q => V.2.2.2.1 ≤ q)) 2 zk_E V mc ms 96 [(0, .ref a0)] [] S rc rs := by
  unfold zf_X11_told_J96 at h
  refine zw_aload_n hX dX11_told_96 rfl ?_
  obtain ⟨b19, g, h⟩ := zb_some h
  refine zw_getr hX zl_X11_92 dX11_told_97 g ?_
  obtain ⟨v20, g, h⟩ := zb_some h
  refine zw_getNi hX zl_X11_532 dX11_told_100 g ?_
  obtain rfl := Option.some.inj h
  exact zw_iret hX hr dX11_told_103 rfl ⟨_, rfl, rfl⟩
set_option maxHeartbeats 4000000 in
set_option maxRecDepth 100000 in
theorem zt_X11_told_J104 {p : Program} {l : Launch} {e : Env} {R : Room} {s : State} {m : MethodId} {args : Array Value} {below : List Frame} {meth : Method} {c : Code} {V : zm_V} {mc ms d rc rs : Nat} (hlt : l.stackTraces = false) (hxt : ∀ x ∈ c.exceptionTable.toList, False) (hX : zm_X p R s m args meth c RX11 "told" cX11_told 2 zk_E V mc ms) (hr : meth.sig.returnType = (some .int)) (hR : R.frames = d ∧ R.locals = 64 * d) (hd : 7 ≤ d) {N : Nat} {a0 : Nat} {out : ((Int32 ⊕ String) × zm_S)} (hc : 0 ≤ rc ∧ 0 ≤ rs) {S : zm_S} (h : zf_X11_told_J104 N a0 S = some out) : zw p l e R s m args below meth c (vx_MQ below (zm_Qc zk_E V (zq_i out)) (zm_XC zk_E V (zq_x out)) args s mc ms (fun q => V.2.2.2.1 ≤ q)) 2 zk_E V mc ms 104 [(0, .ref a0)] [] S rc rs := by
  unfold zf_X11_told_J104 at h
  refine zw_aload_n hX dX11_told_104 rfl ?_
  obtain ⟨_, gi, h⟩ := zb_some h
  obtain ⟨r22, g, h⟩ := zb_some h
  refine zc_Vi (as := []) hX gi (zt_X11_isReleased (d := d - 1) (by omega) g) zl_X11_331 rfl dX11_told_105 ⟨rfl, rfl, Nat.le_of_ble_eq_true rfl⟩ ⟨by omega, by omega⟩ ?_
  refine zw_if_eq (tgt := 115) hX dX11_told_108 (by decide) (fun c108 => ?_) (fun c108 => ?_)
  · rw [if_pos c108] at h
    refine zw_iconst (v := (0 : Int32)) hX dX11_told_115 (by decide) ?_
    obtain rfl := Option.some.inj h
    exact zw_iret hX hr dX11_told_116 rfl ⟨_, rfl, rfl⟩
  · rw [if_neg c108] at h
    refine zw_iconst (v := (1 : Int32)) hX dX11_told_111 (by decide) ?_
    refine zw_goto (tgt := 116) hX dX11_told_112 (by decide) ?_
    obtain rfl := Option.some.inj h
    exact zw_iret hX hr dX11_told_116 rfl ⟨_, rfl, rfl⟩
set_option maxHeartbeats 4000000 in
set_option maxRecDepth 100000 in
theorem zt_X11_told_J117 {p : Program} {l : Launch} {e : Env} {R : Room} {s : State} {m : MethodId} {args : Array Value} {below : List Frame} {meth : Method} {c : Code} {V : zm_V} {mc ms d rc rs : Nat} (hlt : l.stackTraces = false) (hxt : ∀ x ∈ c.exceptionTable.toList, False) (hX : zm_X p R s m args meth c RX11 "told" cX11_told 2 zk_E V mc ms) (hr : meth.sig.returnType = (some .int)) (hR : R.frames = d ∧ R.locals = 64 * d) (hd : 7 ≤ d) {N : Nat} {a0 : Nat} {out : ((Int32 ⊕ String) × zm_S)} (hc : 0 ≤ rc ∧ 0 ≤ rs) {S : zm_S} (h : zf_X11_told_J117 N a0 S = some out) : zw p l e R s m args below meth c (vx_MQ below (zm_Qc zk_E V (zq_i out)) (zm_XC zk_E V (zq_x out)) args s mc ms (fun q => V.2.2.2.1 ≤ q)) 2 zk_E V mc ms 117 [(0, .ref a0)] [] S rc rs := by
  unfold zf_X11_told_J117 at h
  refine zw_aload_n hX dX11_told_117 rfl ?_
  obtain ⟨_, gi, h⟩ := zb_some h
  obtain ⟨r24, g, h⟩ := zb_some h
  refine zc_Vi (as := []) hX gi (zt_X11_isHome (d := d - 1) (by omega) g) zl_X11_550 rfl dX11_told_118 ⟨rfl, rfl, Nat.le_of_ble_eq_true rfl⟩ ⟨by omega, by omega⟩ ?_
  refine zw_if_eq (tgt := 128) hX dX11_told_121 (by decide) (fun c121 => ?_) (fun c121 => ?_)
  · rw [if_pos c121] at h
    refine zw_iconst (v := (0 : Int32)) hX dX11_told_128 (by decide) ?_
    obtain rfl := Option.some.inj h
    exact zw_iret hX hr dX11_told_129 rfl ⟨_, rfl, rfl⟩
  · rw [if_neg c121] at h
    refine zw_iconst (v := (1 : Int32)) hX dX11_told_124 (by decide) ?_
    refine zw_goto (tgt := 129) hX dX11_told_125 (by decide) ?_
    obtain rfl := Option.some.inj h
    exact zw_iret hX hr dX11_told_129 rfl ⟨_, rfl, rfl⟩
set_option maxHeartbeats 4000000 in
set_option maxRecDepth 100000 in
theorem zt_X11_told_J130 {p : Program} {l : Launch} {e : Env} {R : Room} {s : State} {m : MethodId} {args : Array Value} {below : List Frame} {meth : Method} {c : Code} {V : zm_V} {mc ms d rc rs : Nat} (hlt : l.stackTraces = false) (hxt : ∀ x ∈ c.exceptionTable.toList, False) (hX : zm_X p R s m args meth c RX11 "told" cX11_told 2 zk_E V mc ms) (hr : meth.sig.returnType = (some .int)) (hR : R.frames = d ∧ R.locals = 64 * d) (hd : 7 ≤ d) {N : Nat} {a0 : Nat} {out : ((Int32 ⊕ String) × zm_S)} (hc : 0 ≤ rc ∧ 0 ≤ rs) {S : zm_S} (h : zf_X11_told_J130 N a0 S = some out) : zw p l e R s m args below meth c (vx_MQ below (zm_Qc zk_E V (zq_i out)) (zm_XC zk_E V (zq_x out)) args s mc ms (fun q => V.2.2.2.1 ≤ q)) 2 zk_E V mc ms 130 [(0, .ref a0)] [] S rc rs := by
  unfold zf_X11_told_J130 at h
  refine zw_aload_n hX dX11_told_130 rfl ?_
  obtain ⟨_, gi, h⟩ := zb_some h
  obtain ⟨r26, g, h⟩ := zb_some h
  refine zc_Vi (as := []) hX gi (zt_X11_doPersonsLeave (d := d - 1) (by omega) g) zl_X11_581 rfl dX11_told_131 ⟨rfl, rfl, Nat.le_of_ble_eq_true rfl⟩ ⟨by omega, by omega⟩ ?_
  refine zw_if_eq (tgt := 141) hX dX11_told_134 (by decide) (fun c134 => ?_) (fun c134 => ?_)
  · rw [if_pos c134] at h
    refine zw_iconst (v := (0 : Int32)) hX dX11_told_141 (by decide) ?_
    obtain rfl := Option.some.inj h
    exact zw_iret hX hr dX11_told_142 rfl ⟨_, rfl, rfl⟩
  · rw [if_neg c134] at h
    refine zw_iconst (v := (1 : Int32)) hX dX11_told_137 (by decide) ?_
    refine zw_goto (tgt := 142) hX dX11_told_138 (by decide) ?_
    obtain rfl := Option.some.inj h
    exact zw_iret hX hr dX11_told_142 rfl ⟨_, rfl, rfl⟩
set_option maxHeartbeats 4000000 in
set_option maxRecDepth 100000 in
theorem zt_X11_told {l : Launch} {V : zm_V} (hlt : l.stackTraces = false) {N : Nat} {S : zm_S} {out : ((Int32 ⊕ String) × zm_S)} {d : Nat} {a0 : Nat} {i1 : Int32} (hd : 7 ≤ d) (h : zf_X11_told N a0 i1 S = some out) : zm_Met l zk_E V yX11_told (.code yX11_told cX11_told 2 (some .int)) d [.ref a0, .int i1] S 2 12 (zq_i out) (zq_x out) := by
  refine zm_of (by decide +kernel) (Nat.le_of_ble_eq_true rfl) ?_
  intro p e R s m args below meth c hRR hX hr hxt
  have hR : R.frames = d ∧ R.locals = 64 * d := by rw [hRR]; exact ⟨rfl, rfl⟩
  have hX : zm_X p R s m args meth c RX11 "told" cX11_told 2 zk_E V 2 12 := hX
  unfold zf_X11_told at h
  refine zw_sub (lv' := [(0, .ref a0), (1, .int i1)]) (List.forall_mem_cons.mpr ⟨rfl, (List.forall_mem_cons.mpr ⟨rfl, zs_nil⟩)⟩) ?_
  refine zw_iload_n hX dX11_told_0 rfl ?_
  refine zw_iconst (v := (0 : Int32)) hX dX11_told_1 (by decide) ?_
  refine zw_bipush (v := (8 : Int32)) hX dX11_told_2 (by decide) ?_
  obtain ⟨r2, g, h⟩ := zb_some h
  refine zc_Si (as := [.int i1, .int (0 : Int32), .int (8 : Int32)]) hX (zt_X11_isWithin (d := d - 1) (by omega) g) zl_X11_133 dX11_told_4 ⟨rfl, rfl, Nat.le_of_ble_eq_true rfl⟩ ⟨by omega, by omega⟩ ?_
  obtain ⟨r, g, h⟩ := zb_some h
  refine zc_S (as := [.int r2.1]) hX (zt_X11_needArgument hlt (d := d - 1) (by omega) g) zl_X11_100 dX11_told_7 ⟨rfl, rfl, Nat.le_of_ble_eq_true rfl⟩ ⟨by omega, by omega⟩ ⟨by omega, by omega⟩ ?_ ?_
  · rintro _ S4 ⟨⟨u3, rfl⟩, rfl⟩
    try dsimp only at h
    refine zw_aload_n hX dX11_told_10 rfl ?_
    obtain ⟨v5, g, h⟩ := zb_some h
    refine zw_geti hX zl_X11_104 dX11_told_11 g ?_
    obtain ⟨r, g, h⟩ := zb_some h
    refine zc_S (as := [.int v5]) hX (zt_X11_needState hlt (d := d - 1) (by omega) g) zl_X11_112 dX11_told_14 ⟨rfl, rfl, Nat.le_of_ble_eq_true rfl⟩ ⟨by omega, by omega⟩ ⟨by omega, by omega⟩ ?_ ?_
    · rintro _ S7 ⟨⟨u6, rfl⟩, rfl⟩
      try dsimp only at h
      refine zw_iload_n hX dX11_told_17 rfl ?_
      by_cases c18_0 : (i1).toInt = 0
      · rw [if_pos c18_0] at h
        refine zw_tableIn (off := 46) (tgt := 64) hX dX11_told_18 (by rw [c18_0]; decide) (by rw [c18_0]; decide) (by rw [c18_0]; decide) (by decide) ?_
        refine zw_sub (lv' := [(0, .ref a0)]) (List.forall_mem_cons.mpr ⟨rfl, zs_nil⟩) ?_
        exact zt_X11_told_J64 hlt hxt hX hr hR hd ⟨by omega, by omega⟩ h
      rw [if_neg c18_0] at h
      by_cases c18_1 : (i1).toInt = 1
      · rw [if_pos c18_1] at h
        refine zw_tableIn (off := 54) (tgt := 72) hX dX11_told_18 (by rw [c18_1]; decide) (by rw [c18_1]; decide) (by rw [c18_1]; decide) (by decide) ?_
        refine zw_sub (lv' := [(0, .ref a0)]) (List.forall_mem_cons.mpr ⟨rfl, zs_nil⟩) ?_
        exact zt_X11_told_J72 hlt hxt hX hr hR hd ⟨by omega, by omega⟩ h
      rw [if_neg c18_1] at h
      by_cases c18_2 : (i1).toInt = 2
      · rw [if_pos c18_2] at h
        refine zw_tableIn (off := 62) (tgt := 80) hX dX11_told_18 (by rw [c18_2]; decide) (by rw [c18_2]; decide) (by rw [c18_2]; decide) (by decide) ?_
        refine zw_sub (lv' := [(0, .ref a0)]) (List.forall_mem_cons.mpr ⟨rfl, zs_nil⟩) ?_
        exact zt_X11_told_J80 hlt hxt hX hr hR hd ⟨by omega, by omega⟩ h
      rw [if_neg c18_2] at h
      by_cases c18_3 : (i1).toInt = 3
      · rw [if_pos c18_3] at h
        refine zw_tableIn (off := 70) (tgt := 88) hX dX11_told_18 (by rw [c18_3]; decide) (by rw [c18_3]; decide) (by rw [c18_3]; decide) (by decide) ?_
        refine zw_sub (lv' := [(0, .ref a0)]) (List.forall_mem_cons.mpr ⟨rfl, zs_nil⟩) ?_
        exact zt_X11_told_J88 hlt hxt hX hr hR hd ⟨by omega, by omega⟩ h
      rw [if_neg c18_3] at h
      by_cases c18_4 : (i1).toInt = 4
      · rw [if_pos c18_4] at h
        refine zw_tableIn (off := 78) (tgt := 96) hX dX11_told_18 (by rw [c18_4]; decide) (by rw [c18_4]; decide) (by rw [c18_4]; decide) (by decide) ?_
        refine zw_sub (lv' := [(0, .ref a0)]) (List.forall_mem_cons.mpr ⟨rfl, zs_nil⟩) ?_
        exact zt_X11_told_J96 hlt hxt hX hr hR hd ⟨by omega, by omega⟩ h
      rw [if_neg c18_4] at h
      by_cases c18_5 : (i1).toInt = 5
      · rw [if_pos c18_5] at h
        refine zw_tableIn (off := 86) (tgt := 104) hX dX11_told_18 (by rw [c18_5]; decide) (by rw [c18_5]; decide) (by rw [c18_5]; decide) (by decide) ?_
        refine zw_sub (lv' := [(0, .ref a0)]) (List.forall_mem_cons.mpr ⟨rfl, zs_nil⟩) ?_
        exact zt_X11_told_J104 hlt hxt hX hr hR hd ⟨by omega, by omega⟩ h
      rw [if_neg c18_5] at h
      by_cases c18_6 : (i1).toInt = 6
      · rw [if_pos c18_6] at h
        refine zw_tableIn (off := 99) (tgt := 117) hX dX11_told_18 (by rw [c18_6]; decide) (by rw [c18_6]; decide) (by rw [c18_6]; decide) (by decide) ?_
        refine zw_sub (lv' := [(0, .ref a0)]) (List.forall_mem_cons.mpr ⟨rfl, zs_nil⟩) ?_
        exact zt_X11_told_J117 hlt hxt hX hr hR hd ⟨by omega, by omega⟩ h
      rw [if_neg c18_6] at h
      by_cases c18_7 : (i1).toInt = 7
      · rw [if_pos c18_7] at h
        refine zw_tableIn (off := 112) (tgt := 130) hX dX11_told_18 (by rw [c18_7]; decide) (by rw [c18_7]; decide) (by rw [c18_7]; decide) (by decide) ?_
        refine zw_sub (lv' := [(0, .ref a0)]) (List.forall_mem_cons.mpr ⟨rfl, zs_nil⟩) ?_
        exact zt_X11_told_J130 hlt hxt hX hr hR hd ⟨by omega, by omega⟩ h
      rw [if_neg c18_7] at h
      refine zw_tableOut (tgt := 143) hX dX11_told_18 (by omega) (by decide) ?_
      refine zw_aload_n hX dX11_told_143 rfl ?_
      obtain ⟨v8, g, h⟩ := zb_some h
      refine zw_geti hX zl_X11_312 dX11_told_144 g ?_
      obtain rfl := Option.some.inj h
      exact zw_iret hX hr dX11_told_147 rfl ⟨_, rfl, rfl⟩
    · rintro X S9 rfl
      obtain rfl := Option.some.inj h
      exact zx_out hX hxt rfl
  · rintro X S9 rfl
    obtain rfl := Option.some.inj h
    exact zx_out hX hxt rfl
set_option maxHeartbeats 4000000 in
set_option maxRecDepth 100000 in
theorem zt_L_line {l : Launch} {V : zm_V} (hlt : l.stackTraces = false) {N : Nat} {S : zm_S} {out : (Int32 × zm_S)} {d : Nat} {a0 : Nat} {i1 : Int32} {i2 : Int32} {i3 : Int32} {i4 : Int32} {a5 : Nat} (hd : 8 ≤ d) (h : zf_L_line N a0 i1 i2 i3 i4 a5 S = some out) : zm_Met l zk_E V yL_line (.codeWith yL_line cL_line 7 (some .int) [(0, 14, 17, 13), (0, 14, 21, 15)]) d [.ref a0, .int i1, .int i2, .int i3, .int i4, .ref a5] S 3 18 (zo_i out) zo_x := by
  refine zm_ofH (by decide +kernel) (Nat.le_of_ble_eq_true rfl) ?_
  intro p e R s m args below meth c hRR hX hr hxt
  have hR : R.frames = d ∧ R.locals = 64 * d := by rw [hRR]; exact ⟨rfl, rfl⟩
  have hX : zm_X p R s m args meth c RL "line" cL_line 7 zk_E V 3 18 := hX
  unfold zf_L_line at h
  refine zw_sub (lv' := [(0, .ref a0), (1, .int i1), (2, .int i2), (3, .int i3), (4, .int i4), (5, .ref a5)]) (List.forall_mem_cons.mpr ⟨rfl, (List.forall_mem_cons.mpr ⟨rfl, (List.forall_mem_cons.mpr ⟨rfl, (List.forall_mem_cons.mpr ⟨rfl, (List.forall_mem_cons.mpr ⟨rfl, (List.forall_mem_cons.mpr ⟨rfl, zs_nil⟩)⟩)⟩)⟩)⟩)⟩) ?_
  refine zw_aload hX dL_line_0 rfl ?_
  refine zw_iconst (v := (0 : Int32)) hX dL_line_2 (by decide) ?_
  refine zw_aload_n hX dL_line_3 rfl ?_
  refine zw_iload_n hX dL_line_4 rfl ?_
  refine zw_iload_n hX dL_line_5 rfl ?_
  refine zw_iload_n hX dL_line_6 rfl ?_
  refine zw_iload hX dL_line_7 rfl ?_
  obtain ⟨_, gi, h⟩ := zb_some h
  obtain ⟨r, g, h⟩ := zb_some h
  refine zc_V (as := [.int i1, .int i2, .int i3, .int i4]) hX (zt_X11_line hlt (d := d - 1) (by omega) g) zl_L_7 rfl dL_line_9 (zi_spec gi) ⟨rfl, rfl, Nat.le_of_ble_eq_true rfl⟩ ⟨by omega, by omega⟩ ⟨by omega, by omega⟩ ?_ ?_
  · rintro _ S2 ⟨v1, rfl, rfl⟩
    try dsimp only at h
    refine zw_i2l hX dL_line_12 ?_
    obtain ⟨S3, g, h⟩ := zb_some h
    refine zw_sl hX dL_line_13 g ?_
    refine zw_goto (tgt := 25) hX dL_line_14 (by decide) ?_
    refine zw_iconst (v := (0 : Int32)) hX dL_line_25 (by decide) ?_
    obtain rfl := Option.some.inj h
    exact zw_iret hX hr dL_line_26 rfl ⟨rfl, rfl⟩
  · rintro X S9 rfl
    try dsimp only at h
    by_cases cx0 : X = "java/lang/IllegalArgumentException"
    · rw [if_pos cx0] at h
      subst cx0
      refine zx_catch (name := "java/lang/IllegalArgumentException") (i := 6) (h9 := 17) (k9 := 2) hX [] { startPc := 0, endPc := 14, handlerPc := 17, catchType := 13 } [{ startPc := 0, endPc := 14, handlerPc := 21, catchType := 15 }] hxt (fun _ h => absurd h List.not_mem_nil) (by decide) (by decide) zl_L_c13 zl_cast_IllegalArgumentException rfl (by decide) (Or.inl dL_line_17) (by rw [dL_line_17]; rfl) ?_
      refine zw_sub (lv' := []) zs_nil ?_
      refine zw_iconst (v := (1 : Int32)) hX dL_line_19 (by decide) ?_
      obtain rfl := Option.some.inj h
      exact zw_iret hX hr dL_line_20 rfl ⟨rfl, rfl⟩
    · rw [if_neg cx0] at h
      by_cases cx1 : X = "java/lang/IllegalStateException"
      · rw [if_pos cx1] at h
        subst cx1
        refine zx_catch (name := "java/lang/IllegalStateException") (i := 6) (h9 := 21) (k9 := 2) hX [{ startPc := 0, endPc := 14, handlerPc := 17, catchType := 13 }] { startPc := 0, endPc := 14, handlerPc := 21, catchType := 15 } [] hxt (List.forall_mem_cons.mpr ⟨Or.inr ⟨by decide, _, zl_L_c13, zx_nc hX⟩, fun _ h => absurd h List.not_mem_nil⟩) (by decide) (by decide) zl_L_c15 zl_cast_IllegalStateException rfl (by decide) (Or.inl dL_line_21) (by rw [dL_line_21]; rfl) ?_
        refine zw_sub (lv' := []) zs_nil ?_
        refine zw_iconst (v := (2 : Int32)) hX dL_line_23 (by decide) ?_
        obtain rfl := Option.some.inj h
        exact zw_iret hX hr dL_line_24 rfl ⟨rfl, rfl⟩
      · rw [if_neg cx1] at h
        cases h
set_option maxHeartbeats 4000000 in
set_option maxRecDepth 100000 in
theorem zt_L_move_J18 {p : Program} {l : Launch} {e : Env} {R : Room} {s : State} {m : MethodId} {args : Array Value} {below : List Frame} {meth : Method} {c : Code} {V : zm_V} {mc ms d rc rs : Nat} (hlt : l.stackTraces = false) (hxt : c.exceptionTable.toList = tableOf [(0, 19, 22, 13), (0, 19, 26, 15)]) (hX : zm_X p R s m args meth c RL "move" cL_move 6 zk_E V mc ms) (hr : meth.sig.returnType = (some .int)) (hR : R.frames = d ∧ R.locals = 64 * d) (hd : 8 ≤ d) {N : Nat} {t0 : Nat} {t1 : Int32} {t2 : Int64} {out : (Int32 × zm_S)} (hc : 0 ≤ rc ∧ 0 ≤ rs) {S : zm_S} (h : zf_L_move_J18 N t0 t1 t2 S = some out) : zw p l e R s m args below meth c (vx_MQ below (zm_Qc zk_E V (zo_i out)) (zm_XC zk_E V zo_x) args s mc ms (fun q => V.2.2.2.1 ≤ q)) 6 zk_E V mc ms 18 [] [.long t2, .int t1, .ref t0] S rc rs := by
  unfold zf_L_move_J18 at h
  obtain ⟨S3, g, h⟩ := zb_some h
  refine zw_sl hX dL_move_18 g ?_
  refine zw_goto (tgt := 30) hX dL_move_19 (by decide) ?_
  refine zw_iconst (v := (0 : Int32)) hX dL_move_30 (by decide) ?_
  obtain rfl := Option.some.inj h
  exact zw_iret hX hr dL_move_31 rfl ⟨rfl, rfl⟩
set_option maxHeartbeats 4000000 in
set_option maxRecDepth 100000 in
theorem zt_L_move {l : Launch} {V : zm_V} (hlt : l.stackTraces = false) {N : Nat} {S : zm_S} {out : (Int32 × zm_S)} {d : Nat} {a0 : Nat} {i1 : Int32} {i2 : Int32} {i3 : Int32} {a4 : Nat} (hd : 8 ≤ d) (h : zf_L_move N a0 i1 i2 i3 a4 S = some out) : zm_Met l zk_E V yL_move (.codeWith yL_move cL_move 6 (some .int) [(0, 19, 22, 13), (0, 19, 26, 15)]) d [.ref a0, .int i1, .int i2, .int i3, .ref a4] S 2 12 (zo_i out) zo_x := by
  refine zm_ofH (by decide +kernel) (Nat.le_of_ble_eq_true rfl) ?_
  intro p e R s m args below meth c hRR hX hr hxt
  have hR : R.frames = d ∧ R.locals = 64 * d := by rw [hRR]; exact ⟨rfl, rfl⟩
  have hX : zm_X p R s m args meth c RL "move" cL_move 6 zk_E V 2 12 := hX
  unfold zf_L_move at h
  refine zw_sub (lv' := [(0, .ref a0), (1, .int i1), (2, .int i2), (3, .int i3), (4, .ref a4)]) (List.forall_mem_cons.mpr ⟨rfl, (List.forall_mem_cons.mpr ⟨rfl, (List.forall_mem_cons.mpr ⟨rfl, (List.forall_mem_cons.mpr ⟨rfl, (List.forall_mem_cons.mpr ⟨rfl, zs_nil⟩)⟩)⟩)⟩)⟩) ?_
  refine zw_aload hX dL_move_0 rfl ?_
  refine zw_iconst (v := (0 : Int32)) hX dL_move_2 (by decide) ?_
  refine zw_aload_n hX dL_move_3 rfl ?_
  refine zw_iload_n hX dL_move_4 rfl ?_
  refine zw_iload_n hX dL_move_5 rfl ?_
  refine zw_iload_n hX dL_move_6 rfl ?_
  obtain ⟨_, gi, h⟩ := zb_some h
  obtain ⟨r, g, h⟩ := zb_some h
  refine zc_V (as := [.int i1, .int i2, .int i3]) hX (zt_X11_move hlt (d := d - 1) (by omega) g) zl_L_17 rfl dL_move_7 (zi_spec gi) ⟨rfl, rfl, Nat.le_of_ble_eq_true rfl⟩ ⟨by omega, by omega⟩ ⟨by omega, by omega⟩ ?_ ?_
  · rintro _ S2 ⟨v1, rfl, rfl⟩
    try dsimp only at h
    refine zw_if_eq (tgt := 17) hX dL_move_10 (by decide) (fun c10 => ?_) (fun c10 => ?_)
    · rw [if_pos c10] at h
      refine zw_lconst (v := (0 : Int64)) hX dL_move_17 (by decide) ?_
      refine zw_sub (lv' := []) zs_nil ?_
      exact zt_L_move_J18 hlt hxt hX hr hR hd ⟨by omega, by omega⟩ h
    · rw [if_neg c10] at h
      refine zw_lconst (v := (1 : Int64)) hX dL_move_13 (by decide) ?_
      refine zw_goto (tgt := 18) hX dL_move_14 (by decide) ?_
      refine zw_sub (lv' := []) zs_nil ?_
      exact zt_L_move_J18 hlt hxt hX hr hR hd ⟨by omega, by omega⟩ h
  · rintro X S9 rfl
    try dsimp only at h
    by_cases cx0 : X = "java/lang/IllegalArgumentException"
    · rw [if_pos cx0] at h
      subst cx0
      refine zx_catch (name := "java/lang/IllegalArgumentException") (i := 5) (h9 := 22) (k9 := 2) hX [] { startPc := 0, endPc := 19, handlerPc := 22, catchType := 13 } [{ startPc := 0, endPc := 19, handlerPc := 26, catchType := 15 }] hxt (fun _ h => absurd h List.not_mem_nil) (by decide) (by decide) zl_L_c13 zl_cast_IllegalArgumentException rfl (by decide) (Or.inl dL_move_22) (by rw [dL_move_22]; rfl) ?_
      refine zw_sub (lv' := []) zs_nil ?_
      refine zw_iconst (v := (1 : Int32)) hX dL_move_24 (by decide) ?_
      obtain rfl := Option.some.inj h
      exact zw_iret hX hr dL_move_25 rfl ⟨rfl, rfl⟩
    · rw [if_neg cx0] at h
      by_cases cx1 : X = "java/lang/IllegalStateException"
      · rw [if_pos cx1] at h
        subst cx1
        refine zx_catch (name := "java/lang/IllegalStateException") (i := 5) (h9 := 26) (k9 := 2) hX [{ startPc := 0, endPc := 19, handlerPc := 22, catchType := 13 }] { startPc := 0, endPc := 19, handlerPc := 26, catchType := 15 } [] hxt (List.forall_mem_cons.mpr ⟨Or.inr ⟨by decide, _, zl_L_c13, zx_nc hX⟩, fun _ h => absurd h List.not_mem_nil⟩) (by decide) (by decide) zl_L_c15 zl_cast_IllegalStateException rfl (by decide) (Or.inl dL_move_26) (by rw [dL_move_26]; rfl) ?_
        refine zw_sub (lv' := []) zs_nil ?_
        refine zw_iconst (v := (2 : Int32)) hX dL_move_28 (by decide) ?_
        obtain rfl := Option.some.inj h
        exact zw_iret hX hr dL_move_29 rfl ⟨rfl, rfl⟩
      · rw [if_neg cx1] at h
        cases h
set_option maxHeartbeats 4000000 in
set_option maxRecDepth 100000 in
theorem zt_L_door {l : Launch} {V : zm_V} (hlt : l.stackTraces = false) {N : Nat} {S : zm_S} {out : (Int32 × zm_S)} {d : Nat} {a0 : Nat} {i1 : Int32} {i2 : Int32} {i3 : Int32} {i4 : Int32} {a5 : Nat} (hd : 8 ≤ d) (h : zf_L_door N a0 i1 i2 i3 i4 a5 S = some out) : zm_Met l zk_E V yL_door (.codeWith yL_door cL_door 7 (some .int) [(0, 14, 17, 13), (0, 14, 21, 15)]) d [.ref a0, .int i1, .int i2, .int i3, .int i4, .ref a5] S 3 18 (zo_i out) zo_x := by
  refine zm_ofH (by decide +kernel) (Nat.le_of_ble_eq_true rfl) ?_
  intro p e R s m args below meth c hRR hX hr hxt
  have hR : R.frames = d ∧ R.locals = 64 * d := by rw [hRR]; exact ⟨rfl, rfl⟩
  have hX : zm_X p R s m args meth c RL "door" cL_door 7 zk_E V 3 18 := hX
  unfold zf_L_door at h
  refine zw_sub (lv' := [(0, .ref a0), (1, .int i1), (2, .int i2), (3, .int i3), (4, .int i4), (5, .ref a5)]) (List.forall_mem_cons.mpr ⟨rfl, (List.forall_mem_cons.mpr ⟨rfl, (List.forall_mem_cons.mpr ⟨rfl, (List.forall_mem_cons.mpr ⟨rfl, (List.forall_mem_cons.mpr ⟨rfl, (List.forall_mem_cons.mpr ⟨rfl, zs_nil⟩)⟩)⟩)⟩)⟩)⟩) ?_
  refine zw_aload hX dL_door_0 rfl ?_
  refine zw_iconst (v := (0 : Int32)) hX dL_door_2 (by decide) ?_
  refine zw_aload_n hX dL_door_3 rfl ?_
  refine zw_iload_n hX dL_door_4 rfl ?_
  refine zw_iload_n hX dL_door_5 rfl ?_
  refine zw_iload_n hX dL_door_6 rfl ?_
  refine zw_iload hX dL_door_7 rfl ?_
  obtain ⟨_, gi, h⟩ := zb_some h
  obtain ⟨r, g, h⟩ := zb_some h
  refine zc_V (as := [.int i1, .int i2, .int i3, .int i4]) hX (zt_X11_door hlt (d := d - 1) (by omega) g) zl_L_21 rfl dL_door_9 (zi_spec gi) ⟨rfl, rfl, Nat.le_of_ble_eq_true rfl⟩ ⟨by omega, by omega⟩ ⟨by omega, by omega⟩ ?_ ?_
  · rintro _ S2 ⟨v1, rfl, rfl⟩
    try dsimp only at h
    refine zw_i2l hX dL_door_12 ?_
    obtain ⟨S3, g, h⟩ := zb_some h
    refine zw_sl hX dL_door_13 g ?_
    refine zw_goto (tgt := 25) hX dL_door_14 (by decide) ?_
    refine zw_iconst (v := (0 : Int32)) hX dL_door_25 (by decide) ?_
    obtain rfl := Option.some.inj h
    exact zw_iret hX hr dL_door_26 rfl ⟨rfl, rfl⟩
  · rintro X S9 rfl
    try dsimp only at h
    by_cases cx0 : X = "java/lang/IllegalArgumentException"
    · rw [if_pos cx0] at h
      subst cx0
      refine zx_catch (name := "java/lang/IllegalArgumentException") (i := 6) (h9 := 17) (k9 := 2) hX [] { startPc := 0, endPc := 14, handlerPc := 17, catchType := 13 } [{ startPc := 0, endPc := 14, handlerPc := 21, catchType := 15 }] hxt (fun _ h => absurd h List.not_mem_nil) (by decide) (by decide) zl_L_c13 zl_cast_IllegalArgumentException rfl (by decide) (Or.inl dL_door_17) (by rw [dL_door_17]; rfl) ?_
      refine zw_sub (lv' := []) zs_nil ?_
      refine zw_iconst (v := (1 : Int32)) hX dL_door_19 (by decide) ?_
      obtain rfl := Option.some.inj h
      exact zw_iret hX hr dL_door_20 rfl ⟨rfl, rfl⟩
    · rw [if_neg cx0] at h
      by_cases cx1 : X = "java/lang/IllegalStateException"
      · rw [if_pos cx1] at h
        subst cx1
        refine zx_catch (name := "java/lang/IllegalStateException") (i := 6) (h9 := 21) (k9 := 2) hX [{ startPc := 0, endPc := 14, handlerPc := 17, catchType := 13 }] { startPc := 0, endPc := 14, handlerPc := 21, catchType := 15 } [] hxt (List.forall_mem_cons.mpr ⟨Or.inr ⟨by decide, _, zl_L_c13, zx_nc hX⟩, fun _ h => absurd h List.not_mem_nil⟩) (by decide) (by decide) zl_L_c15 zl_cast_IllegalStateException rfl (by decide) (Or.inl dL_door_21) (by rw [dL_door_21]; rfl) ?_
        refine zw_sub (lv' := []) zs_nil ?_
        refine zw_iconst (v := (2 : Int32)) hX dL_door_23 (by decide) ?_
        obtain rfl := Option.some.inj h
        exact zw_iret hX hr dL_door_24 rfl ⟨rfl, rfl⟩
      · rw [if_neg cx1] at h
        cases h
set_option maxHeartbeats 4000000 in
set_option maxRecDepth 100000 in
theorem zt_L_find {l : Launch} {V : zm_V} (hlt : l.stackTraces = false) {N : Nat} {S : zm_S} {out : (Int32 × zm_S)} {d : Nat} {a0 : Nat} {a1 : Nat} (hd : 8 ≤ d) (h : zf_L_find N a0 a1 S = some out) : zm_Met l zk_E V yL_find (.codeWith yL_find cL_find 3 (some .int) [(0, 8, 11, 15)]) d [.ref a0, .ref a1] S 1 6 (zo_i out) zo_x := by
  refine zm_ofH (by decide +kernel) (Nat.le_of_ble_eq_true rfl) ?_
  intro p e R s m args below meth c hRR hX hr hxt
  have hR : R.frames = d ∧ R.locals = 64 * d := by rw [hRR]; exact ⟨rfl, rfl⟩
  have hX : zm_X p R s m args meth c RL "find" cL_find 3 zk_E V 1 6 := hX
  unfold zf_L_find at h
  refine zw_sub (lv' := [(0, .ref a0), (1, .ref a1)]) (List.forall_mem_cons.mpr ⟨rfl, (List.forall_mem_cons.mpr ⟨rfl, zs_nil⟩)⟩) ?_
  refine zw_aload_n hX dL_find_0 rfl ?_
  refine zw_iconst (v := (0 : Int32)) hX dL_find_1 (by decide) ?_
  refine zw_aload_n hX dL_find_2 rfl ?_
  obtain ⟨_, gi, h⟩ := zb_some h
  obtain ⟨r, g, h⟩ := zb_some h
  refine zc_V (as := []) hX (zt_X11_find hlt (d := d - 1) (by omega) g) zl_L_24 rfl dL_find_3 (zi_spec gi) ⟨rfl, rfl, Nat.le_of_ble_eq_true rfl⟩ ⟨by omega, by omega⟩ ⟨by omega, by omega⟩ ?_ ?_
  · rintro _ S2 ⟨v1, rfl, rfl⟩
    try dsimp only at h
    refine zw_i2l hX dL_find_6 ?_
    obtain ⟨S3, g, h⟩ := zb_some h
    refine zw_sl hX dL_find_7 g ?_
    refine zw_goto (tgt := 14) hX dL_find_8 (by decide) ?_
    refine zw_iconst (v := (0 : Int32)) hX dL_find_14 (by decide) ?_
    obtain rfl := Option.some.inj h
    exact zw_iret hX hr dL_find_15 rfl ⟨rfl, rfl⟩
  · rintro X S9 rfl
    try dsimp only at h
    by_cases cx0 : X = "java/lang/IllegalStateException"
    · rw [if_pos cx0] at h
      subst cx0
      refine zx_catch (name := "java/lang/IllegalStateException") (i := 2) (h9 := 11) (k9 := 1) hX [] { startPc := 0, endPc := 8, handlerPc := 11, catchType := 15 } [] hxt (fun _ h => absurd h List.not_mem_nil) (by decide) (by decide) zl_L_c15 zl_cast_IllegalStateException rfl (by decide) (Or.inr ⟨2, rfl, dL_find_11⟩) (by rw [dL_find_11]; rfl) ?_
      refine zw_sub (lv' := []) zs_nil ?_
      refine zw_iconst (v := (1 : Int32)) hX dL_find_12 (by decide) ?_
      obtain rfl := Option.some.inj h
      exact zw_iret hX hr dL_find_13 rfl ⟨rfl, rfl⟩
    · rw [if_neg cx0] at h
      cases h
set_option maxHeartbeats 4000000 in
set_option maxRecDepth 100000 in
theorem zt_L_count {l : Launch} {V : zm_V} (hlt : l.stackTraces = false) {N : Nat} {S : zm_S} {out : (Int32 × zm_S)} {d : Nat} {a0 : Nat} {i1 : Int32} {a2 : Nat} (hd : 8 ≤ d) (h : zf_L_count N a0 i1 a2 S = some out) : zm_Met l zk_E V yL_count (.codeWith yL_count cL_count 4 (some .int) [(0, 9, 12, 13), (0, 9, 15, 15)]) d [.ref a0, .int i1, .ref a2] S 2 12 (zo_i out) zo_x := by
  refine zm_ofH (by decide +kernel) (Nat.le_of_ble_eq_true rfl) ?_
  intro p e R s m args below meth c hRR hX hr hxt
  have hR : R.frames = d ∧ R.locals = 64 * d := by rw [hRR]; exact ⟨rfl, rfl⟩
  have hX : zm_X p R s m args meth c RL "count" cL_count 4 zk_E V 2 12 := hX
  unfold zf_L_count at h
  refine zw_sub (lv' := [(0, .ref a0), (1, .int i1), (2, .ref a2)]) (List.forall_mem_cons.mpr ⟨rfl, (List.forall_mem_cons.mpr ⟨rfl, (List.forall_mem_cons.mpr ⟨rfl, zs_nil⟩)⟩)⟩) ?_
  refine zw_aload_n hX dL_count_0 rfl ?_
  refine zw_iconst (v := (0 : Int32)) hX dL_count_1 (by decide) ?_
  refine zw_aload_n hX dL_count_2 rfl ?_
  refine zw_iload_n hX dL_count_3 rfl ?_
  obtain ⟨_, gi, h⟩ := zb_some h
  obtain ⟨r, g, h⟩ := zb_some h
  refine zc_V (as := [.int i1]) hX (zt_X11_count hlt (d := d - 1) (by omega) g) zl_L_28 rfl dL_count_4 (zi_spec gi) ⟨rfl, rfl, Nat.le_of_ble_eq_true rfl⟩ ⟨by omega, by omega⟩ ⟨by omega, by omega⟩ ?_ ?_
  · rintro _ S2 ⟨v1, rfl, rfl⟩
    try dsimp only at h
    refine zw_i2l hX dL_count_7 ?_
    obtain ⟨S3, g, h⟩ := zb_some h
    refine zw_sl hX dL_count_8 g ?_
    refine zw_goto (tgt := 18) hX dL_count_9 (by decide) ?_
    refine zw_iconst (v := (0 : Int32)) hX dL_count_18 (by decide) ?_
    obtain rfl := Option.some.inj h
    exact zw_iret hX hr dL_count_19 rfl ⟨rfl, rfl⟩
  · rintro X S9 rfl
    try dsimp only at h
    by_cases cx0 : X = "java/lang/IllegalArgumentException"
    · rw [if_pos cx0] at h
      subst cx0
      refine zx_catch (name := "java/lang/IllegalArgumentException") (i := 3) (h9 := 12) (k9 := 1) hX [] { startPc := 0, endPc := 9, handlerPc := 12, catchType := 13 } [{ startPc := 0, endPc := 9, handlerPc := 15, catchType := 15 }] hxt (fun _ h => absurd h List.not_mem_nil) (by decide) (by decide) zl_L_c13 zl_cast_IllegalArgumentException rfl (by decide) (Or.inr ⟨3, rfl, dL_count_12⟩) (by rw [dL_count_12]; rfl) ?_
      refine zw_sub (lv' := []) zs_nil ?_
      refine zw_iconst (v := (1 : Int32)) hX dL_count_13 (by decide) ?_
      obtain rfl := Option.some.inj h
      exact zw_iret hX hr dL_count_14 rfl ⟨rfl, rfl⟩
    · rw [if_neg cx0] at h
      by_cases cx1 : X = "java/lang/IllegalStateException"
      · rw [if_pos cx1] at h
        subst cx1
        refine zx_catch (name := "java/lang/IllegalStateException") (i := 3) (h9 := 15) (k9 := 1) hX [{ startPc := 0, endPc := 9, handlerPc := 12, catchType := 13 }] { startPc := 0, endPc := 9, handlerPc := 15, catchType := 15 } [] hxt (List.forall_mem_cons.mpr ⟨Or.inr ⟨by decide, _, zl_L_c13, zx_nc hX⟩, fun _ h => absurd h List.not_mem_nil⟩) (by decide) (by decide) zl_L_c15 zl_cast_IllegalStateException rfl (by decide) (Or.inr ⟨3, rfl, dL_count_15⟩) (by rw [dL_count_15]; rfl) ?_
        refine zw_sub (lv' := []) zs_nil ?_
        refine zw_iconst (v := (2 : Int32)) hX dL_count_16 (by decide) ?_
        obtain rfl := Option.some.inj h
        exact zw_iret hX hr dL_count_17 rfl ⟨rfl, rfl⟩
      · rw [if_neg cx1] at h
        cases h
set_option maxHeartbeats 4000000 in
set_option maxRecDepth 100000 in
theorem zt_L_sides {l : Launch} {V : zm_V} (hlt : l.stackTraces = false) {N : Nat} {S : zm_S} {out : (Int32 × zm_S)} {d : Nat} {a0 : Nat} {i1 : Int32} {i2 : Int32} {a3 : Nat} (hd : 8 ≤ d) (h : zf_L_sides N a0 i1 i2 a3 S = some out) : zm_Met l zk_E V yL_sides (.codeWith yL_sides cL_sides 5 (some .int) [(0, 10, 13, 13), (0, 10, 17, 15)]) d [.ref a0, .int i1, .int i2, .ref a3] S 2 12 (zo_i out) zo_x := by
  refine zm_ofH (by decide +kernel) (Nat.le_of_ble_eq_true rfl) ?_
  intro p e R s m args below meth c hRR hX hr hxt
  have hR : R.frames = d ∧ R.locals = 64 * d := by rw [hRR]; exact ⟨rfl, rfl⟩
  have hX : zm_X p R s m args meth c RL "sides" cL_sides 5 zk_E V 2 12 := hX
  unfold zf_L_sides at h
  refine zw_sub (lv' := [(0, .ref a0), (1, .int i1), (2, .int i2), (3, .ref a3)]) (List.forall_mem_cons.mpr ⟨rfl, (List.forall_mem_cons.mpr ⟨rfl, (List.forall_mem_cons.mpr ⟨rfl, (List.forall_mem_cons.mpr ⟨rfl, zs_nil⟩)⟩)⟩)⟩) ?_
  refine zw_aload_n hX dL_sides_0 rfl ?_
  refine zw_iconst (v := (0 : Int32)) hX dL_sides_1 (by decide) ?_
  refine zw_aload_n hX dL_sides_2 rfl ?_
  refine zw_iload_n hX dL_sides_3 rfl ?_
  refine zw_iload_n hX dL_sides_4 rfl ?_
  obtain ⟨_, gi, h⟩ := zb_some h
  obtain ⟨r, g, h⟩ := zb_some h
  refine zc_V (as := [.int i1, .int i2]) hX (zt_X11_sides hlt (d := d - 1) (by omega) g) zl_L_32 rfl dL_sides_5 (zi_spec gi) ⟨rfl, rfl, Nat.le_of_ble_eq_true rfl⟩ ⟨by omega, by omega⟩ ⟨by omega, by omega⟩ ?_ ?_
  · rintro _ S2 ⟨v1, rfl, rfl⟩
    try dsimp only at h
    refine zw_i2l hX dL_sides_8 ?_
    obtain ⟨S3, g, h⟩ := zb_some h
    refine zw_sl hX dL_sides_9 g ?_
    refine zw_goto (tgt := 21) hX dL_sides_10 (by decide) ?_
    refine zw_iconst (v := (0 : Int32)) hX dL_sides_21 (by decide) ?_
    obtain rfl := Option.some.inj h
    exact zw_iret hX hr dL_sides_22 rfl ⟨rfl, rfl⟩
  · rintro X S9 rfl
    try dsimp only at h
    by_cases cx0 : X = "java/lang/IllegalArgumentException"
    · rw [if_pos cx0] at h
      subst cx0
      refine zx_catch (name := "java/lang/IllegalArgumentException") (i := 4) (h9 := 13) (k9 := 2) hX [] { startPc := 0, endPc := 10, handlerPc := 13, catchType := 13 } [{ startPc := 0, endPc := 10, handlerPc := 17, catchType := 15 }] hxt (fun _ h => absurd h List.not_mem_nil) (by decide) (by decide) zl_L_c13 zl_cast_IllegalArgumentException rfl (by decide) (Or.inl dL_sides_13) (by rw [dL_sides_13]; rfl) ?_
      refine zw_sub (lv' := []) zs_nil ?_
      refine zw_iconst (v := (1 : Int32)) hX dL_sides_15 (by decide) ?_
      obtain rfl := Option.some.inj h
      exact zw_iret hX hr dL_sides_16 rfl ⟨rfl, rfl⟩
    · rw [if_neg cx0] at h
      by_cases cx1 : X = "java/lang/IllegalStateException"
      · rw [if_pos cx1] at h
        subst cx1
        refine zx_catch (name := "java/lang/IllegalStateException") (i := 4) (h9 := 17) (k9 := 2) hX [{ startPc := 0, endPc := 10, handlerPc := 13, catchType := 13 }] { startPc := 0, endPc := 10, handlerPc := 17, catchType := 15 } [] hxt (List.forall_mem_cons.mpr ⟨Or.inr ⟨by decide, _, zl_L_c13, zx_nc hX⟩, fun _ h => absurd h List.not_mem_nil⟩) (by decide) (by decide) zl_L_c15 zl_cast_IllegalStateException rfl (by decide) (Or.inl dL_sides_17) (by rw [dL_sides_17]; rfl) ?_
        refine zw_sub (lv' := []) zs_nil ?_
        refine zw_iconst (v := (2 : Int32)) hX dL_sides_19 (by decide) ?_
        obtain rfl := Option.some.inj h
        exact zw_iret hX hr dL_sides_20 rfl ⟨rfl, rfl⟩
      · rw [if_neg cx1] at h
        cases h
set_option maxHeartbeats 4000000 in
set_option maxRecDepth 100000 in
theorem zt_L_side {l : Launch} {V : zm_V} (hlt : l.stackTraces = false) {N : Nat} {S : zm_S} {out : (Int32 × zm_S)} {d : Nat} {a0 : Nat} {i1 : Int32} {i2 : Int32} {i3 : Int32} {i4 : Int32} {a5 : Nat} (hd : 8 ≤ d) (h : zf_L_side N a0 i1 i2 i3 i4 a5 S = some out) : zm_Met l zk_E V yL_side (.codeWith yL_side cL_side 7 (some .int) [(0, 14, 17, 13), (0, 14, 21, 15)]) d [.ref a0, .int i1, .int i2, .int i3, .int i4, .ref a5] S 2 12 (zo_i out) zo_x := by
  refine zm_ofH (by decide +kernel) (Nat.le_of_ble_eq_true rfl) ?_
  intro p e R s m args below meth c hRR hX hr hxt
  have hR : R.frames = d ∧ R.locals = 64 * d := by rw [hRR]; exact ⟨rfl, rfl⟩
  have hX : zm_X p R s m args meth c RL "side" cL_side 7 zk_E V 2 12 := hX
  unfold zf_L_side at h
  refine zw_sub (lv' := [(0, .ref a0), (1, .int i1), (2, .int i2), (3, .int i3), (4, .int i4), (5, .ref a5)]) (List.forall_mem_cons.mpr ⟨rfl, (List.forall_mem_cons.mpr ⟨rfl, (List.forall_mem_cons.mpr ⟨rfl, (List.forall_mem_cons.mpr ⟨rfl, (List.forall_mem_cons.mpr ⟨rfl, (List.forall_mem_cons.mpr ⟨rfl, zs_nil⟩)⟩)⟩)⟩)⟩)⟩) ?_
  refine zw_aload hX dL_side_0 rfl ?_
  refine zw_iconst (v := (0 : Int32)) hX dL_side_2 (by decide) ?_
  refine zw_aload_n hX dL_side_3 rfl ?_
  refine zw_iload_n hX dL_side_4 rfl ?_
  refine zw_iload_n hX dL_side_5 rfl ?_
  refine zw_iload_n hX dL_side_6 rfl ?_
  refine zw_iload hX dL_side_7 rfl ?_
  obtain ⟨_, gi, h⟩ := zb_some h
  obtain ⟨r, g, h⟩ := zb_some h
  refine zc_V (as := [.int i1, .int i2, .int i3, .int i4]) hX (zt_X11_side hlt (d := d - 1) (by omega) g) zl_L_36 rfl dL_side_9 (zi_spec gi) ⟨rfl, rfl, Nat.le_of_ble_eq_true rfl⟩ ⟨by omega, by omega⟩ ⟨by omega, by omega⟩ ?_ ?_
  · rintro _ S2 ⟨v1, rfl, rfl⟩
    try dsimp only at h
    refine zw_i2l hX dL_side_12 ?_
    obtain ⟨S3, g, h⟩ := zb_some h
    refine zw_sl hX dL_side_13 g ?_
    refine zw_goto (tgt := 25) hX dL_side_14 (by decide) ?_
    refine zw_iconst (v := (0 : Int32)) hX dL_side_25 (by decide) ?_
    obtain rfl := Option.some.inj h
    exact zw_iret hX hr dL_side_26 rfl ⟨rfl, rfl⟩
  · rintro X S9 rfl
    try dsimp only at h
    by_cases cx0 : X = "java/lang/IllegalArgumentException"
    · rw [if_pos cx0] at h
      subst cx0
      refine zx_catch (name := "java/lang/IllegalArgumentException") (i := 6) (h9 := 17) (k9 := 2) hX [] { startPc := 0, endPc := 14, handlerPc := 17, catchType := 13 } [{ startPc := 0, endPc := 14, handlerPc := 21, catchType := 15 }] hxt (fun _ h => absurd h List.not_mem_nil) (by decide) (by decide) zl_L_c13 zl_cast_IllegalArgumentException rfl (by decide) (Or.inl dL_side_17) (by rw [dL_side_17]; rfl) ?_
      refine zw_sub (lv' := []) zs_nil ?_
      refine zw_iconst (v := (1 : Int32)) hX dL_side_19 (by decide) ?_
      obtain rfl := Option.some.inj h
      exact zw_iret hX hr dL_side_20 rfl ⟨rfl, rfl⟩
    · rw [if_neg cx0] at h
      by_cases cx1 : X = "java/lang/IllegalStateException"
      · rw [if_pos cx1] at h
        subst cx1
        refine zx_catch (name := "java/lang/IllegalStateException") (i := 6) (h9 := 21) (k9 := 2) hX [{ startPc := 0, endPc := 14, handlerPc := 17, catchType := 13 }] { startPc := 0, endPc := 14, handlerPc := 21, catchType := 15 } [] hxt (List.forall_mem_cons.mpr ⟨Or.inr ⟨by decide, _, zl_L_c13, zx_nc hX⟩, fun _ h => absurd h List.not_mem_nil⟩) (by decide) (by decide) zl_L_c15 zl_cast_IllegalStateException rfl (by decide) (Or.inl dL_side_21) (by rw [dL_side_21]; rfl) ?_
        refine zw_sub (lv' := []) zs_nil ?_
        refine zw_iconst (v := (2 : Int32)) hX dL_side_23 (by decide) ?_
        obtain rfl := Option.some.inj h
        exact zw_iret hX hr dL_side_24 rfl ⟨rfl, rfl⟩
      · rw [if_neg cx1] at h
        cases h
set_option maxHeartbeats 4000000 in
set_option maxRecDepth 100000 in
theorem zt_L_size {l : Launch} {V : zm_V} (hlt : l.stackTraces = false) {N : Nat} {S : zm_S} {out : (Int32 × zm_S)} {d : Nat} {a0 : Nat} {i1 : Int32} {i2 : Int32} {a3 : Nat} (hd : 8 ≤ d) (h : zf_L_size N a0 i1 i2 a3 S = some out) : zm_Met l zk_E V yL_size (.codeWith yL_size cL_size 5 (some .int) [(0, 10, 13, 13), (0, 10, 17, 15)]) d [.ref a0, .int i1, .int i2, .ref a3] S 2 12 (zo_i out) zo_x := by
  refine zm_ofH (by decide +kernel) (Nat.le_of_ble_eq_true rfl) ?_
  intro p e R s m args below meth c hRR hX hr hxt
  have hR : R.frames = d ∧ R.locals = 64 * d := by rw [hRR]; exact ⟨rfl, rfl⟩
  have hX : zm_X p R s m args meth c RL "size" cL_size 5 zk_E V 2 12 := hX
  unfold zf_L_size at h
  refine zw_sub (lv' := [(0, .ref a0), (1, .int i1), (2, .int i2), (3, .ref a3)]) (List.forall_mem_cons.mpr ⟨rfl, (List.forall_mem_cons.mpr ⟨rfl, (List.forall_mem_cons.mpr ⟨rfl, (List.forall_mem_cons.mpr ⟨rfl, zs_nil⟩)⟩)⟩)⟩) ?_
  refine zw_aload_n hX dL_size_0 rfl ?_
  refine zw_iconst (v := (0 : Int32)) hX dL_size_1 (by decide) ?_
  refine zw_aload_n hX dL_size_2 rfl ?_
  refine zw_iload_n hX dL_size_3 rfl ?_
  refine zw_iload_n hX dL_size_4 rfl ?_
  obtain ⟨_, gi, h⟩ := zb_some h
  obtain ⟨r, g, h⟩ := zb_some h
  refine zc_V (as := [.int i1, .int i2]) hX (zt_X11_size hlt (d := d - 1) (by omega) g) zl_L_39 rfl dL_size_5 (zi_spec gi) ⟨rfl, rfl, Nat.le_of_ble_eq_true rfl⟩ ⟨by omega, by omega⟩ ⟨by omega, by omega⟩ ?_ ?_
  · rintro _ S2 ⟨v1, rfl, rfl⟩
    try dsimp only at h
    refine zw_i2l hX dL_size_8 ?_
    obtain ⟨S3, g, h⟩ := zb_some h
    refine zw_sl hX dL_size_9 g ?_
    refine zw_goto (tgt := 21) hX dL_size_10 (by decide) ?_
    refine zw_iconst (v := (0 : Int32)) hX dL_size_21 (by decide) ?_
    obtain rfl := Option.some.inj h
    exact zw_iret hX hr dL_size_22 rfl ⟨rfl, rfl⟩
  · rintro X S9 rfl
    try dsimp only at h
    by_cases cx0 : X = "java/lang/IllegalArgumentException"
    · rw [if_pos cx0] at h
      subst cx0
      refine zx_catch (name := "java/lang/IllegalArgumentException") (i := 4) (h9 := 13) (k9 := 2) hX [] { startPc := 0, endPc := 10, handlerPc := 13, catchType := 13 } [{ startPc := 0, endPc := 10, handlerPc := 17, catchType := 15 }] hxt (fun _ h => absurd h List.not_mem_nil) (by decide) (by decide) zl_L_c13 zl_cast_IllegalArgumentException rfl (by decide) (Or.inl dL_size_13) (by rw [dL_size_13]; rfl) ?_
      refine zw_sub (lv' := []) zs_nil ?_
      refine zw_iconst (v := (1 : Int32)) hX dL_size_15 (by decide) ?_
      obtain rfl := Option.some.inj h
      exact zw_iret hX hr dL_size_16 rfl ⟨rfl, rfl⟩
    · rw [if_neg cx0] at h
      by_cases cx1 : X = "java/lang/IllegalStateException"
      · rw [if_pos cx1] at h
        subst cx1
        refine zx_catch (name := "java/lang/IllegalStateException") (i := 4) (h9 := 17) (k9 := 2) hX [{ startPc := 0, endPc := 10, handlerPc := 13, catchType := 13 }] { startPc := 0, endPc := 10, handlerPc := 17, catchType := 15 } [] hxt (List.forall_mem_cons.mpr ⟨Or.inr ⟨by decide, _, zl_L_c13, zx_nc hX⟩, fun _ h => absurd h List.not_mem_nil⟩) (by decide) (by decide) zl_L_c15 zl_cast_IllegalStateException rfl (by decide) (Or.inl dL_size_17) (by rw [dL_size_17]; rfl) ?_
        refine zw_sub (lv' := []) zs_nil ?_
        refine zw_iconst (v := (2 : Int32)) hX dL_size_19 (by decide) ?_
        obtain rfl := Option.some.inj h
        exact zw_iret hX hr dL_size_20 rfl ⟨rfl, rfl⟩
      · rw [if_neg cx1] at h
        cases h
set_option maxHeartbeats 4000000 in
set_option maxRecDepth 100000 in
theorem zt_L_at {l : Launch} {V : zm_V} (hlt : l.stackTraces = false) {N : Nat} {S : zm_S} {out : (Int32 × zm_S)} {d : Nat} {a0 : Nat} {i1 : Int32} {i2 : Int32} {a3 : Nat} (hd : 8 ≤ d) (h : zf_L_at N a0 i1 i2 a3 S = some out) : zm_Met l zk_E V yL_at (.codeWith yL_at cL_at 5 (some .int) [(0, 10, 13, 13), (0, 10, 17, 15)]) d [.ref a0, .int i1, .int i2, .ref a3] S 2 12 (zo_i out) zo_x := by
  refine zm_ofH (by decide +kernel) (Nat.le_of_ble_eq_true rfl) ?_
  intro p e R s m args below meth c hRR hX hr hxt
  have hR : R.frames = d ∧ R.locals = 64 * d := by rw [hRR]; exact ⟨rfl, rfl⟩
  have hX : zm_X p R s m args meth c RL "at" cL_at 5 zk_E V 2 12 := hX
  unfold zf_L_at at h
  refine zw_sub (lv' := [(0, .ref a0), (1, .int i1), (2, .int i2), (3, .ref a3)]) (List.forall_mem_cons.mpr ⟨rfl, (List.forall_mem_cons.mpr ⟨rfl, (List.forall_mem_cons.mpr ⟨rfl, (List.forall_mem_cons.mpr ⟨rfl, zs_nil⟩)⟩)⟩)⟩) ?_
  refine zw_aload_n hX dL_at_0 rfl ?_
  refine zw_iconst (v := (0 : Int32)) hX dL_at_1 (by decide) ?_
  refine zw_aload_n hX dL_at_2 rfl ?_
  refine zw_iload_n hX dL_at_3 rfl ?_
  refine zw_iload_n hX dL_at_4 rfl ?_
  obtain ⟨_, gi, h⟩ := zb_some h
  obtain ⟨r, g, h⟩ := zb_some h
  refine zc_V (as := [.int i1, .int i2]) hX (zt_X11_at hlt (d := d - 1) (by omega) g) zl_L_42 rfl dL_at_5 (zi_spec gi) ⟨rfl, rfl, Nat.le_of_ble_eq_true rfl⟩ ⟨by omega, by omega⟩ ⟨by omega, by omega⟩ ?_ ?_
  · rintro _ S2 ⟨v1, rfl, rfl⟩
    try dsimp only at h
    refine zw_i2l hX dL_at_8 ?_
    obtain ⟨S3, g, h⟩ := zb_some h
    refine zw_sl hX dL_at_9 g ?_
    refine zw_goto (tgt := 21) hX dL_at_10 (by decide) ?_
    refine zw_iconst (v := (0 : Int32)) hX dL_at_21 (by decide) ?_
    obtain rfl := Option.some.inj h
    exact zw_iret hX hr dL_at_22 rfl ⟨rfl, rfl⟩
  · rintro X S9 rfl
    try dsimp only at h
    by_cases cx0 : X = "java/lang/IllegalArgumentException"
    · rw [if_pos cx0] at h
      subst cx0
      refine zx_catch (name := "java/lang/IllegalArgumentException") (i := 4) (h9 := 13) (k9 := 2) hX [] { startPc := 0, endPc := 10, handlerPc := 13, catchType := 13 } [{ startPc := 0, endPc := 10, handlerPc := 17, catchType := 15 }] hxt (fun _ h => absurd h List.not_mem_nil) (by decide) (by decide) zl_L_c13 zl_cast_IllegalArgumentException rfl (by decide) (Or.inl dL_at_13) (by rw [dL_at_13]; rfl) ?_
      refine zw_sub (lv' := []) zs_nil ?_
      refine zw_iconst (v := (1 : Int32)) hX dL_at_15 (by decide) ?_
      obtain rfl := Option.some.inj h
      exact zw_iret hX hr dL_at_16 rfl ⟨rfl, rfl⟩
    · rw [if_neg cx0] at h
      by_cases cx1 : X = "java/lang/IllegalStateException"
      · rw [if_pos cx1] at h
        subst cx1
        refine zx_catch (name := "java/lang/IllegalStateException") (i := 4) (h9 := 17) (k9 := 2) hX [{ startPc := 0, endPc := 10, handlerPc := 13, catchType := 13 }] { startPc := 0, endPc := 10, handlerPc := 17, catchType := 15 } [] hxt (List.forall_mem_cons.mpr ⟨Or.inr ⟨by decide, _, zl_L_c13, zx_nc hX⟩, fun _ h => absurd h List.not_mem_nil⟩) (by decide) (by decide) zl_L_c15 zl_cast_IllegalStateException rfl (by decide) (Or.inl dL_at_17) (by rw [dL_at_17]; rfl) ?_
        refine zw_sub (lv' := []) zs_nil ?_
        refine zw_iconst (v := (2 : Int32)) hX dL_at_19 (by decide) ?_
        obtain rfl := Option.some.inj h
        exact zw_iret hX hr dL_at_20 rfl ⟨rfl, rfl⟩
      · rw [if_neg cx1] at h
        cases h
set_option maxHeartbeats 4000000 in
set_option maxRecDepth 100000 in
theorem zt_L_between {l : Launch} {V : zm_V} (hlt : l.stackTraces = false) {N : Nat} {S : zm_S} {out : (Int32 × zm_S)} {d : Nat} {a0 : Nat} {i1 : Int32} {i2 : Int32} {a3 : Nat} (hd : 8 ≤ d) (h : zf_L_between N a0 i1 i2 a3 S = some out) : zm_Met l zk_E V yL_between (.codeWith yL_between cL_between 5 (some .int) [(0, 10, 13, 13), (0, 10, 17, 15)]) d [.ref a0, .int i1, .int i2, .ref a3] S 2 12 (zo_i out) zo_x := by
  refine zm_ofH (by decide +kernel) (Nat.le_of_ble_eq_true rfl) ?_
  intro p e R s m args below meth c hRR hX hr hxt
  have hR : R.frames = d ∧ R.locals = 64 * d := by rw [hRR]; exact ⟨rfl, rfl⟩
  have hX : zm_X p R s m args meth c RL "between" cL_between 5 zk_E V 2 12 := hX
  unfold zf_L_between at h
  refine zw_sub (lv' := [(0, .ref a0), (1, .int i1), (2, .int i2), (3, .ref a3)]) (List.forall_mem_cons.mpr ⟨rfl, (List.forall_mem_cons.mpr ⟨rfl, (List.forall_mem_cons.mpr ⟨rfl, (List.forall_mem_cons.mpr ⟨rfl, zs_nil⟩)⟩)⟩)⟩) ?_
  refine zw_aload_n hX dL_between_0 rfl ?_
  refine zw_iconst (v := (0 : Int32)) hX dL_between_1 (by decide) ?_
  refine zw_aload_n hX dL_between_2 rfl ?_
  refine zw_iload_n hX dL_between_3 rfl ?_
  refine zw_iload_n hX dL_between_4 rfl ?_
  obtain ⟨_, gi, h⟩ := zb_some h
  obtain ⟨r, g, h⟩ := zb_some h
  refine zc_V (as := [.int i1, .int i2]) hX (zt_X11_between hlt (d := d - 1) (by omega) g) zl_L_45 rfl dL_between_5 (zi_spec gi) ⟨rfl, rfl, Nat.le_of_ble_eq_true rfl⟩ ⟨by omega, by omega⟩ ⟨by omega, by omega⟩ ?_ ?_
  · rintro _ S2 ⟨v1, rfl, rfl⟩
    try dsimp only at h
    refine zw_i2l hX dL_between_8 ?_
    obtain ⟨S3, g, h⟩ := zb_some h
    refine zw_sl hX dL_between_9 g ?_
    refine zw_goto (tgt := 21) hX dL_between_10 (by decide) ?_
    refine zw_iconst (v := (0 : Int32)) hX dL_between_21 (by decide) ?_
    obtain rfl := Option.some.inj h
    exact zw_iret hX hr dL_between_22 rfl ⟨rfl, rfl⟩
  · rintro X S9 rfl
    try dsimp only at h
    by_cases cx0 : X = "java/lang/IllegalArgumentException"
    · rw [if_pos cx0] at h
      subst cx0
      refine zx_catch (name := "java/lang/IllegalArgumentException") (i := 4) (h9 := 13) (k9 := 2) hX [] { startPc := 0, endPc := 10, handlerPc := 13, catchType := 13 } [{ startPc := 0, endPc := 10, handlerPc := 17, catchType := 15 }] hxt (fun _ h => absurd h List.not_mem_nil) (by decide) (by decide) zl_L_c13 zl_cast_IllegalArgumentException rfl (by decide) (Or.inl dL_between_13) (by rw [dL_between_13]; rfl) ?_
      refine zw_sub (lv' := []) zs_nil ?_
      refine zw_iconst (v := (1 : Int32)) hX dL_between_15 (by decide) ?_
      obtain rfl := Option.some.inj h
      exact zw_iret hX hr dL_between_16 rfl ⟨rfl, rfl⟩
    · rw [if_neg cx0] at h
      by_cases cx1 : X = "java/lang/IllegalStateException"
      · rw [if_pos cx1] at h
        subst cx1
        refine zx_catch (name := "java/lang/IllegalStateException") (i := 4) (h9 := 17) (k9 := 2) hX [{ startPc := 0, endPc := 10, handlerPc := 13, catchType := 13 }] { startPc := 0, endPc := 10, handlerPc := 17, catchType := 15 } [] hxt (List.forall_mem_cons.mpr ⟨Or.inr ⟨by decide, _, zl_L_c13, zx_nc hX⟩, fun _ h => absurd h List.not_mem_nil⟩) (by decide) (by decide) zl_L_c15 zl_cast_IllegalStateException rfl (by decide) (Or.inl dL_between_17) (by rw [dL_between_17]; rfl) ?_
        refine zw_sub (lv' := []) zs_nil ?_
        refine zw_iconst (v := (2 : Int32)) hX dL_between_19 (by decide) ?_
        obtain rfl := Option.some.inj h
        exact zw_iret hX hr dL_between_20 rfl ⟨rfl, rfl⟩
      · rw [if_neg cx1] at h
        cases h
set_option maxHeartbeats 4000000 in
set_option maxRecDepth 100000 in
theorem zt_L_way {l : Launch} {V : zm_V} (hlt : l.stackTraces = false) {N : Nat} {S : zm_S} {out : (Int32 × zm_S)} {d : Nat} {a0 : Nat} {i1 : Int32} {i2 : Int32} {a3 : Nat} (hd : 8 ≤ d) (h : zf_L_way N a0 i1 i2 a3 S = some out) : zm_Met l zk_E V yL_way (.codeWith yL_way cL_way 5 (some .int) [(0, 10, 13, 13), (0, 10, 17, 15)]) d [.ref a0, .int i1, .int i2, .ref a3] S 2 12 (zo_i out) zo_x := by
  refine zm_ofH (by decide +kernel) (Nat.le_of_ble_eq_true rfl) ?_
  intro p e R s m args below meth c hRR hX hr hxt
  have hR : R.frames = d ∧ R.locals = 64 * d := by rw [hRR]; exact ⟨rfl, rfl⟩
  have hX : zm_X p R s m args meth c RL "way" cL_way 5 zk_E V 2 12 := hX
  unfold zf_L_way at h
  refine zw_sub (lv' := [(0, .ref a0), (1, .int i1), (2, .int i2), (3, .ref a3)]) (List.forall_mem_cons.mpr ⟨rfl, (List.forall_mem_cons.mpr ⟨rfl, (List.forall_mem_cons.mpr ⟨rfl, (List.forall_mem_cons.mpr ⟨rfl, zs_nil⟩)⟩)⟩)⟩) ?_
  refine zw_aload_n hX dL_way_0 rfl ?_
  refine zw_iconst (v := (0 : Int32)) hX dL_way_1 (by decide) ?_
  refine zw_aload_n hX dL_way_2 rfl ?_
  refine zw_iload_n hX dL_way_3 rfl ?_
  refine zw_iload_n hX dL_way_4 rfl ?_
  obtain ⟨_, gi, h⟩ := zb_some h
  obtain ⟨r, g, h⟩ := zb_some h
  refine zc_V (as := [.int i1, .int i2]) hX (zt_X11_way hlt (d := d - 1) (by omega) g) zl_L_48 rfl dL_way_5 (zi_spec gi) ⟨rfl, rfl, Nat.le_of_ble_eq_true rfl⟩ ⟨by omega, by omega⟩ ⟨by omega, by omega⟩ ?_ ?_
  · rintro _ S2 ⟨v1, rfl, rfl⟩
    try dsimp only at h
    refine zw_i2l hX dL_way_8 ?_
    obtain ⟨S3, g, h⟩ := zb_some h
    refine zw_sl hX dL_way_9 g ?_
    refine zw_goto (tgt := 21) hX dL_way_10 (by decide) ?_
    refine zw_iconst (v := (0 : Int32)) hX dL_way_21 (by decide) ?_
    obtain rfl := Option.some.inj h
    exact zw_iret hX hr dL_way_22 rfl ⟨rfl, rfl⟩
  · rintro X S9 rfl
    try dsimp only at h
    by_cases cx0 : X = "java/lang/IllegalArgumentException"
    · rw [if_pos cx0] at h
      subst cx0
      refine zx_catch (name := "java/lang/IllegalArgumentException") (i := 4) (h9 := 13) (k9 := 2) hX [] { startPc := 0, endPc := 10, handlerPc := 13, catchType := 13 } [{ startPc := 0, endPc := 10, handlerPc := 17, catchType := 15 }] hxt (fun _ h => absurd h List.not_mem_nil) (by decide) (by decide) zl_L_c13 zl_cast_IllegalArgumentException rfl (by decide) (Or.inl dL_way_13) (by rw [dL_way_13]; rfl) ?_
      refine zw_sub (lv' := []) zs_nil ?_
      refine zw_iconst (v := (1 : Int32)) hX dL_way_15 (by decide) ?_
      obtain rfl := Option.some.inj h
      exact zw_iret hX hr dL_way_16 rfl ⟨rfl, rfl⟩
    · rw [if_neg cx0] at h
      by_cases cx1 : X = "java/lang/IllegalStateException"
      · rw [if_pos cx1] at h
        subst cx1
        refine zx_catch (name := "java/lang/IllegalStateException") (i := 4) (h9 := 17) (k9 := 2) hX [{ startPc := 0, endPc := 10, handlerPc := 13, catchType := 13 }] { startPc := 0, endPc := 10, handlerPc := 17, catchType := 15 } [] hxt (List.forall_mem_cons.mpr ⟨Or.inr ⟨by decide, _, zl_L_c13, zx_nc hX⟩, fun _ h => absurd h List.not_mem_nil⟩) (by decide) (by decide) zl_L_c15 zl_cast_IllegalStateException rfl (by decide) (Or.inl dL_way_17) (by rw [dL_way_17]; rfl) ?_
        refine zw_sub (lv' := []) zs_nil ?_
        refine zw_iconst (v := (2 : Int32)) hX dL_way_19 (by decide) ?_
        obtain rfl := Option.some.inj h
        exact zw_iret hX hr dL_way_20 rfl ⟨rfl, rfl⟩
      · rw [if_neg cx1] at h
        cases h
set_option maxHeartbeats 4000000 in
set_option maxRecDepth 100000 in
theorem zt_L_name {l : Launch} {V : zm_V} (hlt : l.stackTraces = false) {N : Nat} {S : zm_S} {out : (Int32 × zm_S)} {d : Nat} {a0 : Nat} {i1 : Int32} {i2 : Int32} {a3 : Nat} (hd : 8 ≤ d) (h : zf_L_name N a0 i1 i2 a3 S = some out) : zm_Met l zk_E V yL_name (.codeWith yL_name cL_name 5 (some .int) [(0, 10, 13, 13), (0, 10, 17, 15)]) d [.ref a0, .int i1, .int i2, .ref a3] S 2 12 (zo_i out) zo_x := by
  refine zm_ofH (by decide +kernel) (Nat.le_of_ble_eq_true rfl) ?_
  intro p e R s m args below meth c hRR hX hr hxt
  have hR : R.frames = d ∧ R.locals = 64 * d := by rw [hRR]; exact ⟨rfl, rfl⟩
  have hX : zm_X p R s m args meth c RL "name" cL_name 5 zk_E V 2 12 := hX
  unfold zf_L_name at h
  refine zw_sub (lv' := [(0, .ref a0), (1, .int i1), (2, .int i2), (3, .ref a3)]) (List.forall_mem_cons.mpr ⟨rfl, (List.forall_mem_cons.mpr ⟨rfl, (List.forall_mem_cons.mpr ⟨rfl, (List.forall_mem_cons.mpr ⟨rfl, zs_nil⟩)⟩)⟩)⟩) ?_
  refine zw_aload_n hX dL_name_0 rfl ?_
  refine zw_iconst (v := (0 : Int32)) hX dL_name_1 (by decide) ?_
  refine zw_aload_n hX dL_name_2 rfl ?_
  refine zw_iload_n hX dL_name_3 rfl ?_
  refine zw_iload_n hX dL_name_4 rfl ?_
  obtain ⟨_, gi, h⟩ := zb_some h
  obtain ⟨r, g, h⟩ := zb_some h
  refine zc_V (as := [.int i1, .int i2]) hX (zt_X11_name hlt (d := d - 1) (by omega) g) zl_L_51 rfl dL_name_5 (zi_spec gi) ⟨rfl, rfl, Nat.le_of_ble_eq_true rfl⟩ ⟨by omega, by omega⟩ ⟨by omega, by omega⟩ ?_ ?_
  · rintro _ S2 ⟨v1, rfl, rfl⟩
    try dsimp only at h
    refine zw_i2l hX dL_name_8 ?_
    obtain ⟨S3, g, h⟩ := zb_some h
    refine zw_sl hX dL_name_9 g ?_
    refine zw_goto (tgt := 21) hX dL_name_10 (by decide) ?_
    refine zw_iconst (v := (0 : Int32)) hX dL_name_21 (by decide) ?_
    obtain rfl := Option.some.inj h
    exact zw_iret hX hr dL_name_22 rfl ⟨rfl, rfl⟩
  · rintro X S9 rfl
    try dsimp only at h
    by_cases cx0 : X = "java/lang/IllegalArgumentException"
    · rw [if_pos cx0] at h
      subst cx0
      refine zx_catch (name := "java/lang/IllegalArgumentException") (i := 4) (h9 := 13) (k9 := 2) hX [] { startPc := 0, endPc := 10, handlerPc := 13, catchType := 13 } [{ startPc := 0, endPc := 10, handlerPc := 17, catchType := 15 }] hxt (fun _ h => absurd h List.not_mem_nil) (by decide) (by decide) zl_L_c13 zl_cast_IllegalArgumentException rfl (by decide) (Or.inl dL_name_13) (by rw [dL_name_13]; rfl) ?_
      refine zw_sub (lv' := []) zs_nil ?_
      refine zw_iconst (v := (1 : Int32)) hX dL_name_15 (by decide) ?_
      obtain rfl := Option.some.inj h
      exact zw_iret hX hr dL_name_16 rfl ⟨rfl, rfl⟩
    · rw [if_neg cx0] at h
      by_cases cx1 : X = "java/lang/IllegalStateException"
      · rw [if_pos cx1] at h
        subst cx1
        refine zx_catch (name := "java/lang/IllegalStateException") (i := 4) (h9 := 17) (k9 := 2) hX [{ startPc := 0, endPc := 10, handlerPc := 13, catchType := 13 }] { startPc := 0, endPc := 10, handlerPc := 17, catchType := 15 } [] hxt (List.forall_mem_cons.mpr ⟨Or.inr ⟨by decide, _, zl_L_c13, zx_nc hX⟩, fun _ h => absurd h List.not_mem_nil⟩) (by decide) (by decide) zl_L_c15 zl_cast_IllegalStateException rfl (by decide) (Or.inl dL_name_17) (by rw [dL_name_17]; rfl) ?_
        refine zw_sub (lv' := []) zs_nil ?_
        refine zw_iconst (v := (2 : Int32)) hX dL_name_19 (by decide) ?_
        obtain rfl := Option.some.inj h
        exact zw_iret hX hr dL_name_20 rfl ⟨rfl, rfl⟩
      · rw [if_neg cx1] at h
        cases h
set_option maxHeartbeats 4000000 in
set_option maxRecDepth 100000 in
theorem zt_L_nameOf {l : Launch} {V : zm_V} (hlt : l.stackTraces = false) {N : Nat} {S : zm_S} {out : (Int32 × zm_S)} {d : Nat} {a0 : Nat} {i1 : Int32} {a2 : Nat} (hd : 8 ≤ d) (h : zf_L_nameOf N a0 i1 a2 S = some out) : zm_Met l zk_E V yL_nameOf (.codeWith yL_nameOf cL_nameOf 4 (some .int) [(0, 9, 12, 13), (0, 9, 15, 15)]) d [.ref a0, .int i1, .ref a2] S 2 12 (zo_i out) zo_x := by
  refine zm_ofH (by decide +kernel) (Nat.le_of_ble_eq_true rfl) ?_
  intro p e R s m args below meth c hRR hX hr hxt
  have hR : R.frames = d ∧ R.locals = 64 * d := by rw [hRR]; exact ⟨rfl, rfl⟩
  have hX : zm_X p R s m args meth c RL "nameOf" cL_nameOf 4 zk_E V 2 12 := hX
  unfold zf_L_nameOf at h
  refine zw_sub (lv' := [(0, .ref a0), (1, .int i1), (2, .ref a2)]) (List.forall_mem_cons.mpr ⟨rfl, (List.forall_mem_cons.mpr ⟨rfl, (List.forall_mem_cons.mpr ⟨rfl, zs_nil⟩)⟩)⟩) ?_
  refine zw_aload_n hX dL_nameOf_0 rfl ?_
  refine zw_iconst (v := (0 : Int32)) hX dL_nameOf_1 (by decide) ?_
  refine zw_aload_n hX dL_nameOf_2 rfl ?_
  refine zw_iload_n hX dL_nameOf_3 rfl ?_
  obtain ⟨_, gi, h⟩ := zb_some h
  obtain ⟨r, g, h⟩ := zb_some h
  refine zc_V (as := [.int i1]) hX (zt_X11_nameOf hlt (d := d - 1) (by omega) g) zl_L_54 rfl dL_nameOf_4 (zi_spec gi) ⟨rfl, rfl, Nat.le_of_ble_eq_true rfl⟩ ⟨by omega, by omega⟩ ⟨by omega, by omega⟩ ?_ ?_
  · rintro _ S2 ⟨v1, rfl, rfl⟩
    try dsimp only at h
    refine zw_i2l hX dL_nameOf_7 ?_
    obtain ⟨S3, g, h⟩ := zb_some h
    refine zw_sl hX dL_nameOf_8 g ?_
    refine zw_goto (tgt := 18) hX dL_nameOf_9 (by decide) ?_
    refine zw_iconst (v := (0 : Int32)) hX dL_nameOf_18 (by decide) ?_
    obtain rfl := Option.some.inj h
    exact zw_iret hX hr dL_nameOf_19 rfl ⟨rfl, rfl⟩
  · rintro X S9 rfl
    try dsimp only at h
    by_cases cx0 : X = "java/lang/IllegalArgumentException"
    · rw [if_pos cx0] at h
      subst cx0
      refine zx_catch (name := "java/lang/IllegalArgumentException") (i := 3) (h9 := 12) (k9 := 1) hX [] { startPc := 0, endPc := 9, handlerPc := 12, catchType := 13 } [{ startPc := 0, endPc := 9, handlerPc := 15, catchType := 15 }] hxt (fun _ h => absurd h List.not_mem_nil) (by decide) (by decide) zl_L_c13 zl_cast_IllegalArgumentException rfl (by decide) (Or.inr ⟨3, rfl, dL_nameOf_12⟩) (by rw [dL_nameOf_12]; rfl) ?_
      refine zw_sub (lv' := []) zs_nil ?_
      refine zw_iconst (v := (1 : Int32)) hX dL_nameOf_13 (by decide) ?_
      obtain rfl := Option.some.inj h
      exact zw_iret hX hr dL_nameOf_14 rfl ⟨rfl, rfl⟩
    · rw [if_neg cx0] at h
      by_cases cx1 : X = "java/lang/IllegalStateException"
      · rw [if_pos cx1] at h
        subst cx1
        refine zx_catch (name := "java/lang/IllegalStateException") (i := 3) (h9 := 15) (k9 := 1) hX [{ startPc := 0, endPc := 9, handlerPc := 12, catchType := 13 }] { startPc := 0, endPc := 9, handlerPc := 15, catchType := 15 } [] hxt (List.forall_mem_cons.mpr ⟨Or.inr ⟨by decide, _, zl_L_c13, zx_nc hX⟩, fun _ h => absurd h List.not_mem_nil⟩) (by decide) (by decide) zl_L_c15 zl_cast_IllegalStateException rfl (by decide) (Or.inr ⟨3, rfl, dL_nameOf_15⟩) (by rw [dL_nameOf_15]; rfl) ?_
        refine zw_sub (lv' := []) zs_nil ?_
        refine zw_iconst (v := (2 : Int32)) hX dL_nameOf_16 (by decide) ?_
        obtain rfl := Option.some.inj h
        exact zw_iret hX hr dL_nameOf_17 rfl ⟨rfl, rfl⟩
      · rw [if_neg cx1] at h
        cases h
set_option maxHeartbeats 4000000 in
set_option maxRecDepth 100000 in
theorem zt_L_say {l : Launch} {V : zm_V} (hlt : l.stackTraces = false) {N : Nat} {S : zm_S} {out : (Int32 × zm_S)} {d : Nat} {a0 : Nat} {j1 : Int64} {a3 : Nat} (hd : 8 ≤ d) (h : zf_L_say N a0 j1 a3 S = some out) : zm_Met l zk_E V yL_say (.codeWith yL_say cL_say 5 (some .int) [(0, 9, 12, 13), (0, 9, 16, 15)]) d [.ref a0, .long j1, .ref a3] S 2 12 (zo_i out) zo_x := by
  refine zm_ofH (by decide +kernel) (Nat.le_of_ble_eq_true rfl) ?_
  intro p e R s m args below meth c hRR hX hr hxt
  have hR : R.frames = d ∧ R.locals = 64 * d := by rw [hRR]; exact ⟨rfl, rfl⟩
  have hX : zm_X p R s m args meth c RL "say" cL_say 5 zk_E V 2 12 := hX
  unfold zf_L_say at h
  refine zw_sub (lv' := [(0, .ref a0), (1, .long j1), (3, .ref a3)]) (List.forall_mem_cons.mpr ⟨rfl, (List.forall_mem_cons.mpr ⟨rfl, (List.forall_mem_cons.mpr ⟨rfl, zs_nil⟩)⟩)⟩) ?_
  refine zw_aload_n hX dL_say_0 rfl ?_
  refine zw_iconst (v := (0 : Int32)) hX dL_say_1 (by decide) ?_
  refine zw_aload_n hX dL_say_2 rfl ?_
  refine zw_lload_n hX dL_say_3 rfl ?_
  obtain ⟨_, gi, h⟩ := zb_some h
  obtain ⟨r, g, h⟩ := zb_some h
  refine zc_V (as := [.long j1]) hX (zt_X11_say hlt (d := d - 1) (by omega) g) zl_L_57 rfl dL_say_4 (zi_spec gi) ⟨rfl, rfl, Nat.le_of_ble_eq_true rfl⟩ ⟨by omega, by omega⟩ ⟨by omega, by omega⟩ ?_ ?_
  · rintro _ S2 ⟨v1, rfl, rfl⟩
    try dsimp only at h
    refine zw_i2l hX dL_say_7 ?_
    obtain ⟨S3, g, h⟩ := zb_some h
    refine zw_sl hX dL_say_8 g ?_
    refine zw_goto (tgt := 20) hX dL_say_9 (by decide) ?_
    refine zw_iconst (v := (0 : Int32)) hX dL_say_20 (by decide) ?_
    obtain rfl := Option.some.inj h
    exact zw_iret hX hr dL_say_21 rfl ⟨rfl, rfl⟩
  · rintro X S9 rfl
    try dsimp only at h
    by_cases cx0 : X = "java/lang/IllegalArgumentException"
    · rw [if_pos cx0] at h
      subst cx0
      refine zx_catch (name := "java/lang/IllegalArgumentException") (i := 4) (h9 := 12) (k9 := 2) hX [] { startPc := 0, endPc := 9, handlerPc := 12, catchType := 13 } [{ startPc := 0, endPc := 9, handlerPc := 16, catchType := 15 }] hxt (fun _ h => absurd h List.not_mem_nil) (by decide) (by decide) zl_L_c13 zl_cast_IllegalArgumentException rfl (by decide) (Or.inl dL_say_12) (by rw [dL_say_12]; rfl) ?_
      refine zw_sub (lv' := []) zs_nil ?_
      refine zw_iconst (v := (1 : Int32)) hX dL_say_14 (by decide) ?_
      obtain rfl := Option.some.inj h
      exact zw_iret hX hr dL_say_15 rfl ⟨rfl, rfl⟩
    · rw [if_neg cx0] at h
      by_cases cx1 : X = "java/lang/IllegalStateException"
      · rw [if_pos cx1] at h
        subst cx1
        refine zx_catch (name := "java/lang/IllegalStateException") (i := 4) (h9 := 16) (k9 := 2) hX [{ startPc := 0, endPc := 9, handlerPc := 12, catchType := 13 }] { startPc := 0, endPc := 9, handlerPc := 16, catchType := 15 } [] hxt (List.forall_mem_cons.mpr ⟨Or.inr ⟨by decide, _, zl_L_c13, zx_nc hX⟩, fun _ h => absurd h List.not_mem_nil⟩) (by decide) (by decide) zl_L_c15 zl_cast_IllegalStateException rfl (by decide) (Or.inl dL_say_16) (by rw [dL_say_16]; rfl) ?_
        refine zw_sub (lv' := []) zs_nil ?_
        refine zw_iconst (v := (2 : Int32)) hX dL_say_18 (by decide) ?_
        obtain rfl := Option.some.inj h
        exact zw_iret hX hr dL_say_19 rfl ⟨rfl, rfl⟩
      · rw [if_neg cx1] at h
        cases h
set_option maxHeartbeats 4000000 in
set_option maxRecDepth 100000 in
theorem zt_L_trim {l : Launch} {V : zm_V} (hlt : l.stackTraces = false) {N : Nat} {S : zm_S} {out : (Int32 × zm_S)} {d : Nat} {a0 : Nat} {i1 : Int32} {a2 : Nat} (hd : 8 ≤ d) (h : zf_L_trim N a0 i1 a2 S = some out) : zm_Met l zk_E V yL_trim (.codeWith yL_trim cL_trim 4 (some .int) [(0, 9, 12, 13)]) d [.ref a0, .int i1, .ref a2] S 1 6 (zo_i out) zo_x := by
  refine zm_ofH (by decide +kernel) (Nat.le_of_ble_eq_true rfl) ?_
  intro p e R s m args below meth c hRR hX hr hxt
  have hR : R.frames = d ∧ R.locals = 64 * d := by rw [hRR]; exact ⟨rfl, rfl⟩
  have hX : zm_X p R s m args meth c RL "trim" cL_trim 4 zk_E V 1 6 := hX
  unfold zf_L_trim at h
  refine zw_sub (lv' := [(0, .ref a0), (1, .int i1), (2, .ref a2)]) (List.forall_mem_cons.mpr ⟨rfl, (List.forall_mem_cons.mpr ⟨rfl, (List.forall_mem_cons.mpr ⟨rfl, zs_nil⟩)⟩)⟩) ?_
  refine zw_aload_n hX dL_trim_0 rfl ?_
  refine zw_iconst (v := (0 : Int32)) hX dL_trim_1 (by decide) ?_
  refine zw_aload_n hX dL_trim_2 rfl ?_
  refine zw_iload_n hX dL_trim_3 rfl ?_
  obtain ⟨_, gi, h⟩ := zb_some h
  obtain ⟨r, g, h⟩ := zb_some h
  refine zc_V (as := [.int i1]) hX (zt_X11_trim hlt (d := d - 1) (by omega) g) zl_L_61 rfl dL_trim_4 (zi_spec gi) ⟨rfl, rfl, Nat.le_of_ble_eq_true rfl⟩ ⟨by omega, by omega⟩ ⟨by omega, by omega⟩ ?_ ?_
  · rintro _ S2 ⟨v1, rfl, rfl⟩
    try dsimp only at h
    refine zw_i2l hX dL_trim_7 ?_
    obtain ⟨S3, g, h⟩ := zb_some h
    refine zw_sl hX dL_trim_8 g ?_
    refine zw_goto (tgt := 15) hX dL_trim_9 (by decide) ?_
    refine zw_iconst (v := (0 : Int32)) hX dL_trim_15 (by decide) ?_
    obtain rfl := Option.some.inj h
    exact zw_iret hX hr dL_trim_16 rfl ⟨rfl, rfl⟩
  · rintro X S9 rfl
    try dsimp only at h
    by_cases cx0 : X = "java/lang/IllegalArgumentException"
    · rw [if_pos cx0] at h
      subst cx0
      refine zx_catch (name := "java/lang/IllegalArgumentException") (i := 3) (h9 := 12) (k9 := 1) hX [] { startPc := 0, endPc := 9, handlerPc := 12, catchType := 13 } [] hxt (fun _ h => absurd h List.not_mem_nil) (by decide) (by decide) zl_L_c13 zl_cast_IllegalArgumentException rfl (by decide) (Or.inr ⟨3, rfl, dL_trim_12⟩) (by rw [dL_trim_12]; rfl) ?_
      refine zw_sub (lv' := []) zs_nil ?_
      refine zw_iconst (v := (1 : Int32)) hX dL_trim_13 (by decide) ?_
      obtain rfl := Option.some.inj h
      exact zw_iret hX hr dL_trim_14 rfl ⟨rfl, rfl⟩
    · rw [if_neg cx0] at h
      cases h
set_option maxHeartbeats 4000000 in
set_option maxRecDepth 100000 in
theorem zt_L_fact {l : Launch} {V : zm_V} (hlt : l.stackTraces = false) {N : Nat} {S : zm_S} {out : (Int32 × zm_S)} {d : Nat} {a0 : Nat} {j1 : Int64} {i3 : Int32} {a4 : Nat} (hd : 8 ≤ d) (h : zf_L_fact N a0 j1 i3 a4 S = some out) : zm_Met l zk_E V yL_fact (.codeWith yL_fact cL_fact 6 (some .int) [(0, 10, 13, 13), (0, 10, 17, 15)]) d [.ref a0, .long j1, .int i3, .ref a4] S 2 12 (zo_i out) zo_x := by
  refine zm_ofH (by decide +kernel) (Nat.le_of_ble_eq_true rfl) ?_
  intro p e R s m args below meth c hRR hX hr hxt
  have hR : R.frames = d ∧ R.locals = 64 * d := by rw [hRR]; exact ⟨rfl, rfl⟩
  have hX : zm_X p R s m args meth c RL "fact" cL_fact 6 zk_E V 2 12 := hX
  unfold zf_L_fact at h
  refine zw_sub (lv' := [(0, .ref a0), (1, .long j1), (3, .int i3), (4, .ref a4)]) (List.forall_mem_cons.mpr ⟨rfl, (List.forall_mem_cons.mpr ⟨rfl, (List.forall_mem_cons.mpr ⟨rfl, (List.forall_mem_cons.mpr ⟨rfl, zs_nil⟩)⟩)⟩)⟩) ?_
  refine zw_aload hX dL_fact_0 rfl ?_
  refine zw_iconst (v := (0 : Int32)) hX dL_fact_2 (by decide) ?_
  refine zw_aload_n hX dL_fact_3 rfl ?_
  refine zw_lload_n hX dL_fact_4 rfl ?_
  refine zw_iload_n hX dL_fact_5 rfl ?_
  obtain ⟨_, gi, h⟩ := zb_some h
  obtain ⟨r, g, h⟩ := zb_some h
  refine zc_V (as := [.long j1, .int i3]) hX (zt_X11_fact hlt (d := d - 1) (by omega) g) zl_L_64 rfl dL_fact_6 (zi_spec gi) ⟨rfl, rfl, Nat.le_of_ble_eq_true rfl⟩ ⟨by omega, by omega⟩ ⟨by omega, by omega⟩ ?_ ?_
  · rintro _ S2 ⟨w1, rfl, rfl⟩
    try dsimp only at h
    obtain ⟨S3, g, h⟩ := zb_some h
    refine zw_sl hX dL_fact_9 g ?_
    refine zw_goto (tgt := 21) hX dL_fact_10 (by decide) ?_
    refine zw_iconst (v := (0 : Int32)) hX dL_fact_21 (by decide) ?_
    obtain rfl := Option.some.inj h
    exact zw_iret hX hr dL_fact_22 rfl ⟨rfl, rfl⟩
  · rintro X S9 rfl
    try dsimp only at h
    by_cases cx0 : X = "java/lang/IllegalArgumentException"
    · rw [if_pos cx0] at h
      subst cx0
      refine zx_catch (name := "java/lang/IllegalArgumentException") (i := 5) (h9 := 13) (k9 := 2) hX [] { startPc := 0, endPc := 10, handlerPc := 13, catchType := 13 } [{ startPc := 0, endPc := 10, handlerPc := 17, catchType := 15 }] hxt (fun _ h => absurd h List.not_mem_nil) (by decide) (by decide) zl_L_c13 zl_cast_IllegalArgumentException rfl (by decide) (Or.inl dL_fact_13) (by rw [dL_fact_13]; rfl) ?_
      refine zw_sub (lv' := []) zs_nil ?_
      refine zw_iconst (v := (1 : Int32)) hX dL_fact_15 (by decide) ?_
      obtain rfl := Option.some.inj h
      exact zw_iret hX hr dL_fact_16 rfl ⟨rfl, rfl⟩
    · rw [if_neg cx0] at h
      by_cases cx1 : X = "java/lang/IllegalStateException"
      · rw [if_pos cx1] at h
        subst cx1
        refine zx_catch (name := "java/lang/IllegalStateException") (i := 5) (h9 := 17) (k9 := 2) hX [{ startPc := 0, endPc := 10, handlerPc := 13, catchType := 13 }] { startPc := 0, endPc := 10, handlerPc := 17, catchType := 15 } [] hxt (List.forall_mem_cons.mpr ⟨Or.inr ⟨by decide, _, zl_L_c13, zx_nc hX⟩, fun _ h => absurd h List.not_mem_nil⟩) (by decide) (by decide) zl_L_c15 zl_cast_IllegalStateException rfl (by decide) (Or.inl dL_fact_17) (by rw [dL_fact_17]; rfl) ?_
        refine zw_sub (lv' := []) zs_nil ?_
        refine zw_iconst (v := (2 : Int32)) hX dL_fact_19 (by decide) ?_
        obtain rfl := Option.some.inj h
        exact zw_iret hX hr dL_fact_20 rfl ⟨rfl, rfl⟩
      · rw [if_neg cx1] at h
        cases h
set_option maxHeartbeats 4000000 in
set_option maxRecDepth 100000 in
theorem zt_L_measure {l : Launch} {V : zm_V} (hlt : l.stackTraces = false) {N : Nat} {S : zm_S} {out : (Int32 × zm_S)} {d : Nat} {a0 : Nat} {i1 : Int32} {i2 : Int32} {j3 : Int64} {a5 : Nat} (hd : 8 ≤ d) (h : zf_L_measure N a0 i1 i2 j3 a5 S = some out) : zm_Met l zk_E V yL_measure (.codeWith yL_measure cL_measure 7 (some .int) [(0, 12, 15, 13), (0, 12, 19, 15)]) d [.ref a0, .int i1, .int i2, .long j3, .ref a5] S 2 12 (zo_i out) zo_x := by
  refine zm_ofH (by decide +kernel) (Nat.le_of_ble_eq_true rfl) ?_
  intro p e R s m args below meth c hRR hX hr hxt
  have hR : R.frames = d ∧ R.locals = 64 * d := by rw [hRR]; exact ⟨rfl, rfl⟩
  have hX : zm_X p R s m args meth c RL "measure" cL_measure 7 zk_E V 2 12 := hX
  unfold zf_L_measure at h
  refine zw_sub (lv' := [(0, .ref a0), (1, .int i1), (2, .int i2), (3, .long j3), (5, .ref a5)]) (List.forall_mem_cons.mpr ⟨rfl, (List.forall_mem_cons.mpr ⟨rfl, (List.forall_mem_cons.mpr ⟨rfl, (List.forall_mem_cons.mpr ⟨rfl, (List.forall_mem_cons.mpr ⟨rfl, zs_nil⟩)⟩)⟩)⟩)⟩) ?_
  refine zw_aload hX dL_measure_0 rfl ?_
  refine zw_iconst (v := (0 : Int32)) hX dL_measure_2 (by decide) ?_
  refine zw_aload_n hX dL_measure_3 rfl ?_
  refine zw_iload_n hX dL_measure_4 rfl ?_
  refine zw_iload_n hX dL_measure_5 rfl ?_
  refine zw_lload_n hX dL_measure_6 rfl ?_
  obtain ⟨_, gi, h⟩ := zb_some h
  obtain ⟨r, g, h⟩ := zb_some h
  refine zc_V (as := [.int i1, .int i2, .long j3]) hX (zt_X11_measure hlt (d := d - 1) (by omega) g) zl_L_68 rfl dL_measure_7 (zi_spec gi) ⟨rfl, rfl, Nat.le_of_ble_eq_true rfl⟩ ⟨by omega, by omega⟩ ⟨by omega, by omega⟩ ?_ ?_
  · rintro _ S2 ⟨v1, rfl, rfl⟩
    try dsimp only at h
    refine zw_i2l hX dL_measure_10 ?_
    obtain ⟨S3, g, h⟩ := zb_some h
    refine zw_sl hX dL_measure_11 g ?_
    refine zw_goto (tgt := 23) hX dL_measure_12 (by decide) ?_
    refine zw_iconst (v := (0 : Int32)) hX dL_measure_23 (by decide) ?_
    obtain rfl := Option.some.inj h
    exact zw_iret hX hr dL_measure_24 rfl ⟨rfl, rfl⟩
  · rintro X S9 rfl
    try dsimp only at h
    by_cases cx0 : X = "java/lang/IllegalArgumentException"
    · rw [if_pos cx0] at h
      subst cx0
      refine zx_catch (name := "java/lang/IllegalArgumentException") (i := 6) (h9 := 15) (k9 := 2) hX [] { startPc := 0, endPc := 12, handlerPc := 15, catchType := 13 } [{ startPc := 0, endPc := 12, handlerPc := 19, catchType := 15 }] hxt (fun _ h => absurd h List.not_mem_nil) (by decide) (by decide) zl_L_c13 zl_cast_IllegalArgumentException rfl (by decide) (Or.inl dL_measure_15) (by rw [dL_measure_15]; rfl) ?_
      refine zw_sub (lv' := []) zs_nil ?_
      refine zw_iconst (v := (1 : Int32)) hX dL_measure_17 (by decide) ?_
      obtain rfl := Option.some.inj h
      exact zw_iret hX hr dL_measure_18 rfl ⟨rfl, rfl⟩
    · rw [if_neg cx0] at h
      by_cases cx1 : X = "java/lang/IllegalStateException"
      · rw [if_pos cx1] at h
        subst cx1
        refine zx_catch (name := "java/lang/IllegalStateException") (i := 6) (h9 := 19) (k9 := 2) hX [{ startPc := 0, endPc := 12, handlerPc := 15, catchType := 13 }] { startPc := 0, endPc := 12, handlerPc := 19, catchType := 15 } [] hxt (List.forall_mem_cons.mpr ⟨Or.inr ⟨by decide, _, zl_L_c13, zx_nc hX⟩, fun _ h => absurd h List.not_mem_nil⟩) (by decide) (by decide) zl_L_c15 zl_cast_IllegalStateException rfl (by decide) (Or.inl dL_measure_19) (by rw [dL_measure_19]; rfl) ?_
        refine zw_sub (lv' := []) zs_nil ?_
        refine zw_iconst (v := (2 : Int32)) hX dL_measure_21 (by decide) ?_
        obtain rfl := Option.some.inj h
        exact zw_iret hX hr dL_measure_22 rfl ⟨rfl, rfl⟩
      · rw [if_neg cx1] at h
        cases h
set_option maxHeartbeats 4000000 in
set_option maxRecDepth 100000 in
theorem zt_L_check {l : Launch} {V : zm_V} (hlt : l.stackTraces = false) {N : Nat} {S : zm_S} {out : (Int32 × zm_S)} {d : Nat} {a0 : Nat} {i1 : Int32} {a2 : Nat} (hd : 45 ≤ d) (h : zf_L_check N a0 i1 a2 S = some out) : zm_Met l zk_E V yL_check (.codeWith yL_check cL_check 4 (some .int) [(0, 9, 12, 13)]) d [.ref a0, .int i1, .ref a2] S 1 6 (zo_i out) zo_x := by
  refine zm_ofH (by decide +kernel) (Nat.le_of_ble_eq_true rfl) ?_
  intro p e R s m args below meth c hRR hX hr hxt
  have hR : R.frames = d ∧ R.locals = 64 * d := by rw [hRR]; exact ⟨rfl, rfl⟩
  have hX : zm_X p R s m args meth c RL "check" cL_check 4 zk_E V 1 6 := hX
  unfold zf_L_check at h
  refine zw_sub (lv' := [(0, .ref a0), (1, .int i1), (2, .ref a2)]) (List.forall_mem_cons.mpr ⟨rfl, (List.forall_mem_cons.mpr ⟨rfl, (List.forall_mem_cons.mpr ⟨rfl, zs_nil⟩)⟩)⟩) ?_
  refine zw_aload_n hX dL_check_0 rfl ?_
  refine zw_iconst (v := (0 : Int32)) hX dL_check_1 (by decide) ?_
  refine zw_aload_n hX dL_check_2 rfl ?_
  refine zw_iload_n hX dL_check_3 rfl ?_
  obtain ⟨_, gi, h⟩ := zb_some h
  obtain ⟨r, g, h⟩ := zb_some h
  refine zc_V (as := [.int i1]) hX (zt_X11_check hlt (d := d - 1) (by omega) g) zl_L_72 rfl dL_check_4 (zi_spec gi) ⟨rfl, rfl, Nat.le_of_ble_eq_true rfl⟩ ⟨by omega, by omega⟩ ⟨by omega, by omega⟩ ?_ ?_
  · rintro _ S2 ⟨v1, rfl, rfl⟩
    try dsimp only at h
    refine zw_i2l hX dL_check_7 ?_
    obtain ⟨S3, g, h⟩ := zb_some h
    refine zw_sl hX dL_check_8 g ?_
    refine zw_goto (tgt := 15) hX dL_check_9 (by decide) ?_
    refine zw_iconst (v := (0 : Int32)) hX dL_check_15 (by decide) ?_
    obtain rfl := Option.some.inj h
    exact zw_iret hX hr dL_check_16 rfl ⟨rfl, rfl⟩
  · rintro X S9 rfl
    try dsimp only at h
    by_cases cx0 : X = "java/lang/IllegalArgumentException"
    · rw [if_pos cx0] at h
      subst cx0
      refine zx_catch (name := "java/lang/IllegalArgumentException") (i := 3) (h9 := 12) (k9 := 1) hX [] { startPc := 0, endPc := 9, handlerPc := 12, catchType := 13 } [] hxt (fun _ h => absurd h List.not_mem_nil) (by decide) (by decide) zl_L_c13 zl_cast_IllegalArgumentException rfl (by decide) (Or.inr ⟨3, rfl, dL_check_12⟩) (by rw [dL_check_12]; rfl) ?_
      refine zw_sub (lv' := []) zs_nil ?_
      refine zw_iconst (v := (1 : Int32)) hX dL_check_13 (by decide) ?_
      obtain rfl := Option.some.inj h
      exact zw_iret hX hr dL_check_14 rfl ⟨rfl, rfl⟩
    · rw [if_neg cx0] at h
      cases h
set_option maxHeartbeats 4000000 in
set_option maxRecDepth 100000 in
theorem zt_L_rule {l : Launch} {V : zm_V} (hlt : l.stackTraces = false) {N : Nat} {S : zm_S} {out : (Int32 × zm_S)} {d : Nat} {a0 : Nat} {i1 : Int32} {i2 : Int32} {a3 : Nat} (hd : 8 ≤ d) (h : zf_L_rule N a0 i1 i2 a3 S = some out) : zm_Met l zk_E V yL_rule (.codeWith yL_rule cL_rule 5 (some .int) [(0, 9, 12, 13), (0, 9, 16, 15)]) d [.ref a0, .int i1, .int i2, .ref a3] S 2 12 (zo_i out) zo_x := by
  refine zm_ofH (by decide +kernel) (Nat.le_of_ble_eq_true rfl) ?_
  intro p e R s m args below meth c hRR hX hr hxt
  have hR : R.frames = d ∧ R.locals = 64 * d := by rw [hRR]; exact ⟨rfl, rfl⟩
  have hX : zm_X p R s m args meth c RL "rule" cL_rule 5 zk_E V 2 12 := hX
  unfold zf_L_rule at h
  refine zw_sub (lv' := [(0, .ref a0), (1, .int i1), (2, .int i2), (3, .ref a3)]) (List.forall_mem_cons.mpr ⟨rfl, (List.forall_mem_cons.mpr ⟨rfl, (List.forall_mem_cons.mpr ⟨rfl, (List.forall_mem_cons.mpr ⟨rfl, zs_nil⟩)⟩)⟩)⟩) ?_
  refine zw_aload_n hX dL_rule_0 rfl ?_
  refine zw_iconst (v := (0 : Int32)) hX dL_rule_1 (by decide) ?_
  refine zw_aload_n hX dL_rule_2 rfl ?_
  refine zw_iload_n hX dL_rule_3 rfl ?_
  refine zw_iload_n hX dL_rule_4 rfl ?_
  obtain ⟨_, gi, h⟩ := zb_some h
  obtain ⟨r, g, h⟩ := zb_some h
  refine zc_V (as := [.int i1, .int i2]) hX (zt_X11_rule hlt (d := d - 1) (by omega) g) zl_L_75 rfl dL_rule_5 (zi_spec gi) ⟨rfl, rfl, Nat.le_of_ble_eq_true rfl⟩ ⟨by omega, by omega⟩ ⟨by omega, by omega⟩ ?_ ?_
  · rintro _ S2 ⟨w1, rfl, rfl⟩
    try dsimp only at h
    obtain ⟨S3, g, h⟩ := zb_some h
    refine zw_sl hX dL_rule_8 g ?_
    refine zw_goto (tgt := 20) hX dL_rule_9 (by decide) ?_
    refine zw_iconst (v := (0 : Int32)) hX dL_rule_20 (by decide) ?_
    obtain rfl := Option.some.inj h
    exact zw_iret hX hr dL_rule_21 rfl ⟨rfl, rfl⟩
  · rintro X S9 rfl
    try dsimp only at h
    by_cases cx0 : X = "java/lang/IllegalArgumentException"
    · rw [if_pos cx0] at h
      subst cx0
      refine zx_catch (name := "java/lang/IllegalArgumentException") (i := 4) (h9 := 12) (k9 := 2) hX [] { startPc := 0, endPc := 9, handlerPc := 12, catchType := 13 } [{ startPc := 0, endPc := 9, handlerPc := 16, catchType := 15 }] hxt (fun _ h => absurd h List.not_mem_nil) (by decide) (by decide) zl_L_c13 zl_cast_IllegalArgumentException rfl (by decide) (Or.inl dL_rule_12) (by rw [dL_rule_12]; rfl) ?_
      refine zw_sub (lv' := []) zs_nil ?_
      refine zw_iconst (v := (1 : Int32)) hX dL_rule_14 (by decide) ?_
      obtain rfl := Option.some.inj h
      exact zw_iret hX hr dL_rule_15 rfl ⟨rfl, rfl⟩
    · rw [if_neg cx0] at h
      by_cases cx1 : X = "java/lang/IllegalStateException"
      · rw [if_pos cx1] at h
        subst cx1
        refine zx_catch (name := "java/lang/IllegalStateException") (i := 4) (h9 := 16) (k9 := 2) hX [{ startPc := 0, endPc := 9, handlerPc := 12, catchType := 13 }] { startPc := 0, endPc := 9, handlerPc := 16, catchType := 15 } [] hxt (List.forall_mem_cons.mpr ⟨Or.inr ⟨by decide, _, zl_L_c13, zx_nc hX⟩, fun _ h => absurd h List.not_mem_nil⟩) (by decide) (by decide) zl_L_c15 zl_cast_IllegalStateException rfl (by decide) (Or.inl dL_rule_16) (by rw [dL_rule_16]; rfl) ?_
        refine zw_sub (lv' := []) zs_nil ?_
        refine zw_iconst (v := (2 : Int32)) hX dL_rule_18 (by decide) ?_
        obtain rfl := Option.some.inj h
        exact zw_iret hX hr dL_rule_19 rfl ⟨rfl, rfl⟩
      · rw [if_neg cx1] at h
        cases h
set_option maxHeartbeats 4000000 in
set_option maxRecDepth 100000 in
theorem zt_L_build {l : Launch} {V : zm_V} (hlt : l.stackTraces = false) {N : Nat} {S : zm_S} {out : (Int32 × zm_S)} {d : Nat} {a0 : Nat} {i1 : Int32} {a2 : Nat} (hd : 45 ≤ d) (h : zf_L_build N a0 i1 a2 S = some out) : zm_Met l zk_E V yL_build (.codeWith yL_build cL_build 4 (some .int) [(0, 9, 12, 13), (0, 9, 15, 15)]) d [.ref a0, .int i1, .ref a2] S 5 124092 (zo_i out) zo_x := by
  refine zm_ofH (by decide +kernel) (Nat.le_of_ble_eq_true rfl) ?_
  intro p e R s m args below meth c hRR hX hr hxt
  have hR : R.frames = d ∧ R.locals = 64 * d := by rw [hRR]; exact ⟨rfl, rfl⟩
  have hX : zm_X p R s m args meth c RL "build" cL_build 4 zk_E V 5 124092 := hX
  unfold zf_L_build at h
  refine zw_sub (lv' := [(0, .ref a0), (1, .int i1), (2, .ref a2)]) (List.forall_mem_cons.mpr ⟨rfl, (List.forall_mem_cons.mpr ⟨rfl, (List.forall_mem_cons.mpr ⟨rfl, zs_nil⟩)⟩)⟩) ?_
  refine zw_aload_n hX dL_build_0 rfl ?_
  refine zw_iconst (v := (0 : Int32)) hX dL_build_1 (by decide) ?_
  refine zw_aload_n hX dL_build_2 rfl ?_
  refine zw_iload_n hX dL_build_3 rfl ?_
  obtain ⟨_, gi, h⟩ := zb_some h
  obtain ⟨r, g, h⟩ := zb_some h
  refine zc_V (as := [.int i1]) hX (zt_X11_build hlt (d := d - 1) (by omega) g) zl_L_79 rfl dL_build_4 (zi_spec gi) ⟨rfl, rfl, Nat.le_of_ble_eq_true rfl⟩ ⟨by omega, by omega⟩ ⟨by omega, by omega⟩ ?_ ?_
  · rintro _ S2 ⟨v1, rfl, rfl⟩
    try dsimp only at h
    refine zw_i2l hX dL_build_7 ?_
    obtain ⟨S3, g, h⟩ := zb_some h
    refine zw_sl hX dL_build_8 g ?_
    refine zw_goto (tgt := 18) hX dL_build_9 (by decide) ?_
    refine zw_iconst (v := (0 : Int32)) hX dL_build_18 (by decide) ?_
    obtain rfl := Option.some.inj h
    exact zw_iret hX hr dL_build_19 rfl ⟨rfl, rfl⟩
  · rintro X S9 rfl
    try dsimp only at h
    by_cases cx0 : X = "java/lang/IllegalArgumentException"
    · rw [if_pos cx0] at h
      subst cx0
      refine zx_catch (name := "java/lang/IllegalArgumentException") (i := 3) (h9 := 12) (k9 := 1) hX [] { startPc := 0, endPc := 9, handlerPc := 12, catchType := 13 } [{ startPc := 0, endPc := 9, handlerPc := 15, catchType := 15 }] hxt (fun _ h => absurd h List.not_mem_nil) (by decide) (by decide) zl_L_c13 zl_cast_IllegalArgumentException rfl (by decide) (Or.inr ⟨3, rfl, dL_build_12⟩) (by rw [dL_build_12]; rfl) ?_
      refine zw_sub (lv' := []) zs_nil ?_
      refine zw_iconst (v := (1 : Int32)) hX dL_build_13 (by decide) ?_
      obtain rfl := Option.some.inj h
      exact zw_iret hX hr dL_build_14 rfl ⟨rfl, rfl⟩
    · rw [if_neg cx0] at h
      by_cases cx1 : X = "java/lang/IllegalStateException"
      · rw [if_pos cx1] at h
        subst cx1
        refine zx_catch (name := "java/lang/IllegalStateException") (i := 3) (h9 := 15) (k9 := 1) hX [{ startPc := 0, endPc := 9, handlerPc := 12, catchType := 13 }] { startPc := 0, endPc := 9, handlerPc := 15, catchType := 15 } [] hxt (List.forall_mem_cons.mpr ⟨Or.inr ⟨by decide, _, zl_L_c13, zx_nc hX⟩, fun _ h => absurd h List.not_mem_nil⟩) (by decide) (by decide) zl_L_c15 zl_cast_IllegalStateException rfl (by decide) (Or.inr ⟨3, rfl, dL_build_15⟩) (by rw [dL_build_15]; rfl) ?_
        refine zw_sub (lv' := []) zs_nil ?_
        refine zw_iconst (v := (2 : Int32)) hX dL_build_16 (by decide) ?_
        obtain rfl := Option.some.inj h
        exact zw_iret hX hr dL_build_17 rfl ⟨rfl, rfl⟩
      · rw [if_neg cx1] at h
        cases h
set_option maxHeartbeats 4000000 in
set_option maxRecDepth 100000 in
theorem zt_L_build_c {l : Launch} {V : zm_V} (hlt : l.stackTraces = false) {N : Nat} {S : zm_S} {out : (Int32 × zm_S)} {d : Nat} {a0 : Nat} {i1 : Int32} {a2 : Nat} (hd : 45 ≤ d) (h : zf_L_build_c N a0 i1 a2 S = some out) : zm_Met l zk_E V yL_build (.codeWith yL_build cL_build 4 (some .int) [(0, 9, 12, 13), (0, 9, 15, 15)]) d [.ref a0, .int i1, .ref a2] S 2 12 (zo_i out) zo_x := by
  refine zm_ofH (by decide +kernel) (Nat.le_of_ble_eq_true rfl) ?_
  intro p e R s m args below meth c hRR hX hr hxt
  have hR : R.frames = d ∧ R.locals = 64 * d := by rw [hRR]; exact ⟨rfl, rfl⟩
  have hX : zm_X p R s m args meth c RL "build" cL_build 4 zk_E V 2 12 := hX
  unfold zf_L_build_c at h
  refine zw_sub (lv' := [(0, .ref a0), (1, .int i1), (2, .ref a2)]) (List.forall_mem_cons.mpr ⟨rfl, (List.forall_mem_cons.mpr ⟨rfl, (List.forall_mem_cons.mpr ⟨rfl, zs_nil⟩)⟩)⟩) ?_
  refine zw_aload_n hX dL_build_0 rfl ?_
  refine zw_iconst (v := (0 : Int32)) hX dL_build_1 (by decide) ?_
  refine zw_aload_n hX dL_build_2 rfl ?_
  refine zw_iload_n hX dL_build_3 rfl ?_
  obtain ⟨_, gi, h⟩ := zb_some h
  obtain ⟨r, g, h⟩ := zb_some h
  refine zc_V (as := [.int i1]) hX (zt_X11_build_c hlt (d := d - 1) (by omega) g) zl_L_79 rfl dL_build_4 (zi_spec gi) ⟨rfl, rfl, Nat.le_of_ble_eq_true rfl⟩ ⟨by omega, by omega⟩ ⟨by omega, by omega⟩ ?_ ?_
  · rintro _ S2 ⟨v1, rfl, rfl⟩
    try dsimp only at h
    refine zw_i2l hX dL_build_7 ?_
    obtain ⟨S3, g, h⟩ := zb_some h
    refine zw_sl hX dL_build_8 g ?_
    refine zw_goto (tgt := 18) hX dL_build_9 (by decide) ?_
    refine zw_iconst (v := (0 : Int32)) hX dL_build_18 (by decide) ?_
    obtain rfl := Option.some.inj h
    exact zw_iret hX hr dL_build_19 rfl ⟨rfl, rfl⟩
  · rintro X S9 rfl
    try dsimp only at h
    by_cases cx0 : X = "java/lang/IllegalArgumentException"
    · rw [if_pos cx0] at h
      subst cx0
      refine zx_catch (name := "java/lang/IllegalArgumentException") (i := 3) (h9 := 12) (k9 := 1) hX [] { startPc := 0, endPc := 9, handlerPc := 12, catchType := 13 } [{ startPc := 0, endPc := 9, handlerPc := 15, catchType := 15 }] hxt (fun _ h => absurd h List.not_mem_nil) (by decide) (by decide) zl_L_c13 zl_cast_IllegalArgumentException rfl (by decide) (Or.inr ⟨3, rfl, dL_build_12⟩) (by rw [dL_build_12]; rfl) ?_
      refine zw_sub (lv' := []) zs_nil ?_
      refine zw_iconst (v := (1 : Int32)) hX dL_build_13 (by decide) ?_
      obtain rfl := Option.some.inj h
      exact zw_iret hX hr dL_build_14 rfl ⟨rfl, rfl⟩
    · rw [if_neg cx0] at h
      by_cases cx1 : X = "java/lang/IllegalStateException"
      · rw [if_pos cx1] at h
        subst cx1
        refine zx_catch (name := "java/lang/IllegalStateException") (i := 3) (h9 := 15) (k9 := 1) hX [{ startPc := 0, endPc := 9, handlerPc := 12, catchType := 13 }] { startPc := 0, endPc := 9, handlerPc := 15, catchType := 15 } [] hxt (List.forall_mem_cons.mpr ⟨Or.inr ⟨by decide, _, zl_L_c13, zx_nc hX⟩, fun _ h => absurd h List.not_mem_nil⟩) (by decide) (by decide) zl_L_c15 zl_cast_IllegalStateException rfl (by decide) (Or.inr ⟨3, rfl, dL_build_15⟩) (by rw [dL_build_15]; rfl) ?_
        refine zw_sub (lv' := []) zs_nil ?_
        refine zw_iconst (v := (2 : Int32)) hX dL_build_16 (by decide) ?_
        obtain rfl := Option.some.inj h
        exact zw_iret hX hr dL_build_17 rfl ⟨rfl, rfl⟩
      · rw [if_neg cx1] at h
        cases h
set_option maxHeartbeats 4000000 in
set_option maxRecDepth 100000 in
theorem zt_L_portal {l : Launch} {V : zm_V} (hlt : l.stackTraces = false) {N : Nat} {S : zm_S} {out : (Int32 × zm_S)} {d : Nat} {a0 : Nat} {i1 : Int32} {i2 : Int32} {a3 : Nat} (hd : 8 ≤ d) (h : zf_L_portal N a0 i1 i2 a3 S = some out) : zm_Met l zk_E V yL_portal (.codeWith yL_portal cL_portal 5 (some .int) [(0, 10, 13, 13), (0, 10, 17, 15)]) d [.ref a0, .int i1, .int i2, .ref a3] S 2 12 (zo_i out) zo_x := by
  refine zm_ofH (by decide +kernel) (Nat.le_of_ble_eq_true rfl) ?_
  intro p e R s m args below meth c hRR hX hr hxt
  have hR : R.frames = d ∧ R.locals = 64 * d := by rw [hRR]; exact ⟨rfl, rfl⟩
  have hX : zm_X p R s m args meth c RL "portal" cL_portal 5 zk_E V 2 12 := hX
  unfold zf_L_portal at h
  refine zw_sub (lv' := [(0, .ref a0), (1, .int i1), (2, .int i2), (3, .ref a3)]) (List.forall_mem_cons.mpr ⟨rfl, (List.forall_mem_cons.mpr ⟨rfl, (List.forall_mem_cons.mpr ⟨rfl, (List.forall_mem_cons.mpr ⟨rfl, zs_nil⟩)⟩)⟩)⟩) ?_
  refine zw_aload_n hX dL_portal_0 rfl ?_
  refine zw_iconst (v := (0 : Int32)) hX dL_portal_1 (by decide) ?_
  refine zw_aload_n hX dL_portal_2 rfl ?_
  refine zw_iload_n hX dL_portal_3 rfl ?_
  refine zw_iload_n hX dL_portal_4 rfl ?_
  obtain ⟨_, gi, h⟩ := zb_some h
  obtain ⟨r, g, h⟩ := zb_some h
  refine zc_V (as := [.int i1, .int i2]) hX (zt_X11_portal hlt (d := d - 1) (by omega) g) zl_L_82 rfl dL_portal_5 (zi_spec gi) ⟨rfl, rfl, Nat.le_of_ble_eq_true rfl⟩ ⟨by omega, by omega⟩ ⟨by omega, by omega⟩ ?_ ?_
  · rintro _ S2 ⟨v1, rfl, rfl⟩
    try dsimp only at h
    refine zw_i2l hX dL_portal_8 ?_
    obtain ⟨S3, g, h⟩ := zb_some h
    refine zw_sl hX dL_portal_9 g ?_
    refine zw_goto (tgt := 21) hX dL_portal_10 (by decide) ?_
    refine zw_iconst (v := (0 : Int32)) hX dL_portal_21 (by decide) ?_
    obtain rfl := Option.some.inj h
    exact zw_iret hX hr dL_portal_22 rfl ⟨rfl, rfl⟩
  · rintro X S9 rfl
    try dsimp only at h
    by_cases cx0 : X = "java/lang/IllegalArgumentException"
    · rw [if_pos cx0] at h
      subst cx0
      refine zx_catch (name := "java/lang/IllegalArgumentException") (i := 4) (h9 := 13) (k9 := 2) hX [] { startPc := 0, endPc := 10, handlerPc := 13, catchType := 13 } [{ startPc := 0, endPc := 10, handlerPc := 17, catchType := 15 }] hxt (fun _ h => absurd h List.not_mem_nil) (by decide) (by decide) zl_L_c13 zl_cast_IllegalArgumentException rfl (by decide) (Or.inl dL_portal_13) (by rw [dL_portal_13]; rfl) ?_
      refine zw_sub (lv' := []) zs_nil ?_
      refine zw_iconst (v := (1 : Int32)) hX dL_portal_15 (by decide) ?_
      obtain rfl := Option.some.inj h
      exact zw_iret hX hr dL_portal_16 rfl ⟨rfl, rfl⟩
    · rw [if_neg cx0] at h
      by_cases cx1 : X = "java/lang/IllegalStateException"
      · rw [if_pos cx1] at h
        subst cx1
        refine zx_catch (name := "java/lang/IllegalStateException") (i := 4) (h9 := 17) (k9 := 2) hX [{ startPc := 0, endPc := 10, handlerPc := 13, catchType := 13 }] { startPc := 0, endPc := 10, handlerPc := 17, catchType := 15 } [] hxt (List.forall_mem_cons.mpr ⟨Or.inr ⟨by decide, _, zl_L_c13, zx_nc hX⟩, fun _ h => absurd h List.not_mem_nil⟩) (by decide) (by decide) zl_L_c15 zl_cast_IllegalStateException rfl (by decide) (Or.inl dL_portal_17) (by rw [dL_portal_17]; rfl) ?_
        refine zw_sub (lv' := []) zs_nil ?_
        refine zw_iconst (v := (2 : Int32)) hX dL_portal_19 (by decide) ?_
        obtain rfl := Option.some.inj h
        exact zw_iret hX hr dL_portal_20 rfl ⟨rfl, rfl⟩
      · rw [if_neg cx1] at h
        cases h
set_option maxHeartbeats 4000000 in
set_option maxRecDepth 100000 in
theorem zt_L_person {l : Launch} {V : zm_V} (hlt : l.stackTraces = false) {N : Nat} {S : zm_S} {out : (Int32 × zm_S)} {d : Nat} {a0 : Nat} {i1 : Int32} {i2 : Int32} {a3 : Nat} (hd : 8 ≤ d) (h : zf_L_person N a0 i1 i2 a3 S = some out) : zm_Met l zk_E V yL_person (.codeWith yL_person cL_person 5 (some .int) [(0, 10, 13, 13), (0, 10, 17, 15)]) d [.ref a0, .int i1, .int i2, .ref a3] S 2 12 (zo_i out) zo_x := by
  refine zm_ofH (by decide +kernel) (Nat.le_of_ble_eq_true rfl) ?_
  intro p e R s m args below meth c hRR hX hr hxt
  have hR : R.frames = d ∧ R.locals = 64 * d := by rw [hRR]; exact ⟨rfl, rfl⟩
  have hX : zm_X p R s m args meth c RL "person" cL_person 5 zk_E V 2 12 := hX
  unfold zf_L_person at h
  refine zw_sub (lv' := [(0, .ref a0), (1, .int i1), (2, .int i2), (3, .ref a3)]) (List.forall_mem_cons.mpr ⟨rfl, (List.forall_mem_cons.mpr ⟨rfl, (List.forall_mem_cons.mpr ⟨rfl, (List.forall_mem_cons.mpr ⟨rfl, zs_nil⟩)⟩)⟩)⟩) ?_
  refine zw_aload_n hX dL_person_0 rfl ?_
  refine zw_iconst (v := (0 : Int32)) hX dL_person_1 (by decide) ?_
  refine zw_aload_n hX dL_person_2 rfl ?_
  refine zw_iload_n hX dL_person_3 rfl ?_
  refine zw_iload_n hX dL_person_4 rfl ?_
  obtain ⟨_, gi, h⟩ := zb_some h
  obtain ⟨r, g, h⟩ := zb_some h
  refine zc_V (as := [.int i1, .int i2]) hX (zt_X11_person hlt (d := d - 1) (by omega) g) zl_L_85 rfl dL_person_5 (zi_spec gi) ⟨rfl, rfl, Nat.le_of_ble_eq_true rfl⟩ ⟨by omega, by omega⟩ ⟨by omega, by omega⟩ ?_ ?_
  · rintro _ S2 ⟨v1, rfl, rfl⟩
    try dsimp only at h
    refine zw_i2l hX dL_person_8 ?_
    obtain ⟨S3, g, h⟩ := zb_some h
    refine zw_sl hX dL_person_9 g ?_
    refine zw_goto (tgt := 21) hX dL_person_10 (by decide) ?_
    refine zw_iconst (v := (0 : Int32)) hX dL_person_21 (by decide) ?_
    obtain rfl := Option.some.inj h
    exact zw_iret hX hr dL_person_22 rfl ⟨rfl, rfl⟩
  · rintro X S9 rfl
    try dsimp only at h
    by_cases cx0 : X = "java/lang/IllegalArgumentException"
    · rw [if_pos cx0] at h
      subst cx0
      refine zx_catch (name := "java/lang/IllegalArgumentException") (i := 4) (h9 := 13) (k9 := 2) hX [] { startPc := 0, endPc := 10, handlerPc := 13, catchType := 13 } [{ startPc := 0, endPc := 10, handlerPc := 17, catchType := 15 }] hxt (fun _ h => absurd h List.not_mem_nil) (by decide) (by decide) zl_L_c13 zl_cast_IllegalArgumentException rfl (by decide) (Or.inl dL_person_13) (by rw [dL_person_13]; rfl) ?_
      refine zw_sub (lv' := []) zs_nil ?_
      refine zw_iconst (v := (1 : Int32)) hX dL_person_15 (by decide) ?_
      obtain rfl := Option.some.inj h
      exact zw_iret hX hr dL_person_16 rfl ⟨rfl, rfl⟩
    · rw [if_neg cx0] at h
      by_cases cx1 : X = "java/lang/IllegalStateException"
      · rw [if_pos cx1] at h
        subst cx1
        refine zx_catch (name := "java/lang/IllegalStateException") (i := 4) (h9 := 17) (k9 := 2) hX [{ startPc := 0, endPc := 10, handlerPc := 13, catchType := 13 }] { startPc := 0, endPc := 10, handlerPc := 17, catchType := 15 } [] hxt (List.forall_mem_cons.mpr ⟨Or.inr ⟨by decide, _, zl_L_c13, zx_nc hX⟩, fun _ h => absurd h List.not_mem_nil⟩) (by decide) (by decide) zl_L_c15 zl_cast_IllegalStateException rfl (by decide) (Or.inl dL_person_17) (by rw [dL_person_17]; rfl) ?_
        refine zw_sub (lv' := []) zs_nil ?_
        refine zw_iconst (v := (2 : Int32)) hX dL_person_19 (by decide) ?_
        obtain rfl := Option.some.inj h
        exact zw_iret hX hr dL_person_20 rfl ⟨rfl, rfl⟩
      · rw [if_neg cx1] at h
        cases h
set_option maxHeartbeats 4000000 in
set_option maxRecDepth 100000 in
theorem zt_L_card {l : Launch} {V : zm_V} (hlt : l.stackTraces = false) {N : Nat} {S : zm_S} {out : (Int32 × zm_S)} {d : Nat} {a0 : Nat} {i1 : Int32} {i2 : Int32} {a3 : Nat} (hd : 8 ≤ d) (h : zf_L_card N a0 i1 i2 a3 S = some out) : zm_Met l zk_E V yL_card (.codeWith yL_card cL_card 5 (some .int) [(0, 10, 13, 13), (0, 10, 17, 15)]) d [.ref a0, .int i1, .int i2, .ref a3] S 2 12 (zo_i out) zo_x := by
  refine zm_ofH (by decide +kernel) (Nat.le_of_ble_eq_true rfl) ?_
  intro p e R s m args below meth c hRR hX hr hxt
  have hR : R.frames = d ∧ R.locals = 64 * d := by rw [hRR]; exact ⟨rfl, rfl⟩
  have hX : zm_X p R s m args meth c RL "card" cL_card 5 zk_E V 2 12 := hX
  unfold zf_L_card at h
  refine zw_sub (lv' := [(0, .ref a0), (1, .int i1), (2, .int i2), (3, .ref a3)]) (List.forall_mem_cons.mpr ⟨rfl, (List.forall_mem_cons.mpr ⟨rfl, (List.forall_mem_cons.mpr ⟨rfl, (List.forall_mem_cons.mpr ⟨rfl, zs_nil⟩)⟩)⟩)⟩) ?_
  refine zw_aload_n hX dL_card_0 rfl ?_
  refine zw_iconst (v := (0 : Int32)) hX dL_card_1 (by decide) ?_
  refine zw_aload_n hX dL_card_2 rfl ?_
  refine zw_iload_n hX dL_card_3 rfl ?_
  refine zw_iload_n hX dL_card_4 rfl ?_
  obtain ⟨_, gi, h⟩ := zb_some h
  obtain ⟨r, g, h⟩ := zb_some h
  refine zc_V (as := [.int i1, .int i2]) hX (zt_X11_card hlt (d := d - 1) (by omega) g) zl_L_88 rfl dL_card_5 (zi_spec gi) ⟨rfl, rfl, Nat.le_of_ble_eq_true rfl⟩ ⟨by omega, by omega⟩ ⟨by omega, by omega⟩ ?_ ?_
  · rintro _ S2 ⟨v1, rfl, rfl⟩
    try dsimp only at h
    refine zw_i2l hX dL_card_8 ?_
    obtain ⟨S3, g, h⟩ := zb_some h
    refine zw_sl hX dL_card_9 g ?_
    refine zw_goto (tgt := 21) hX dL_card_10 (by decide) ?_
    refine zw_iconst (v := (0 : Int32)) hX dL_card_21 (by decide) ?_
    obtain rfl := Option.some.inj h
    exact zw_iret hX hr dL_card_22 rfl ⟨rfl, rfl⟩
  · rintro X S9 rfl
    try dsimp only at h
    by_cases cx0 : X = "java/lang/IllegalArgumentException"
    · rw [if_pos cx0] at h
      subst cx0
      refine zx_catch (name := "java/lang/IllegalArgumentException") (i := 4) (h9 := 13) (k9 := 2) hX [] { startPc := 0, endPc := 10, handlerPc := 13, catchType := 13 } [{ startPc := 0, endPc := 10, handlerPc := 17, catchType := 15 }] hxt (fun _ h => absurd h List.not_mem_nil) (by decide) (by decide) zl_L_c13 zl_cast_IllegalArgumentException rfl (by decide) (Or.inl dL_card_13) (by rw [dL_card_13]; rfl) ?_
      refine zw_sub (lv' := []) zs_nil ?_
      refine zw_iconst (v := (1 : Int32)) hX dL_card_15 (by decide) ?_
      obtain rfl := Option.some.inj h
      exact zw_iret hX hr dL_card_16 rfl ⟨rfl, rfl⟩
    · rw [if_neg cx0] at h
      by_cases cx1 : X = "java/lang/IllegalStateException"
      · rw [if_pos cx1] at h
        subst cx1
        refine zx_catch (name := "java/lang/IllegalStateException") (i := 4) (h9 := 17) (k9 := 2) hX [{ startPc := 0, endPc := 10, handlerPc := 13, catchType := 13 }] { startPc := 0, endPc := 10, handlerPc := 17, catchType := 15 } [] hxt (List.forall_mem_cons.mpr ⟨Or.inr ⟨by decide, _, zl_L_c13, zx_nc hX⟩, fun _ h => absurd h List.not_mem_nil⟩) (by decide) (by decide) zl_L_c15 zl_cast_IllegalStateException rfl (by decide) (Or.inl dL_card_17) (by rw [dL_card_17]; rfl) ?_
        refine zw_sub (lv' := []) zs_nil ?_
        refine zw_iconst (v := (2 : Int32)) hX dL_card_19 (by decide) ?_
        obtain rfl := Option.some.inj h
        exact zw_iret hX hr dL_card_20 rfl ⟨rfl, rfl⟩
      · rw [if_neg cx1] at h
        cases h
set_option maxHeartbeats 4000000 in
set_option maxRecDepth 100000 in
theorem zt_L_right {l : Launch} {V : zm_V} (hlt : l.stackTraces = false) {N : Nat} {S : zm_S} {out : (Int32 × zm_S)} {d : Nat} {a0 : Nat} {i1 : Int32} {i2 : Int32} {i3 : Int32} {i4 : Int32} {i5 : Int32} {a6 : Nat} (hd : 8 ≤ d) (h : zf_L_right N a0 i1 i2 i3 i4 i5 a6 S = some out) : zm_Met l zk_E V yL_right (.codeWith yL_right cL_right 8 (some .int) [(0, 16, 19, 13), (0, 16, 23, 15)]) d [.ref a0, .int i1, .int i2, .int i3, .int i4, .int i5, .ref a6] S 3 18 (zo_i out) zo_x := by
  refine zm_ofH (by decide +kernel) (Nat.le_of_ble_eq_true rfl) ?_
  intro p e R s m args below meth c hRR hX hr hxt
  have hR : R.frames = d ∧ R.locals = 64 * d := by rw [hRR]; exact ⟨rfl, rfl⟩
  have hX : zm_X p R s m args meth c RL "right" cL_right 8 zk_E V 3 18 := hX
  unfold zf_L_right at h
  refine zw_sub (lv' := [(0, .ref a0), (1, .int i1), (2, .int i2), (3, .int i3), (4, .int i4), (5, .int i5), (6, .ref a6)]) (List.forall_mem_cons.mpr ⟨rfl, (List.forall_mem_cons.mpr ⟨rfl, (List.forall_mem_cons.mpr ⟨rfl, (List.forall_mem_cons.mpr ⟨rfl, (List.forall_mem_cons.mpr ⟨rfl, (List.forall_mem_cons.mpr ⟨rfl, (List.forall_mem_cons.mpr ⟨rfl, zs_nil⟩)⟩)⟩)⟩)⟩)⟩)⟩) ?_
  refine zw_aload hX dL_right_0 rfl ?_
  refine zw_iconst (v := (0 : Int32)) hX dL_right_2 (by decide) ?_
  refine zw_aload_n hX dL_right_3 rfl ?_
  refine zw_iload_n hX dL_right_4 rfl ?_
  refine zw_iload_n hX dL_right_5 rfl ?_
  refine zw_iload_n hX dL_right_6 rfl ?_
  refine zw_iload hX dL_right_7 rfl ?_
  refine zw_iload hX dL_right_9 rfl ?_
  obtain ⟨_, gi, h⟩ := zb_some h
  obtain ⟨r, g, h⟩ := zb_some h
  refine zc_V (as := [.int i1, .int i2, .int i3, .int i4, .int i5]) hX (zt_X11_right hlt (d := d - 1) (by omega) g) zl_L_91 rfl dL_right_11 (zi_spec gi) ⟨rfl, rfl, Nat.le_of_ble_eq_true rfl⟩ ⟨by omega, by omega⟩ ⟨by omega, by omega⟩ ?_ ?_
  · rintro _ S2 ⟨v1, rfl, rfl⟩
    try dsimp only at h
    refine zw_i2l hX dL_right_14 ?_
    obtain ⟨S3, g, h⟩ := zb_some h
    refine zw_sl hX dL_right_15 g ?_
    refine zw_goto (tgt := 27) hX dL_right_16 (by decide) ?_
    refine zw_iconst (v := (0 : Int32)) hX dL_right_27 (by decide) ?_
    obtain rfl := Option.some.inj h
    exact zw_iret hX hr dL_right_28 rfl ⟨rfl, rfl⟩
  · rintro X S9 rfl
    try dsimp only at h
    by_cases cx0 : X = "java/lang/IllegalArgumentException"
    · rw [if_pos cx0] at h
      subst cx0
      refine zx_catch (name := "java/lang/IllegalArgumentException") (i := 7) (h9 := 19) (k9 := 2) hX [] { startPc := 0, endPc := 16, handlerPc := 19, catchType := 13 } [{ startPc := 0, endPc := 16, handlerPc := 23, catchType := 15 }] hxt (fun _ h => absurd h List.not_mem_nil) (by decide) (by decide) zl_L_c13 zl_cast_IllegalArgumentException rfl (by decide) (Or.inl dL_right_19) (by rw [dL_right_19]; rfl) ?_
      refine zw_sub (lv' := []) zs_nil ?_
      refine zw_iconst (v := (1 : Int32)) hX dL_right_21 (by decide) ?_
      obtain rfl := Option.some.inj h
      exact zw_iret hX hr dL_right_22 rfl ⟨rfl, rfl⟩
    · rw [if_neg cx0] at h
      by_cases cx1 : X = "java/lang/IllegalStateException"
      · rw [if_pos cx1] at h
        subst cx1
        refine zx_catch (name := "java/lang/IllegalStateException") (i := 7) (h9 := 23) (k9 := 2) hX [{ startPc := 0, endPc := 16, handlerPc := 19, catchType := 13 }] { startPc := 0, endPc := 16, handlerPc := 23, catchType := 15 } [] hxt (List.forall_mem_cons.mpr ⟨Or.inr ⟨by decide, _, zl_L_c13, zx_nc hX⟩, fun _ h => absurd h List.not_mem_nil⟩) (by decide) (by decide) zl_L_c15 zl_cast_IllegalStateException rfl (by decide) (Or.inl dL_right_23) (by rw [dL_right_23]; rfl) ?_
        refine zw_sub (lv' := []) zs_nil ?_
        refine zw_iconst (v := (2 : Int32)) hX dL_right_25 (by decide) ?_
        obtain rfl := Option.some.inj h
        exact zw_iret hX hr dL_right_26 rfl ⟨rfl, rfl⟩
      · rw [if_neg cx1] at h
        cases h
set_option maxHeartbeats 4000000 in
set_option maxRecDepth 100000 in
theorem zt_L_end {l : Launch} {V : zm_V} (hlt : l.stackTraces = false) {N : Nat} {S : zm_S} {out : (Int32 × zm_S)} {d : Nat} {a0 : Nat} {i1 : Int32} {i2 : Int32} {a3 : Nat} (hd : 8 ≤ d) (h : zf_L_end N a0 i1 i2 a3 S = some out) : zm_Met l zk_E V yL_end (.codeWith yL_end cL_end 5 (some .int) [(0, 10, 13, 13), (0, 10, 17, 15)]) d [.ref a0, .int i1, .int i2, .ref a3] S 2 12 (zo_i out) zo_x := by
  refine zm_ofH (by decide +kernel) (Nat.le_of_ble_eq_true rfl) ?_
  intro p e R s m args below meth c hRR hX hr hxt
  have hR : R.frames = d ∧ R.locals = 64 * d := by rw [hRR]; exact ⟨rfl, rfl⟩
  have hX : zm_X p R s m args meth c RL "end" cL_end 5 zk_E V 2 12 := hX
  unfold zf_L_end at h
  refine zw_sub (lv' := [(0, .ref a0), (1, .int i1), (2, .int i2), (3, .ref a3)]) (List.forall_mem_cons.mpr ⟨rfl, (List.forall_mem_cons.mpr ⟨rfl, (List.forall_mem_cons.mpr ⟨rfl, (List.forall_mem_cons.mpr ⟨rfl, zs_nil⟩)⟩)⟩)⟩) ?_
  refine zw_aload_n hX dL_end_0 rfl ?_
  refine zw_iconst (v := (0 : Int32)) hX dL_end_1 (by decide) ?_
  refine zw_aload_n hX dL_end_2 rfl ?_
  refine zw_iload_n hX dL_end_3 rfl ?_
  refine zw_iload_n hX dL_end_4 rfl ?_
  obtain ⟨_, gi, h⟩ := zb_some h
  obtain ⟨r, g, h⟩ := zb_some h
  refine zc_V (as := [.int i1, .int i2]) hX (zt_X11_end hlt (d := d - 1) (by omega) g) zl_L_95 rfl dL_end_5 (zi_spec gi) ⟨rfl, rfl, Nat.le_of_ble_eq_true rfl⟩ ⟨by omega, by omega⟩ ⟨by omega, by omega⟩ ?_ ?_
  · rintro _ S2 ⟨v1, rfl, rfl⟩
    try dsimp only at h
    refine zw_i2l hX dL_end_8 ?_
    obtain ⟨S3, g, h⟩ := zb_some h
    refine zw_sl hX dL_end_9 g ?_
    refine zw_goto (tgt := 21) hX dL_end_10 (by decide) ?_
    refine zw_iconst (v := (0 : Int32)) hX dL_end_21 (by decide) ?_
    obtain rfl := Option.some.inj h
    exact zw_iret hX hr dL_end_22 rfl ⟨rfl, rfl⟩
  · rintro X S9 rfl
    try dsimp only at h
    by_cases cx0 : X = "java/lang/IllegalArgumentException"
    · rw [if_pos cx0] at h
      subst cx0
      refine zx_catch (name := "java/lang/IllegalArgumentException") (i := 4) (h9 := 13) (k9 := 2) hX [] { startPc := 0, endPc := 10, handlerPc := 13, catchType := 13 } [{ startPc := 0, endPc := 10, handlerPc := 17, catchType := 15 }] hxt (fun _ h => absurd h List.not_mem_nil) (by decide) (by decide) zl_L_c13 zl_cast_IllegalArgumentException rfl (by decide) (Or.inl dL_end_13) (by rw [dL_end_13]; rfl) ?_
      refine zw_sub (lv' := []) zs_nil ?_
      refine zw_iconst (v := (1 : Int32)) hX dL_end_15 (by decide) ?_
      obtain rfl := Option.some.inj h
      exact zw_iret hX hr dL_end_16 rfl ⟨rfl, rfl⟩
    · rw [if_neg cx0] at h
      by_cases cx1 : X = "java/lang/IllegalStateException"
      · rw [if_pos cx1] at h
        subst cx1
        refine zx_catch (name := "java/lang/IllegalStateException") (i := 4) (h9 := 17) (k9 := 2) hX [{ startPc := 0, endPc := 10, handlerPc := 13, catchType := 13 }] { startPc := 0, endPc := 10, handlerPc := 17, catchType := 15 } [] hxt (List.forall_mem_cons.mpr ⟨Or.inr ⟨by decide, _, zl_L_c13, zx_nc hX⟩, fun _ h => absurd h List.not_mem_nil⟩) (by decide) (by decide) zl_L_c15 zl_cast_IllegalStateException rfl (by decide) (Or.inl dL_end_17) (by rw [dL_end_17]; rfl) ?_
        refine zw_sub (lv' := []) zs_nil ?_
        refine zw_iconst (v := (2 : Int32)) hX dL_end_19 (by decide) ?_
        obtain rfl := Option.some.inj h
        exact zw_iret hX hr dL_end_20 rfl ⟨rfl, rfl⟩
      · rw [if_neg cx1] at h
        cases h
set_option maxHeartbeats 4000000 in
set_option maxRecDepth 100000 in
theorem zt_L_lost {l : Launch} {V : zm_V} (hlt : l.stackTraces = false) {N : Nat} {S : zm_S} {out : (Int32 × zm_S)} {d : Nat} {a0 : Nat} {i1 : Int32} {i2 : Int32} {a3 : Nat} (hd : 8 ≤ d) (h : zf_L_lost N a0 i1 i2 a3 S = some out) : zm_Met l zk_E V yL_lost (.codeWith yL_lost cL_lost 5 (some .int) [(0, 10, 13, 13), (0, 10, 17, 15)]) d [.ref a0, .int i1, .int i2, .ref a3] S 2 12 (zo_i out) zo_x := by
  refine zm_ofH (by decide +kernel) (Nat.le_of_ble_eq_true rfl) ?_
  intro p e R s m args below meth c hRR hX hr hxt
  have hR : R.frames = d ∧ R.locals = 64 * d := by rw [hRR]; exact ⟨rfl, rfl⟩
  have hX : zm_X p R s m args meth c RL "lost" cL_lost 5 zk_E V 2 12 := hX
  unfold zf_L_lost at h
  refine zw_sub (lv' := [(0, .ref a0), (1, .int i1), (2, .int i2), (3, .ref a3)]) (List.forall_mem_cons.mpr ⟨rfl, (List.forall_mem_cons.mpr ⟨rfl, (List.forall_mem_cons.mpr ⟨rfl, (List.forall_mem_cons.mpr ⟨rfl, zs_nil⟩)⟩)⟩)⟩) ?_
  refine zw_aload_n hX dL_lost_0 rfl ?_
  refine zw_iconst (v := (0 : Int32)) hX dL_lost_1 (by decide) ?_
  refine zw_aload_n hX dL_lost_2 rfl ?_
  refine zw_iload_n hX dL_lost_3 rfl ?_
  refine zw_iload_n hX dL_lost_4 rfl ?_
  obtain ⟨_, gi, h⟩ := zb_some h
  obtain ⟨r, g, h⟩ := zb_some h
  refine zc_V (as := [.int i1, .int i2]) hX (zt_X11_lost hlt (d := d - 1) (by omega) g) zl_L_98 rfl dL_lost_5 (zi_spec gi) ⟨rfl, rfl, Nat.le_of_ble_eq_true rfl⟩ ⟨by omega, by omega⟩ ⟨by omega, by omega⟩ ?_ ?_
  · rintro _ S2 ⟨v1, rfl, rfl⟩
    try dsimp only at h
    refine zw_i2l hX dL_lost_8 ?_
    obtain ⟨S3, g, h⟩ := zb_some h
    refine zw_sl hX dL_lost_9 g ?_
    refine zw_goto (tgt := 21) hX dL_lost_10 (by decide) ?_
    refine zw_iconst (v := (0 : Int32)) hX dL_lost_21 (by decide) ?_
    obtain rfl := Option.some.inj h
    exact zw_iret hX hr dL_lost_22 rfl ⟨rfl, rfl⟩
  · rintro X S9 rfl
    try dsimp only at h
    by_cases cx0 : X = "java/lang/IllegalArgumentException"
    · rw [if_pos cx0] at h
      subst cx0
      refine zx_catch (name := "java/lang/IllegalArgumentException") (i := 4) (h9 := 13) (k9 := 2) hX [] { startPc := 0, endPc := 10, handlerPc := 13, catchType := 13 } [{ startPc := 0, endPc := 10, handlerPc := 17, catchType := 15 }] hxt (fun _ h => absurd h List.not_mem_nil) (by decide) (by decide) zl_L_c13 zl_cast_IllegalArgumentException rfl (by decide) (Or.inl dL_lost_13) (by rw [dL_lost_13]; rfl) ?_
      refine zw_sub (lv' := []) zs_nil ?_
      refine zw_iconst (v := (1 : Int32)) hX dL_lost_15 (by decide) ?_
      obtain rfl := Option.some.inj h
      exact zw_iret hX hr dL_lost_16 rfl ⟨rfl, rfl⟩
    · rw [if_neg cx0] at h
      by_cases cx1 : X = "java/lang/IllegalStateException"
      · rw [if_pos cx1] at h
        subst cx1
        refine zx_catch (name := "java/lang/IllegalStateException") (i := 4) (h9 := 17) (k9 := 2) hX [{ startPc := 0, endPc := 10, handlerPc := 13, catchType := 13 }] { startPc := 0, endPc := 10, handlerPc := 17, catchType := 15 } [] hxt (List.forall_mem_cons.mpr ⟨Or.inr ⟨by decide, _, zl_L_c13, zx_nc hX⟩, fun _ h => absurd h List.not_mem_nil⟩) (by decide) (by decide) zl_L_c15 zl_cast_IllegalStateException rfl (by decide) (Or.inl dL_lost_17) (by rw [dL_lost_17]; rfl) ?_
        refine zw_sub (lv' := []) zs_nil ?_
        refine zw_iconst (v := (2 : Int32)) hX dL_lost_19 (by decide) ?_
        obtain rfl := Option.some.inj h
        exact zw_iret hX hr dL_lost_20 rfl ⟨rfl, rfl⟩
      · rw [if_neg cx1] at h
        cases h
set_option maxHeartbeats 4000000 in
set_option maxRecDepth 100000 in
theorem zt_L_two_J16 {p : Program} {l : Launch} {e : Env} {R : Room} {s : State} {m : MethodId} {args : Array Value} {below : List Frame} {meth : Method} {c : Code} {V : zm_V} {mc ms d rc rs : Nat} (hlt : l.stackTraces = false) (hxt : c.exceptionTable.toList = tableOf [(0, 17, 20, 13), (0, 17, 24, 15)]) (hX : zm_X p R s m args meth c RL "two" cL_two 5 zk_E V mc ms) (hr : meth.sig.returnType = (some .int)) (hR : R.frames = d ∧ R.locals = 64 * d) (hd : 8 ≤ d) {N : Nat} {t0 : Nat} {t1 : Int32} {t2 : Int64} {out : (Int32 × zm_S)} (hc : 0 ≤ rc ∧ 0 ≤ rs) {S : zm_S} (h : zf_L_two_J16 N t0 t1 t2 S = some out) : zw p l e R s m args below meth c (vx_MQ below (zm_Qc zk_E V (zo_i out)) (zm_XC zk_E V zo_x) args s mc ms (fun q => V.2.2.2.1 ≤ q)) 5 zk_E V mc ms 16 [] [.long t2, .int t1, .ref t0] S rc rs := by
  unfold zf_L_two_J16 at h
  obtain ⟨S3, g, h⟩ := zb_some h
  refine zw_sl hX dL_two_16 g ?_
  refine zw_goto (tgt := 28) hX dL_two_17 (by decide) ?_
  refine zw_iconst (v := (0 : Int32)) hX dL_two_28 (by decide) ?_
  obtain rfl := Option.some.inj h
  exact zw_iret hX hr dL_two_29 rfl ⟨rfl, rfl⟩
set_option maxHeartbeats 4000000 in
set_option maxRecDepth 100000 in
theorem zt_L_two {l : Launch} {V : zm_V} (hlt : l.stackTraces = false) {N : Nat} {S : zm_S} {out : (Int32 × zm_S)} {d : Nat} {a0 : Nat} {i1 : Int32} {i2 : Int32} {a3 : Nat} (hd : 8 ≤ d) (h : zf_L_two N a0 i1 i2 a3 S = some out) : zm_Met l zk_E V yL_two (.codeWith yL_two cL_two 5 (some .int) [(0, 17, 20, 13), (0, 17, 24, 15)]) d [.ref a0, .int i1, .int i2, .ref a3] S 2 12 (zo_i out) zo_x := by
  refine zm_ofH (by decide +kernel) (Nat.le_of_ble_eq_true rfl) ?_
  intro p e R s m args below meth c hRR hX hr hxt
  have hR : R.frames = d ∧ R.locals = 64 * d := by rw [hRR]; exact ⟨rfl, rfl⟩
  have hX : zm_X p R s m args meth c RL "two" cL_two 5 zk_E V 2 12 := hX
  unfold zf_L_two at h
  refine zw_sub (lv' := [(0, .ref a0), (1, .int i1), (2, .int i2), (3, .ref a3)]) (List.forall_mem_cons.mpr ⟨rfl, (List.forall_mem_cons.mpr ⟨rfl, (List.forall_mem_cons.mpr ⟨rfl, (List.forall_mem_cons.mpr ⟨rfl, zs_nil⟩)⟩)⟩)⟩) ?_
  refine zw_aload_n hX dL_two_0 rfl ?_
  refine zw_iconst (v := (0 : Int32)) hX dL_two_1 (by decide) ?_
  refine zw_aload_n hX dL_two_2 rfl ?_
  refine zw_iload_n hX dL_two_3 rfl ?_
  refine zw_iload_n hX dL_two_4 rfl ?_
  obtain ⟨_, gi, h⟩ := zb_some h
  obtain ⟨r, g, h⟩ := zb_some h
  refine zc_V (as := [.int i1, .int i2]) hX (zt_X11_two hlt (d := d - 1) (by omega) g) zl_L_101 rfl dL_two_5 (zi_spec gi) ⟨rfl, rfl, Nat.le_of_ble_eq_true rfl⟩ ⟨by omega, by omega⟩ ⟨by omega, by omega⟩ ?_ ?_
  · rintro _ S2 ⟨v1, rfl, rfl⟩
    try dsimp only at h
    refine zw_if_eq (tgt := 15) hX dL_two_8 (by decide) (fun c8 => ?_) (fun c8 => ?_)
    · rw [if_pos c8] at h
      refine zw_lconst (v := (0 : Int64)) hX dL_two_15 (by decide) ?_
      refine zw_sub (lv' := []) zs_nil ?_
      exact zt_L_two_J16 hlt hxt hX hr hR hd ⟨by omega, by omega⟩ h
    · rw [if_neg c8] at h
      refine zw_lconst (v := (1 : Int64)) hX dL_two_11 (by decide) ?_
      refine zw_goto (tgt := 16) hX dL_two_12 (by decide) ?_
      refine zw_sub (lv' := []) zs_nil ?_
      exact zt_L_two_J16 hlt hxt hX hr hR hd ⟨by omega, by omega⟩ h
  · rintro X S9 rfl
    try dsimp only at h
    by_cases cx0 : X = "java/lang/IllegalArgumentException"
    · rw [if_pos cx0] at h
      subst cx0
      refine zx_catch (name := "java/lang/IllegalArgumentException") (i := 4) (h9 := 20) (k9 := 2) hX [] { startPc := 0, endPc := 17, handlerPc := 20, catchType := 13 } [{ startPc := 0, endPc := 17, handlerPc := 24, catchType := 15 }] hxt (fun _ h => absurd h List.not_mem_nil) (by decide) (by decide) zl_L_c13 zl_cast_IllegalArgumentException rfl (by decide) (Or.inl dL_two_20) (by rw [dL_two_20]; rfl) ?_
      refine zw_sub (lv' := []) zs_nil ?_
      refine zw_iconst (v := (1 : Int32)) hX dL_two_22 (by decide) ?_
      obtain rfl := Option.some.inj h
      exact zw_iret hX hr dL_two_23 rfl ⟨rfl, rfl⟩
    · rw [if_neg cx0] at h
      by_cases cx1 : X = "java/lang/IllegalStateException"
      · rw [if_pos cx1] at h
        subst cx1
        refine zx_catch (name := "java/lang/IllegalStateException") (i := 4) (h9 := 24) (k9 := 2) hX [{ startPc := 0, endPc := 17, handlerPc := 20, catchType := 13 }] { startPc := 0, endPc := 17, handlerPc := 24, catchType := 15 } [] hxt (List.forall_mem_cons.mpr ⟨Or.inr ⟨by decide, _, zl_L_c13, zx_nc hX⟩, fun _ h => absurd h List.not_mem_nil⟩) (by decide) (by decide) zl_L_c15 zl_cast_IllegalStateException rfl (by decide) (Or.inl dL_two_24) (by rw [dL_two_24]; rfl) ?_
        refine zw_sub (lv' := []) zs_nil ?_
        refine zw_iconst (v := (2 : Int32)) hX dL_two_26 (by decide) ?_
        obtain rfl := Option.some.inj h
        exact zw_iret hX hr dL_two_27 rfl ⟨rfl, rfl⟩
      · rw [if_neg cx1] at h
        cases h
set_option maxHeartbeats 4000000 in
set_option maxRecDepth 100000 in
theorem zt_L_airlock_J18 {p : Program} {l : Launch} {e : Env} {R : Room} {s : State} {m : MethodId} {args : Array Value} {below : List Frame} {meth : Method} {c : Code} {V : zm_V} {mc ms d rc rs : Nat} (hlt : l.stackTraces = false) (hxt : c.exceptionTable.toList = tableOf [(0, 19, 22, 13), (0, 19, 26, 15)]) (hX : zm_X p R s m args meth c RL "airlock" cL_airlock 6 zk_E V mc ms) (hr : meth.sig.returnType = (some .int)) (hR : R.frames = d ∧ R.locals = 64 * d) (hd : 8 ≤ d) {N : Nat} {t0 : Nat} {t1 : Int32} {t2 : Int64} {out : (Int32 × zm_S)} (hc : 0 ≤ rc ∧ 0 ≤ rs) {S : zm_S} (h : zf_L_airlock_J18 N t0 t1 t2 S = some out) : zw p l e R s m args below meth c (vx_MQ below (zm_Qc zk_E V (zo_i out)) (zm_XC zk_E V zo_x) args s mc ms (fun q => V.2.2.2.1 ≤ q)) 6 zk_E V mc ms 18 [] [.long t2, .int t1, .ref t0] S rc rs := by
  unfold zf_L_airlock_J18 at h
  obtain ⟨S3, g, h⟩ := zb_some h
  refine zw_sl hX dL_airlock_18 g ?_
  refine zw_goto (tgt := 30) hX dL_airlock_19 (by decide) ?_
  refine zw_iconst (v := (0 : Int32)) hX dL_airlock_30 (by decide) ?_
  obtain rfl := Option.some.inj h
  exact zw_iret hX hr dL_airlock_31 rfl ⟨rfl, rfl⟩
set_option maxHeartbeats 4000000 in
set_option maxRecDepth 100000 in
theorem zt_L_airlock {l : Launch} {V : zm_V} (hlt : l.stackTraces = false) {N : Nat} {S : zm_S} {out : (Int32 × zm_S)} {d : Nat} {a0 : Nat} {i1 : Int32} {i2 : Int32} {i3 : Int32} {a4 : Nat} (hd : 8 ≤ d) (h : zf_L_airlock N a0 i1 i2 i3 a4 S = some out) : zm_Met l zk_E V yL_airlock (.codeWith yL_airlock cL_airlock 6 (some .int) [(0, 19, 22, 13), (0, 19, 26, 15)]) d [.ref a0, .int i1, .int i2, .int i3, .ref a4] S 2 12 (zo_i out) zo_x := by
  refine zm_ofH (by decide +kernel) (Nat.le_of_ble_eq_true rfl) ?_
  intro p e R s m args below meth c hRR hX hr hxt
  have hR : R.frames = d ∧ R.locals = 64 * d := by rw [hRR]; exact ⟨rfl, rfl⟩
  have hX : zm_X p R s m args meth c RL "airlock" cL_airlock 6 zk_E V 2 12 := hX
  unfold zf_L_airlock at h
  refine zw_sub (lv' := [(0, .ref a0), (1, .int i1), (2, .int i2), (3, .int i3), (4, .ref a4)]) (List.forall_mem_cons.mpr ⟨rfl, (List.forall_mem_cons.mpr ⟨rfl, (List.forall_mem_cons.mpr ⟨rfl, (List.forall_mem_cons.mpr ⟨rfl, (List.forall_mem_cons.mpr ⟨rfl, zs_nil⟩)⟩)⟩)⟩)⟩) ?_
  refine zw_aload hX dL_airlock_0 rfl ?_
  refine zw_iconst (v := (0 : Int32)) hX dL_airlock_2 (by decide) ?_
  refine zw_aload_n hX dL_airlock_3 rfl ?_
  refine zw_iload_n hX dL_airlock_4 rfl ?_
  refine zw_iload_n hX dL_airlock_5 rfl ?_
  refine zw_iload_n hX dL_airlock_6 rfl ?_
  obtain ⟨_, gi, h⟩ := zb_some h
  obtain ⟨r, g, h⟩ := zb_some h
  refine zc_V (as := [.int i1, .int i2, .int i3]) hX (zt_X11_airlock hlt (d := d - 1) (by omega) g) zl_L_105 rfl dL_airlock_7 (zi_spec gi) ⟨rfl, rfl, Nat.le_of_ble_eq_true rfl⟩ ⟨by omega, by omega⟩ ⟨by omega, by omega⟩ ?_ ?_
  · rintro _ S2 ⟨v1, rfl, rfl⟩
    try dsimp only at h
    refine zw_if_eq (tgt := 17) hX dL_airlock_10 (by decide) (fun c10 => ?_) (fun c10 => ?_)
    · rw [if_pos c10] at h
      refine zw_lconst (v := (0 : Int64)) hX dL_airlock_17 (by decide) ?_
      refine zw_sub (lv' := []) zs_nil ?_
      exact zt_L_airlock_J18 hlt hxt hX hr hR hd ⟨by omega, by omega⟩ h
    · rw [if_neg c10] at h
      refine zw_lconst (v := (1 : Int64)) hX dL_airlock_13 (by decide) ?_
      refine zw_goto (tgt := 18) hX dL_airlock_14 (by decide) ?_
      refine zw_sub (lv' := []) zs_nil ?_
      exact zt_L_airlock_J18 hlt hxt hX hr hR hd ⟨by omega, by omega⟩ h
  · rintro X S9 rfl
    try dsimp only at h
    by_cases cx0 : X = "java/lang/IllegalArgumentException"
    · rw [if_pos cx0] at h
      subst cx0
      refine zx_catch (name := "java/lang/IllegalArgumentException") (i := 5) (h9 := 22) (k9 := 2) hX [] { startPc := 0, endPc := 19, handlerPc := 22, catchType := 13 } [{ startPc := 0, endPc := 19, handlerPc := 26, catchType := 15 }] hxt (fun _ h => absurd h List.not_mem_nil) (by decide) (by decide) zl_L_c13 zl_cast_IllegalArgumentException rfl (by decide) (Or.inl dL_airlock_22) (by rw [dL_airlock_22]; rfl) ?_
      refine zw_sub (lv' := []) zs_nil ?_
      refine zw_iconst (v := (1 : Int32)) hX dL_airlock_24 (by decide) ?_
      obtain rfl := Option.some.inj h
      exact zw_iret hX hr dL_airlock_25 rfl ⟨rfl, rfl⟩
    · rw [if_neg cx0] at h
      by_cases cx1 : X = "java/lang/IllegalStateException"
      · rw [if_pos cx1] at h
        subst cx1
        refine zx_catch (name := "java/lang/IllegalStateException") (i := 5) (h9 := 26) (k9 := 2) hX [{ startPc := 0, endPc := 19, handlerPc := 22, catchType := 13 }] { startPc := 0, endPc := 19, handlerPc := 26, catchType := 15 } [] hxt (List.forall_mem_cons.mpr ⟨Or.inr ⟨by decide, _, zl_L_c13, zx_nc hX⟩, fun _ h => absurd h List.not_mem_nil⟩) (by decide) (by decide) zl_L_c15 zl_cast_IllegalStateException rfl (by decide) (Or.inl dL_airlock_26) (by rw [dL_airlock_26]; rfl) ?_
        refine zw_sub (lv' := []) zs_nil ?_
        refine zw_iconst (v := (2 : Int32)) hX dL_airlock_28 (by decide) ?_
        obtain rfl := Option.some.inj h
        exact zw_iret hX hr dL_airlock_29 rfl ⟨rfl, rfl⟩
      · rw [if_neg cx1] at h
        cases h
set_option maxHeartbeats 4000000 in
set_option maxRecDepth 100000 in
theorem zt_L_stands {l : Launch} {V : zm_V} (hlt : l.stackTraces = false) {N : Nat} {S : zm_S} {out : (Int32 × zm_S)} {d : Nat} {a0 : Nat} {i1 : Int32} {i2 : Int32} {a3 : Nat} (hd : 8 ≤ d) (h : zf_L_stands N a0 i1 i2 a3 S = some out) : zm_Met l zk_E V yL_stands (.codeWith yL_stands cL_stands 5 (some .int) [(0, 10, 13, 13), (0, 10, 17, 15)]) d [.ref a0, .int i1, .int i2, .ref a3] S 2 12 (zo_i out) zo_x := by
  refine zm_ofH (by decide +kernel) (Nat.le_of_ble_eq_true rfl) ?_
  intro p e R s m args below meth c hRR hX hr hxt
  have hR : R.frames = d ∧ R.locals = 64 * d := by rw [hRR]; exact ⟨rfl, rfl⟩
  have hX : zm_X p R s m args meth c RL "stands" cL_stands 5 zk_E V 2 12 := hX
  unfold zf_L_stands at h
  refine zw_sub (lv' := [(0, .ref a0), (1, .int i1), (2, .int i2), (3, .ref a3)]) (List.forall_mem_cons.mpr ⟨rfl, (List.forall_mem_cons.mpr ⟨rfl, (List.forall_mem_cons.mpr ⟨rfl, (List.forall_mem_cons.mpr ⟨rfl, zs_nil⟩)⟩)⟩)⟩) ?_
  refine zw_aload_n hX dL_stands_0 rfl ?_
  refine zw_iconst (v := (0 : Int32)) hX dL_stands_1 (by decide) ?_
  refine zw_aload_n hX dL_stands_2 rfl ?_
  refine zw_iload_n hX dL_stands_3 rfl ?_
  refine zw_iload_n hX dL_stands_4 rfl ?_
  obtain ⟨_, gi, h⟩ := zb_some h
  obtain ⟨r, g, h⟩ := zb_some h
  refine zc_V (as := [.int i1, .int i2]) hX (zt_X11_stands hlt (d := d - 1) (by omega) g) zl_L_109 rfl dL_stands_5 (zi_spec gi) ⟨rfl, rfl, Nat.le_of_ble_eq_true rfl⟩ ⟨by omega, by omega⟩ ⟨by omega, by omega⟩ ?_ ?_
  · rintro _ S2 ⟨v1, rfl, rfl⟩
    try dsimp only at h
    refine zw_i2l hX dL_stands_8 ?_
    obtain ⟨S3, g, h⟩ := zb_some h
    refine zw_sl hX dL_stands_9 g ?_
    refine zw_goto (tgt := 21) hX dL_stands_10 (by decide) ?_
    refine zw_iconst (v := (0 : Int32)) hX dL_stands_21 (by decide) ?_
    obtain rfl := Option.some.inj h
    exact zw_iret hX hr dL_stands_22 rfl ⟨rfl, rfl⟩
  · rintro X S9 rfl
    try dsimp only at h
    by_cases cx0 : X = "java/lang/IllegalArgumentException"
    · rw [if_pos cx0] at h
      subst cx0
      refine zx_catch (name := "java/lang/IllegalArgumentException") (i := 4) (h9 := 13) (k9 := 2) hX [] { startPc := 0, endPc := 10, handlerPc := 13, catchType := 13 } [{ startPc := 0, endPc := 10, handlerPc := 17, catchType := 15 }] hxt (fun _ h => absurd h List.not_mem_nil) (by decide) (by decide) zl_L_c13 zl_cast_IllegalArgumentException rfl (by decide) (Or.inl dL_stands_13) (by rw [dL_stands_13]; rfl) ?_
      refine zw_sub (lv' := []) zs_nil ?_
      refine zw_iconst (v := (1 : Int32)) hX dL_stands_15 (by decide) ?_
      obtain rfl := Option.some.inj h
      exact zw_iret hX hr dL_stands_16 rfl ⟨rfl, rfl⟩
    · rw [if_neg cx0] at h
      by_cases cx1 : X = "java/lang/IllegalStateException"
      · rw [if_pos cx1] at h
        subst cx1
        refine zx_catch (name := "java/lang/IllegalStateException") (i := 4) (h9 := 17) (k9 := 2) hX [{ startPc := 0, endPc := 10, handlerPc := 13, catchType := 13 }] { startPc := 0, endPc := 10, handlerPc := 17, catchType := 15 } [] hxt (List.forall_mem_cons.mpr ⟨Or.inr ⟨by decide, _, zl_L_c13, zx_nc hX⟩, fun _ h => absurd h List.not_mem_nil⟩) (by decide) (by decide) zl_L_c15 zl_cast_IllegalStateException rfl (by decide) (Or.inl dL_stands_17) (by rw [dL_stands_17]; rfl) ?_
        refine zw_sub (lv' := []) zs_nil ?_
        refine zw_iconst (v := (2 : Int32)) hX dL_stands_19 (by decide) ?_
        obtain rfl := Option.some.inj h
        exact zw_iret hX hr dL_stands_20 rfl ⟨rfl, rfl⟩
      · rw [if_neg cx1] at h
        cases h
set_option maxHeartbeats 4000000 in
set_option maxRecDepth 100000 in
theorem zt_L_off {l : Launch} {V : zm_V} (hlt : l.stackTraces = false) {N : Nat} {S : zm_S} {out : (Int32 × zm_S)} {d : Nat} {a0 : Nat} {i1 : Int32} {i2 : Int32} {a3 : Nat} (hd : 8 ≤ d) (h : zf_L_off N a0 i1 i2 a3 S = some out) : zm_Met l zk_E V yL_off (.codeWith yL_off cL_off 5 (some .int) [(0, 10, 13, 13), (0, 10, 17, 15)]) d [.ref a0, .int i1, .int i2, .ref a3] S 2 12 (zo_i out) zo_x := by
  refine zm_ofH (by decide +kernel) (Nat.le_of_ble_eq_true rfl) ?_
  intro p e R s m args below meth c hRR hX hr hxt
  have hR : R.frames = d ∧ R.locals = 64 * d := by rw [hRR]; exact ⟨rfl, rfl⟩
  have hX : zm_X p R s m args meth c RL "off" cL_off 5 zk_E V 2 12 := hX
  unfold zf_L_off at h
  refine zw_sub (lv' := [(0, .ref a0), (1, .int i1), (2, .int i2), (3, .ref a3)]) (List.forall_mem_cons.mpr ⟨rfl, (List.forall_mem_cons.mpr ⟨rfl, (List.forall_mem_cons.mpr ⟨rfl, (List.forall_mem_cons.mpr ⟨rfl, zs_nil⟩)⟩)⟩)⟩) ?_
  refine zw_aload_n hX dL_off_0 rfl ?_
  refine zw_iconst (v := (0 : Int32)) hX dL_off_1 (by decide) ?_
  refine zw_aload_n hX dL_off_2 rfl ?_
  refine zw_iload_n hX dL_off_3 rfl ?_
  refine zw_iload_n hX dL_off_4 rfl ?_
  obtain ⟨_, gi, h⟩ := zb_some h
  obtain ⟨r, g, h⟩ := zb_some h
  refine zc_V (as := [.int i1, .int i2]) hX (zt_X11_off hlt (d := d - 1) (by omega) g) zl_L_113 rfl dL_off_5 (zi_spec gi) ⟨rfl, rfl, Nat.le_of_ble_eq_true rfl⟩ ⟨by omega, by omega⟩ ⟨by omega, by omega⟩ ?_ ?_
  · rintro _ S2 ⟨v1, rfl, rfl⟩
    try dsimp only at h
    refine zw_i2l hX dL_off_8 ?_
    obtain ⟨S3, g, h⟩ := zb_some h
    refine zw_sl hX dL_off_9 g ?_
    refine zw_goto (tgt := 21) hX dL_off_10 (by decide) ?_
    refine zw_iconst (v := (0 : Int32)) hX dL_off_21 (by decide) ?_
    obtain rfl := Option.some.inj h
    exact zw_iret hX hr dL_off_22 rfl ⟨rfl, rfl⟩
  · rintro X S9 rfl
    try dsimp only at h
    by_cases cx0 : X = "java/lang/IllegalArgumentException"
    · rw [if_pos cx0] at h
      subst cx0
      refine zx_catch (name := "java/lang/IllegalArgumentException") (i := 4) (h9 := 13) (k9 := 2) hX [] { startPc := 0, endPc := 10, handlerPc := 13, catchType := 13 } [{ startPc := 0, endPc := 10, handlerPc := 17, catchType := 15 }] hxt (fun _ h => absurd h List.not_mem_nil) (by decide) (by decide) zl_L_c13 zl_cast_IllegalArgumentException rfl (by decide) (Or.inl dL_off_13) (by rw [dL_off_13]; rfl) ?_
      refine zw_sub (lv' := []) zs_nil ?_
      refine zw_iconst (v := (1 : Int32)) hX dL_off_15 (by decide) ?_
      obtain rfl := Option.some.inj h
      exact zw_iret hX hr dL_off_16 rfl ⟨rfl, rfl⟩
    · rw [if_neg cx0] at h
      by_cases cx1 : X = "java/lang/IllegalStateException"
      · rw [if_pos cx1] at h
        subst cx1
        refine zx_catch (name := "java/lang/IllegalStateException") (i := 4) (h9 := 17) (k9 := 2) hX [{ startPc := 0, endPc := 10, handlerPc := 13, catchType := 13 }] { startPc := 0, endPc := 10, handlerPc := 17, catchType := 15 } [] hxt (List.forall_mem_cons.mpr ⟨Or.inr ⟨by decide, _, zl_L_c13, zx_nc hX⟩, fun _ h => absurd h List.not_mem_nil⟩) (by decide) (by decide) zl_L_c15 zl_cast_IllegalStateException rfl (by decide) (Or.inl dL_off_17) (by rw [dL_off_17]; rfl) ?_
        refine zw_sub (lv' := []) zs_nil ?_
        refine zw_iconst (v := (2 : Int32)) hX dL_off_19 (by decide) ?_
        obtain rfl := Option.some.inj h
        exact zw_iret hX hr dL_off_20 rfl ⟨rfl, rfl⟩
      · rw [if_neg cx1] at h
        cases h
set_option maxHeartbeats 4000000 in
set_option maxRecDepth 100000 in
theorem zt_L_ask {l : Launch} {V : zm_V} (hlt : l.stackTraces = false) {N : Nat} {S : zm_S} {out : (Int32 × zm_S)} {d : Nat} {a0 : Nat} {i1 : Int32} {i2 : Int32} {i3 : Int32} {a4 : Nat} (hd : 8 ≤ d) (h : zf_L_ask N a0 i1 i2 i3 a4 S = some out) : zm_Met l zk_E V yL_ask (.codeWith yL_ask cL_ask 6 (some .int) [(0, 12, 15, 13), (0, 12, 19, 15)]) d [.ref a0, .int i1, .int i2, .int i3, .ref a4] S 2 12 (zo_i out) zo_x := by
  refine zm_ofH (by decide +kernel) (Nat.le_of_ble_eq_true rfl) ?_
  intro p e R s m args below meth c hRR hX hr hxt
  have hR : R.frames = d ∧ R.locals = 64 * d := by rw [hRR]; exact ⟨rfl, rfl⟩
  have hX : zm_X p R s m args meth c RL "ask" cL_ask 6 zk_E V 2 12 := hX
  unfold zf_L_ask at h
  refine zw_sub (lv' := [(0, .ref a0), (1, .int i1), (2, .int i2), (3, .int i3), (4, .ref a4)]) (List.forall_mem_cons.mpr ⟨rfl, (List.forall_mem_cons.mpr ⟨rfl, (List.forall_mem_cons.mpr ⟨rfl, (List.forall_mem_cons.mpr ⟨rfl, (List.forall_mem_cons.mpr ⟨rfl, zs_nil⟩)⟩)⟩)⟩)⟩) ?_
  refine zw_aload hX dL_ask_0 rfl ?_
  refine zw_iconst (v := (0 : Int32)) hX dL_ask_2 (by decide) ?_
  refine zw_aload_n hX dL_ask_3 rfl ?_
  refine zw_iload_n hX dL_ask_4 rfl ?_
  refine zw_iload_n hX dL_ask_5 rfl ?_
  refine zw_iload_n hX dL_ask_6 rfl ?_
  obtain ⟨_, gi, h⟩ := zb_some h
  obtain ⟨r, g, h⟩ := zb_some h
  refine zc_V (as := [.int i1, .int i2, .int i3]) hX (zt_X11_ask hlt (d := d - 1) (by omega) g) zl_L_116 rfl dL_ask_7 (zi_spec gi) ⟨rfl, rfl, Nat.le_of_ble_eq_true rfl⟩ ⟨by omega, by omega⟩ ⟨by omega, by omega⟩ ?_ ?_
  · rintro _ S2 ⟨v1, rfl, rfl⟩
    try dsimp only at h
    refine zw_i2l hX dL_ask_10 ?_
    obtain ⟨S3, g, h⟩ := zb_some h
    refine zw_sl hX dL_ask_11 g ?_
    refine zw_goto (tgt := 23) hX dL_ask_12 (by decide) ?_
    refine zw_iconst (v := (0 : Int32)) hX dL_ask_23 (by decide) ?_
    obtain rfl := Option.some.inj h
    exact zw_iret hX hr dL_ask_24 rfl ⟨rfl, rfl⟩
  · rintro X S9 rfl
    try dsimp only at h
    by_cases cx0 : X = "java/lang/IllegalArgumentException"
    · rw [if_pos cx0] at h
      subst cx0
      refine zx_catch (name := "java/lang/IllegalArgumentException") (i := 5) (h9 := 15) (k9 := 2) hX [] { startPc := 0, endPc := 12, handlerPc := 15, catchType := 13 } [{ startPc := 0, endPc := 12, handlerPc := 19, catchType := 15 }] hxt (fun _ h => absurd h List.not_mem_nil) (by decide) (by decide) zl_L_c13 zl_cast_IllegalArgumentException rfl (by decide) (Or.inl dL_ask_15) (by rw [dL_ask_15]; rfl) ?_
      refine zw_sub (lv' := []) zs_nil ?_
      refine zw_iconst (v := (1 : Int32)) hX dL_ask_17 (by decide) ?_
      obtain rfl := Option.some.inj h
      exact zw_iret hX hr dL_ask_18 rfl ⟨rfl, rfl⟩
    · rw [if_neg cx0] at h
      by_cases cx1 : X = "java/lang/IllegalStateException"
      · rw [if_pos cx1] at h
        subst cx1
        refine zx_catch (name := "java/lang/IllegalStateException") (i := 5) (h9 := 19) (k9 := 2) hX [{ startPc := 0, endPc := 12, handlerPc := 15, catchType := 13 }] { startPc := 0, endPc := 12, handlerPc := 19, catchType := 15 } [] hxt (List.forall_mem_cons.mpr ⟨Or.inr ⟨by decide, _, zl_L_c13, zx_nc hX⟩, fun _ h => absurd h List.not_mem_nil⟩) (by decide) (by decide) zl_L_c15 zl_cast_IllegalStateException rfl (by decide) (Or.inl dL_ask_19) (by rw [dL_ask_19]; rfl) ?_
        refine zw_sub (lv' := []) zs_nil ?_
        refine zw_iconst (v := (2 : Int32)) hX dL_ask_21 (by decide) ?_
        obtain rfl := Option.some.inj h
        exact zw_iret hX hr dL_ask_22 rfl ⟨rfl, rfl⟩
      · rw [if_neg cx1] at h
        cases h
set_option maxHeartbeats 4000000 in
set_option maxRecDepth 100000 in
theorem zt_L_both {l : Launch} {V : zm_V} (hlt : l.stackTraces = false) {N : Nat} {S : zm_S} {out : (Int32 × zm_S)} {d : Nat} {a0 : Nat} {i1 : Int32} {i2 : Int32} {i3 : Int32} {i4 : Int32} {a5 : Nat} (hd : 8 ≤ d) (h : zf_L_both N a0 i1 i2 i3 i4 a5 S = some out) : zm_Met l zk_E V yL_both (.codeWith yL_both cL_both 7 (some .int) [(0, 14, 17, 13), (0, 14, 21, 15)]) d [.ref a0, .int i1, .int i2, .int i3, .int i4, .ref a5] S 3 18 (zo_i out) zo_x := by
  refine zm_ofH (by decide +kernel) (Nat.le_of_ble_eq_true rfl) ?_
  intro p e R s m args below meth c hRR hX hr hxt
  have hR : R.frames = d ∧ R.locals = 64 * d := by rw [hRR]; exact ⟨rfl, rfl⟩
  have hX : zm_X p R s m args meth c RL "both" cL_both 7 zk_E V 3 18 := hX
  unfold zf_L_both at h
  refine zw_sub (lv' := [(0, .ref a0), (1, .int i1), (2, .int i2), (3, .int i3), (4, .int i4), (5, .ref a5)]) (List.forall_mem_cons.mpr ⟨rfl, (List.forall_mem_cons.mpr ⟨rfl, (List.forall_mem_cons.mpr ⟨rfl, (List.forall_mem_cons.mpr ⟨rfl, (List.forall_mem_cons.mpr ⟨rfl, (List.forall_mem_cons.mpr ⟨rfl, zs_nil⟩)⟩)⟩)⟩)⟩)⟩) ?_
  refine zw_aload hX dL_both_0 rfl ?_
  refine zw_iconst (v := (0 : Int32)) hX dL_both_2 (by decide) ?_
  refine zw_aload_n hX dL_both_3 rfl ?_
  refine zw_iload_n hX dL_both_4 rfl ?_
  refine zw_iload_n hX dL_both_5 rfl ?_
  refine zw_iload_n hX dL_both_6 rfl ?_
  refine zw_iload hX dL_both_7 rfl ?_
  obtain ⟨_, gi, h⟩ := zb_some h
  obtain ⟨r, g, h⟩ := zb_some h
  refine zc_V (as := [.int i1, .int i2, .int i3, .int i4]) hX (zt_X11_both hlt (d := d - 1) (by omega) g) zl_L_120 rfl dL_both_9 (zi_spec gi) ⟨rfl, rfl, Nat.le_of_ble_eq_true rfl⟩ ⟨by omega, by omega⟩ ⟨by omega, by omega⟩ ?_ ?_
  · rintro _ S2 ⟨v1, rfl, rfl⟩
    try dsimp only at h
    refine zw_i2l hX dL_both_12 ?_
    obtain ⟨S3, g, h⟩ := zb_some h
    refine zw_sl hX dL_both_13 g ?_
    refine zw_goto (tgt := 25) hX dL_both_14 (by decide) ?_
    refine zw_iconst (v := (0 : Int32)) hX dL_both_25 (by decide) ?_
    obtain rfl := Option.some.inj h
    exact zw_iret hX hr dL_both_26 rfl ⟨rfl, rfl⟩
  · rintro X S9 rfl
    try dsimp only at h
    by_cases cx0 : X = "java/lang/IllegalArgumentException"
    · rw [if_pos cx0] at h
      subst cx0
      refine zx_catch (name := "java/lang/IllegalArgumentException") (i := 6) (h9 := 17) (k9 := 2) hX [] { startPc := 0, endPc := 14, handlerPc := 17, catchType := 13 } [{ startPc := 0, endPc := 14, handlerPc := 21, catchType := 15 }] hxt (fun _ h => absurd h List.not_mem_nil) (by decide) (by decide) zl_L_c13 zl_cast_IllegalArgumentException rfl (by decide) (Or.inl dL_both_17) (by rw [dL_both_17]; rfl) ?_
      refine zw_sub (lv' := []) zs_nil ?_
      refine zw_iconst (v := (1 : Int32)) hX dL_both_19 (by decide) ?_
      obtain rfl := Option.some.inj h
      exact zw_iret hX hr dL_both_20 rfl ⟨rfl, rfl⟩
    · rw [if_neg cx0] at h
      by_cases cx1 : X = "java/lang/IllegalStateException"
      · rw [if_pos cx1] at h
        subst cx1
        refine zx_catch (name := "java/lang/IllegalStateException") (i := 6) (h9 := 21) (k9 := 2) hX [{ startPc := 0, endPc := 14, handlerPc := 17, catchType := 13 }] { startPc := 0, endPc := 14, handlerPc := 21, catchType := 15 } [] hxt (List.forall_mem_cons.mpr ⟨Or.inr ⟨by decide, _, zl_L_c13, zx_nc hX⟩, fun _ h => absurd h List.not_mem_nil⟩) (by decide) (by decide) zl_L_c15 zl_cast_IllegalStateException rfl (by decide) (Or.inl dL_both_21) (by rw [dL_both_21]; rfl) ?_
        refine zw_sub (lv' := []) zs_nil ?_
        refine zw_iconst (v := (2 : Int32)) hX dL_both_23 (by decide) ?_
        obtain rfl := Option.some.inj h
        exact zw_iret hX hr dL_both_24 rfl ⟨rfl, rfl⟩
      · rw [if_neg cx1] at h
        cases h
set_option maxHeartbeats 4000000 in
set_option maxRecDepth 100000 in
theorem zt_L_where {l : Launch} {V : zm_V} (hlt : l.stackTraces = false) {N : Nat} {S : zm_S} {out : (Int32 × zm_S)} {d : Nat} {a0 : Nat} {i1 : Int32} {i2 : Int32} {a3 : Nat} (hd : 8 ≤ d) (h : zf_L_where N a0 i1 i2 a3 S = some out) : zm_Met l zk_E V yL_where (.codeWith yL_where cL_where 5 (some .int) [(0, 10, 13, 13), (0, 10, 17, 15)]) d [.ref a0, .int i1, .int i2, .ref a3] S 2 12 (zo_i out) zo_x := by
  refine zm_ofH (by decide +kernel) (Nat.le_of_ble_eq_true rfl) ?_
  intro p e R s m args below meth c hRR hX hr hxt
  have hR : R.frames = d ∧ R.locals = 64 * d := by rw [hRR]; exact ⟨rfl, rfl⟩
  have hX : zm_X p R s m args meth c RL "where" cL_where 5 zk_E V 2 12 := hX
  unfold zf_L_where at h
  refine zw_sub (lv' := [(0, .ref a0), (1, .int i1), (2, .int i2), (3, .ref a3)]) (List.forall_mem_cons.mpr ⟨rfl, (List.forall_mem_cons.mpr ⟨rfl, (List.forall_mem_cons.mpr ⟨rfl, (List.forall_mem_cons.mpr ⟨rfl, zs_nil⟩)⟩)⟩)⟩) ?_
  refine zw_aload_n hX dL_where_0 rfl ?_
  refine zw_iconst (v := (0 : Int32)) hX dL_where_1 (by decide) ?_
  refine zw_aload_n hX dL_where_2 rfl ?_
  refine zw_iload_n hX dL_where_3 rfl ?_
  refine zw_iload_n hX dL_where_4 rfl ?_
  obtain ⟨_, gi, h⟩ := zb_some h
  obtain ⟨r, g, h⟩ := zb_some h
  refine zc_V (as := [.int i1, .int i2]) hX (zt_X11_where hlt (d := d - 1) (by omega) g) zl_L_123 rfl dL_where_5 (zi_spec gi) ⟨rfl, rfl, Nat.le_of_ble_eq_true rfl⟩ ⟨by omega, by omega⟩ ⟨by omega, by omega⟩ ?_ ?_
  · rintro _ S2 ⟨v1, rfl, rfl⟩
    try dsimp only at h
    refine zw_i2l hX dL_where_8 ?_
    obtain ⟨S3, g, h⟩ := zb_some h
    refine zw_sl hX dL_where_9 g ?_
    refine zw_goto (tgt := 21) hX dL_where_10 (by decide) ?_
    refine zw_iconst (v := (0 : Int32)) hX dL_where_21 (by decide) ?_
    obtain rfl := Option.some.inj h
    exact zw_iret hX hr dL_where_22 rfl ⟨rfl, rfl⟩
  · rintro X S9 rfl
    try dsimp only at h
    by_cases cx0 : X = "java/lang/IllegalArgumentException"
    · rw [if_pos cx0] at h
      subst cx0
      refine zx_catch (name := "java/lang/IllegalArgumentException") (i := 4) (h9 := 13) (k9 := 2) hX [] { startPc := 0, endPc := 10, handlerPc := 13, catchType := 13 } [{ startPc := 0, endPc := 10, handlerPc := 17, catchType := 15 }] hxt (fun _ h => absurd h List.not_mem_nil) (by decide) (by decide) zl_L_c13 zl_cast_IllegalArgumentException rfl (by decide) (Or.inl dL_where_13) (by rw [dL_where_13]; rfl) ?_
      refine zw_sub (lv' := []) zs_nil ?_
      refine zw_iconst (v := (1 : Int32)) hX dL_where_15 (by decide) ?_
      obtain rfl := Option.some.inj h
      exact zw_iret hX hr dL_where_16 rfl ⟨rfl, rfl⟩
    · rw [if_neg cx0] at h
      by_cases cx1 : X = "java/lang/IllegalStateException"
      · rw [if_pos cx1] at h
        subst cx1
        refine zx_catch (name := "java/lang/IllegalStateException") (i := 4) (h9 := 17) (k9 := 2) hX [{ startPc := 0, endPc := 10, handlerPc := 13, catchType := 13 }] { startPc := 0, endPc := 10, handlerPc := 17, catchType := 15 } [] hxt (List.forall_mem_cons.mpr ⟨Or.inr ⟨by decide, _, zl_L_c13, zx_nc hX⟩, fun _ h => absurd h List.not_mem_nil⟩) (by decide) (by decide) zl_L_c15 zl_cast_IllegalStateException rfl (by decide) (Or.inl dL_where_17) (by rw [dL_where_17]; rfl) ?_
        refine zw_sub (lv' := []) zs_nil ?_
        refine zw_iconst (v := (2 : Int32)) hX dL_where_19 (by decide) ?_
        obtain rfl := Option.some.inj h
        exact zw_iret hX hr dL_where_20 rfl ⟨rfl, rfl⟩
      · rw [if_neg cx1] at h
        cases h
set_option maxHeartbeats 4000000 in
set_option maxRecDepth 100000 in
theorem zt_L_inside {l : Launch} {V : zm_V} (hlt : l.stackTraces = false) {N : Nat} {S : zm_S} {out : (Int32 × zm_S)} {d : Nat} {a0 : Nat} {i1 : Int32} {a2 : Nat} (hd : 8 ≤ d) (h : zf_L_inside N a0 i1 a2 S = some out) : zm_Met l zk_E V yL_inside (.codeWith yL_inside cL_inside 4 (some .int) [(0, 9, 12, 13), (0, 9, 15, 15)]) d [.ref a0, .int i1, .ref a2] S 2 12 (zo_i out) zo_x := by
  refine zm_ofH (by decide +kernel) (Nat.le_of_ble_eq_true rfl) ?_
  intro p e R s m args below meth c hRR hX hr hxt
  have hR : R.frames = d ∧ R.locals = 64 * d := by rw [hRR]; exact ⟨rfl, rfl⟩
  have hX : zm_X p R s m args meth c RL "inside" cL_inside 4 zk_E V 2 12 := hX
  unfold zf_L_inside at h
  refine zw_sub (lv' := [(0, .ref a0), (1, .int i1), (2, .ref a2)]) (List.forall_mem_cons.mpr ⟨rfl, (List.forall_mem_cons.mpr ⟨rfl, (List.forall_mem_cons.mpr ⟨rfl, zs_nil⟩)⟩)⟩) ?_
  refine zw_aload_n hX dL_inside_0 rfl ?_
  refine zw_iconst (v := (0 : Int32)) hX dL_inside_1 (by decide) ?_
  refine zw_aload_n hX dL_inside_2 rfl ?_
  refine zw_iload_n hX dL_inside_3 rfl ?_
  obtain ⟨_, gi, h⟩ := zb_some h
  obtain ⟨r, g, h⟩ := zb_some h
  refine zc_V (as := [.int i1]) hX (zt_X11_inside hlt (d := d - 1) (by omega) g) zl_L_126 rfl dL_inside_4 (zi_spec gi) ⟨rfl, rfl, Nat.le_of_ble_eq_true rfl⟩ ⟨by omega, by omega⟩ ⟨by omega, by omega⟩ ?_ ?_
  · rintro _ S2 ⟨v1, rfl, rfl⟩
    try dsimp only at h
    refine zw_i2l hX dL_inside_7 ?_
    obtain ⟨S3, g, h⟩ := zb_some h
    refine zw_sl hX dL_inside_8 g ?_
    refine zw_goto (tgt := 18) hX dL_inside_9 (by decide) ?_
    refine zw_iconst (v := (0 : Int32)) hX dL_inside_18 (by decide) ?_
    obtain rfl := Option.some.inj h
    exact zw_iret hX hr dL_inside_19 rfl ⟨rfl, rfl⟩
  · rintro X S9 rfl
    try dsimp only at h
    by_cases cx0 : X = "java/lang/IllegalArgumentException"
    · rw [if_pos cx0] at h
      subst cx0
      refine zx_catch (name := "java/lang/IllegalArgumentException") (i := 3) (h9 := 12) (k9 := 1) hX [] { startPc := 0, endPc := 9, handlerPc := 12, catchType := 13 } [{ startPc := 0, endPc := 9, handlerPc := 15, catchType := 15 }] hxt (fun _ h => absurd h List.not_mem_nil) (by decide) (by decide) zl_L_c13 zl_cast_IllegalArgumentException rfl (by decide) (Or.inr ⟨3, rfl, dL_inside_12⟩) (by rw [dL_inside_12]; rfl) ?_
      refine zw_sub (lv' := []) zs_nil ?_
      refine zw_iconst (v := (1 : Int32)) hX dL_inside_13 (by decide) ?_
      obtain rfl := Option.some.inj h
      exact zw_iret hX hr dL_inside_14 rfl ⟨rfl, rfl⟩
    · rw [if_neg cx0] at h
      by_cases cx1 : X = "java/lang/IllegalStateException"
      · rw [if_pos cx1] at h
        subst cx1
        refine zx_catch (name := "java/lang/IllegalStateException") (i := 3) (h9 := 15) (k9 := 1) hX [{ startPc := 0, endPc := 9, handlerPc := 12, catchType := 13 }] { startPc := 0, endPc := 9, handlerPc := 15, catchType := 15 } [] hxt (List.forall_mem_cons.mpr ⟨Or.inr ⟨by decide, _, zl_L_c13, zx_nc hX⟩, fun _ h => absurd h List.not_mem_nil⟩) (by decide) (by decide) zl_L_c15 zl_cast_IllegalStateException rfl (by decide) (Or.inr ⟨3, rfl, dL_inside_15⟩) (by rw [dL_inside_15]; rfl) ?_
        refine zw_sub (lv' := []) zs_nil ?_
        refine zw_iconst (v := (2 : Int32)) hX dL_inside_16 (by decide) ?_
        obtain rfl := Option.some.inj h
        exact zw_iret hX hr dL_inside_17 rfl ⟨rfl, rfl⟩
      · rw [if_neg cx1] at h
        cases h
set_option maxHeartbeats 4000000 in
set_option maxRecDepth 100000 in
theorem zt_L_against {l : Launch} {V : zm_V} (hlt : l.stackTraces = false) {N : Nat} {S : zm_S} {out : (Int32 × zm_S)} {d : Nat} {a0 : Nat} {i1 : Int32} {i2 : Int32} {a3 : Nat} (hd : 8 ≤ d) (h : zf_L_against N a0 i1 i2 a3 S = some out) : zm_Met l zk_E V yL_against (.codeWith yL_against cL_against 5 (some .int) [(0, 10, 13, 13), (0, 10, 17, 15)]) d [.ref a0, .int i1, .int i2, .ref a3] S 2 12 (zo_i out) zo_x := by
  refine zm_ofH (by decide +kernel) (Nat.le_of_ble_eq_true rfl) ?_
  intro p e R s m args below meth c hRR hX hr hxt
  have hR : R.frames = d ∧ R.locals = 64 * d := by rw [hRR]; exact ⟨rfl, rfl⟩
  have hX : zm_X p R s m args meth c RL "against" cL_against 5 zk_E V 2 12 := hX
  unfold zf_L_against at h
  refine zw_sub (lv' := [(0, .ref a0), (1, .int i1), (2, .int i2), (3, .ref a3)]) (List.forall_mem_cons.mpr ⟨rfl, (List.forall_mem_cons.mpr ⟨rfl, (List.forall_mem_cons.mpr ⟨rfl, (List.forall_mem_cons.mpr ⟨rfl, zs_nil⟩)⟩)⟩)⟩) ?_
  refine zw_aload_n hX dL_against_0 rfl ?_
  refine zw_iconst (v := (0 : Int32)) hX dL_against_1 (by decide) ?_
  refine zw_aload_n hX dL_against_2 rfl ?_
  refine zw_iload_n hX dL_against_3 rfl ?_
  refine zw_iload_n hX dL_against_4 rfl ?_
  obtain ⟨_, gi, h⟩ := zb_some h
  obtain ⟨r, g, h⟩ := zb_some h
  refine zc_V (as := [.int i1, .int i2]) hX (zt_X11_against hlt (d := d - 1) (by omega) g) zl_L_129 rfl dL_against_5 (zi_spec gi) ⟨rfl, rfl, Nat.le_of_ble_eq_true rfl⟩ ⟨by omega, by omega⟩ ⟨by omega, by omega⟩ ?_ ?_
  · rintro _ S2 ⟨v1, rfl, rfl⟩
    try dsimp only at h
    refine zw_i2l hX dL_against_8 ?_
    obtain ⟨S3, g, h⟩ := zb_some h
    refine zw_sl hX dL_against_9 g ?_
    refine zw_goto (tgt := 21) hX dL_against_10 (by decide) ?_
    refine zw_iconst (v := (0 : Int32)) hX dL_against_21 (by decide) ?_
    obtain rfl := Option.some.inj h
    exact zw_iret hX hr dL_against_22 rfl ⟨rfl, rfl⟩
  · rintro X S9 rfl
    try dsimp only at h
    by_cases cx0 : X = "java/lang/IllegalArgumentException"
    · rw [if_pos cx0] at h
      subst cx0
      refine zx_catch (name := "java/lang/IllegalArgumentException") (i := 4) (h9 := 13) (k9 := 2) hX [] { startPc := 0, endPc := 10, handlerPc := 13, catchType := 13 } [{ startPc := 0, endPc := 10, handlerPc := 17, catchType := 15 }] hxt (fun _ h => absurd h List.not_mem_nil) (by decide) (by decide) zl_L_c13 zl_cast_IllegalArgumentException rfl (by decide) (Or.inl dL_against_13) (by rw [dL_against_13]; rfl) ?_
      refine zw_sub (lv' := []) zs_nil ?_
      refine zw_iconst (v := (1 : Int32)) hX dL_against_15 (by decide) ?_
      obtain rfl := Option.some.inj h
      exact zw_iret hX hr dL_against_16 rfl ⟨rfl, rfl⟩
    · rw [if_neg cx0] at h
      by_cases cx1 : X = "java/lang/IllegalStateException"
      · rw [if_pos cx1] at h
        subst cx1
        refine zx_catch (name := "java/lang/IllegalStateException") (i := 4) (h9 := 17) (k9 := 2) hX [{ startPc := 0, endPc := 10, handlerPc := 13, catchType := 13 }] { startPc := 0, endPc := 10, handlerPc := 17, catchType := 15 } [] hxt (List.forall_mem_cons.mpr ⟨Or.inr ⟨by decide, _, zl_L_c13, zx_nc hX⟩, fun _ h => absurd h List.not_mem_nil⟩) (by decide) (by decide) zl_L_c15 zl_cast_IllegalStateException rfl (by decide) (Or.inl dL_against_17) (by rw [dL_against_17]; rfl) ?_
        refine zw_sub (lv' := []) zs_nil ?_
        refine zw_iconst (v := (2 : Int32)) hX dL_against_19 (by decide) ?_
        obtain rfl := Option.some.inj h
        exact zw_iret hX hr dL_against_20 rfl ⟨rfl, rfl⟩
      · rw [if_neg cx1] at h
        cases h
set_option maxHeartbeats 4000000 in
set_option maxRecDepth 100000 in
theorem zt_L_unit {l : Launch} {V : zm_V} (hlt : l.stackTraces = false) {N : Nat} {S : zm_S} {out : (Int32 × zm_S)} {d : Nat} {a0 : Nat} {i1 : Int32} {a2 : Nat} (hd : 8 ≤ d) (h : zf_L_unit N a0 i1 a2 S = some out) : zm_Met l zk_E V yL_unit (.codeWith yL_unit cL_unit 4 (some .int) [(0, 9, 12, 13), (0, 9, 15, 15)]) d [.ref a0, .int i1, .ref a2] S 2 12 (zo_i out) zo_x := by
  refine zm_ofH (by decide +kernel) (Nat.le_of_ble_eq_true rfl) ?_
  intro p e R s m args below meth c hRR hX hr hxt
  have hR : R.frames = d ∧ R.locals = 64 * d := by rw [hRR]; exact ⟨rfl, rfl⟩
  have hX : zm_X p R s m args meth c RL "unit" cL_unit 4 zk_E V 2 12 := hX
  unfold zf_L_unit at h
  refine zw_sub (lv' := [(0, .ref a0), (1, .int i1), (2, .ref a2)]) (List.forall_mem_cons.mpr ⟨rfl, (List.forall_mem_cons.mpr ⟨rfl, (List.forall_mem_cons.mpr ⟨rfl, zs_nil⟩)⟩)⟩) ?_
  refine zw_aload_n hX dL_unit_0 rfl ?_
  refine zw_iconst (v := (0 : Int32)) hX dL_unit_1 (by decide) ?_
  refine zw_aload_n hX dL_unit_2 rfl ?_
  refine zw_iload_n hX dL_unit_3 rfl ?_
  obtain ⟨_, gi, h⟩ := zb_some h
  obtain ⟨r, g, h⟩ := zb_some h
  refine zc_V (as := [.int i1]) hX (zt_X11_unit hlt (d := d - 1) (by omega) g) zl_L_132 rfl dL_unit_4 (zi_spec gi) ⟨rfl, rfl, Nat.le_of_ble_eq_true rfl⟩ ⟨by omega, by omega⟩ ⟨by omega, by omega⟩ ?_ ?_
  · rintro _ S2 ⟨v1, rfl, rfl⟩
    try dsimp only at h
    refine zw_i2l hX dL_unit_7 ?_
    obtain ⟨S3, g, h⟩ := zb_some h
    refine zw_sl hX dL_unit_8 g ?_
    refine zw_goto (tgt := 18) hX dL_unit_9 (by decide) ?_
    refine zw_iconst (v := (0 : Int32)) hX dL_unit_18 (by decide) ?_
    obtain rfl := Option.some.inj h
    exact zw_iret hX hr dL_unit_19 rfl ⟨rfl, rfl⟩
  · rintro X S9 rfl
    try dsimp only at h
    by_cases cx0 : X = "java/lang/IllegalArgumentException"
    · rw [if_pos cx0] at h
      subst cx0
      refine zx_catch (name := "java/lang/IllegalArgumentException") (i := 3) (h9 := 12) (k9 := 1) hX [] { startPc := 0, endPc := 9, handlerPc := 12, catchType := 13 } [{ startPc := 0, endPc := 9, handlerPc := 15, catchType := 15 }] hxt (fun _ h => absurd h List.not_mem_nil) (by decide) (by decide) zl_L_c13 zl_cast_IllegalArgumentException rfl (by decide) (Or.inr ⟨3, rfl, dL_unit_12⟩) (by rw [dL_unit_12]; rfl) ?_
      refine zw_sub (lv' := []) zs_nil ?_
      refine zw_iconst (v := (1 : Int32)) hX dL_unit_13 (by decide) ?_
      obtain rfl := Option.some.inj h
      exact zw_iret hX hr dL_unit_14 rfl ⟨rfl, rfl⟩
    · rw [if_neg cx0] at h
      by_cases cx1 : X = "java/lang/IllegalStateException"
      · rw [if_pos cx1] at h
        subst cx1
        refine zx_catch (name := "java/lang/IllegalStateException") (i := 3) (h9 := 15) (k9 := 1) hX [{ startPc := 0, endPc := 9, handlerPc := 12, catchType := 13 }] { startPc := 0, endPc := 9, handlerPc := 15, catchType := 15 } [] hxt (List.forall_mem_cons.mpr ⟨Or.inr ⟨by decide, _, zl_L_c13, zx_nc hX⟩, fun _ h => absurd h List.not_mem_nil⟩) (by decide) (by decide) zl_L_c15 zl_cast_IllegalStateException rfl (by decide) (Or.inr ⟨3, rfl, dL_unit_15⟩) (by rw [dL_unit_15]; rfl) ?_
        refine zw_sub (lv' := []) zs_nil ?_
        refine zw_iconst (v := (2 : Int32)) hX dL_unit_16 (by decide) ?_
        obtain rfl := Option.some.inj h
        exact zw_iret hX hr dL_unit_17 rfl ⟨rfl, rfl⟩
      · rw [if_neg cx1] at h
        cases h
set_option maxHeartbeats 4000000 in
set_option maxRecDepth 100000 in
theorem zt_L_sentence {l : Launch} {V : zm_V} (hlt : l.stackTraces = false) {N : Nat} {S : zm_S} {out : (Int32 × zm_S)} {d : Nat} {a0 : Nat} {i1 : Int32} {i2 : Int32} {i3 : Int32} {i4 : Int32} {i5 : Int32} {a6 : Nat} (hd : 8 ≤ d) (h : zf_L_sentence N a0 i1 i2 i3 i4 i5 a6 S = some out) : zm_Met l zk_E V yL_sentence (.codeWith yL_sentence cL_sentence 8 (some .int) [(0, 16, 19, 13), (0, 16, 23, 15)]) d [.ref a0, .int i1, .int i2, .int i3, .int i4, .int i5, .ref a6] S 2 12 (zo_i out) zo_x := by
  refine zm_ofH (by decide +kernel) (Nat.le_of_ble_eq_true rfl) ?_
  intro p e R s m args below meth c hRR hX hr hxt
  have hR : R.frames = d ∧ R.locals = 64 * d := by rw [hRR]; exact ⟨rfl, rfl⟩
  have hX : zm_X p R s m args meth c RL "sentence" cL_sentence 8 zk_E V 2 12 := hX
  unfold zf_L_sentence at h
  refine zw_sub (lv' := [(0, .ref a0), (1, .int i1), (2, .int i2), (3, .int i3), (4, .int i4), (5, .int i5), (6, .ref a6)]) (List.forall_mem_cons.mpr ⟨rfl, (List.forall_mem_cons.mpr ⟨rfl, (List.forall_mem_cons.mpr ⟨rfl, (List.forall_mem_cons.mpr ⟨rfl, (List.forall_mem_cons.mpr ⟨rfl, (List.forall_mem_cons.mpr ⟨rfl, (List.forall_mem_cons.mpr ⟨rfl, zs_nil⟩)⟩)⟩)⟩)⟩)⟩)⟩) ?_
  refine zw_aload hX dL_sentence_0 rfl ?_
  refine zw_iconst (v := (0 : Int32)) hX dL_sentence_2 (by decide) ?_
  refine zw_aload_n hX dL_sentence_3 rfl ?_
  refine zw_iload_n hX dL_sentence_4 rfl ?_
  refine zw_iload_n hX dL_sentence_5 rfl ?_
  refine zw_iload_n hX dL_sentence_6 rfl ?_
  refine zw_iload hX dL_sentence_7 rfl ?_
  refine zw_iload hX dL_sentence_9 rfl ?_
  obtain ⟨_, gi, h⟩ := zb_some h
  obtain ⟨r, g, h⟩ := zb_some h
  refine zc_V (as := [.int i1, .int i2, .int i3, .int i4, .int i5]) hX (zt_X11_sentence hlt (d := d - 1) (by omega) g) zl_L_135 rfl dL_sentence_11 (zi_spec gi) ⟨rfl, rfl, Nat.le_of_ble_eq_true rfl⟩ ⟨by omega, by omega⟩ ⟨by omega, by omega⟩ ?_ ?_
  · rintro _ S2 ⟨v1, rfl, rfl⟩
    try dsimp only at h
    refine zw_i2l hX dL_sentence_14 ?_
    obtain ⟨S3, g, h⟩ := zb_some h
    refine zw_sl hX dL_sentence_15 g ?_
    refine zw_goto (tgt := 27) hX dL_sentence_16 (by decide) ?_
    refine zw_iconst (v := (0 : Int32)) hX dL_sentence_27 (by decide) ?_
    obtain rfl := Option.some.inj h
    exact zw_iret hX hr dL_sentence_28 rfl ⟨rfl, rfl⟩
  · rintro X S9 rfl
    try dsimp only at h
    by_cases cx0 : X = "java/lang/IllegalArgumentException"
    · rw [if_pos cx0] at h
      subst cx0
      refine zx_catch (name := "java/lang/IllegalArgumentException") (i := 7) (h9 := 19) (k9 := 2) hX [] { startPc := 0, endPc := 16, handlerPc := 19, catchType := 13 } [{ startPc := 0, endPc := 16, handlerPc := 23, catchType := 15 }] hxt (fun _ h => absurd h List.not_mem_nil) (by decide) (by decide) zl_L_c13 zl_cast_IllegalArgumentException rfl (by decide) (Or.inl dL_sentence_19) (by rw [dL_sentence_19]; rfl) ?_
      refine zw_sub (lv' := []) zs_nil ?_
      refine zw_iconst (v := (1 : Int32)) hX dL_sentence_21 (by decide) ?_
      obtain rfl := Option.some.inj h
      exact zw_iret hX hr dL_sentence_22 rfl ⟨rfl, rfl⟩
    · rw [if_neg cx0] at h
      by_cases cx1 : X = "java/lang/IllegalStateException"
      · rw [if_pos cx1] at h
        subst cx1
        refine zx_catch (name := "java/lang/IllegalStateException") (i := 7) (h9 := 23) (k9 := 2) hX [{ startPc := 0, endPc := 16, handlerPc := 19, catchType := 13 }] { startPc := 0, endPc := 16, handlerPc := 23, catchType := 15 } [] hxt (List.forall_mem_cons.mpr ⟨Or.inr ⟨by decide, _, zl_L_c13, zx_nc hX⟩, fun _ h => absurd h List.not_mem_nil⟩) (by decide) (by decide) zl_L_c15 zl_cast_IllegalStateException rfl (by decide) (Or.inl dL_sentence_23) (by rw [dL_sentence_23]; rfl) ?_
        refine zw_sub (lv' := []) zs_nil ?_
        refine zw_iconst (v := (2 : Int32)) hX dL_sentence_25 (by decide) ?_
        obtain rfl := Option.some.inj h
        exact zw_iret hX hr dL_sentence_26 rfl ⟨rfl, rfl⟩
      · rw [if_neg cx1] at h
        cases h

