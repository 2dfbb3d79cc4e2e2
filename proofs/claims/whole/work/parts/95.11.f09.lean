/-! ===== functions of methods, by program (wip/whole/tools/gen11.py) ===== -/
theorem dX9_ramp_0 : decode cX9_ramp 0 = .ok (.iload_n 2, 1) := by decide +kernel
theorem dX9_ramp_1 : decode cX9_ramp 1 = .ok (.iconst 0, 1) := by decide +kernel
theorem dX9_ramp_2 : decode cX9_ramp 2 = .ok (.invokestatic 137, 3) := by decide +kernel
theorem dX9_ramp_5 : decode cX9_ramp 5 = .ok (.i2l, 1) := by decide +kernel
theorem dX9_ramp_6 : decode cX9_ramp 6 = .ok (.lstore_n 3, 1) := by decide +kernel
theorem dX9_ramp_7 : decode cX9_ramp 7 = .ok (.iload_n 1, 1) := by decide +kernel
theorem dX9_ramp_8 : decode cX9_ramp 8 = .ok (.i2l, 1) := by decide +kernel
theorem dX9_ramp_9 : decode cX9_ramp 9 = .ok (.iload_n 0, 1) := by decide +kernel
theorem dX9_ramp_10 : decode cX9_ramp 10 = .ok (.i2l, 1) := by decide +kernel
theorem dX9_ramp_11 : decode cX9_ramp 11 = .ok (.lsub, 1) := by decide +kernel
theorem dX9_ramp_12 : decode cX9_ramp 12 = .ok (.lstore 5, 2) := by decide +kernel
theorem dX9_ramp_14 : decode cX9_ramp 14 = .ok (.lload 5, 2) := by decide +kernel
theorem dX9_ramp_16 : decode cX9_ramp 16 = .ok (.lload_n 3, 1) := by decide +kernel
theorem dX9_ramp_17 : decode cX9_ramp 17 = .ok (.lcmp, 1) := by decide +kernel
theorem dX9_ramp_18 : decode cX9_ramp 18 = .ok (.ifCond .gt 13, 3) := by decide +kernel
theorem dX9_ramp_31 : decode cX9_ramp 31 = .ok (.lload 5, 2) := by decide +kernel
theorem dX9_ramp_33 : decode cX9_ramp 33 = .ok (.lconst 0, 1) := by decide +kernel
theorem dX9_ramp_34 : decode cX9_ramp 34 = .ok (.lcmp, 1) := by decide +kernel
theorem dX9_ramp_35 : decode cX9_ramp 35 = .ok (.ifCond .le 10, 3) := by decide +kernel
theorem dX9_ramp_45 : decode cX9_ramp 45 = .ok (.iload_n 0, 1) := by decide +kernel
theorem dX9_ramp_46 : decode cX9_ramp 46 = .ok (.i2l, 1) := by decide +kernel
theorem dX9_ramp_47 : decode cX9_ramp 47 = .ok (.lload_n 3, 1) := by decide +kernel
theorem dX9_ramp_48 : decode cX9_ramp 48 = .ok (.lsub, 1) := by decide +kernel
theorem dX9_ramp_49 : decode cX9_ramp 49 = .ok (.l2i, 1) := by decide +kernel
theorem dX9_ramp_50 : decode cX9_ramp 50 = .ok (.ireturn, 1) := by decide +kernel
theorem dX9_ramp_38 : decode cX9_ramp 38 = .ok (.iload_n 0, 1) := by decide +kernel
theorem dX9_ramp_39 : decode cX9_ramp 39 = .ok (.i2l, 1) := by decide +kernel
theorem dX9_ramp_40 : decode cX9_ramp 40 = .ok (.lload_n 3, 1) := by decide +kernel
theorem dX9_ramp_41 : decode cX9_ramp 41 = .ok (.ladd, 1) := by decide +kernel
theorem dX9_ramp_42 : decode cX9_ramp 42 = .ok (.goto 7, 3) := by decide +kernel
theorem dX9_ramp_21 : decode cX9_ramp 21 = .ok (.lload 5, 2) := by decide +kernel
theorem dX9_ramp_23 : decode cX9_ramp 23 = .ok (.lload_n 3, 1) := by decide +kernel
theorem dX9_ramp_24 : decode cX9_ramp 24 = .ok (.lneg, 1) := by decide +kernel
theorem dX9_ramp_25 : decode cX9_ramp 25 = .ok (.lcmp, 1) := by decide +kernel
theorem dX9_ramp_26 : decode cX9_ramp 26 = .ok (.ifCond .lt 5, 3) := by decide +kernel
theorem dX9_ramp_29 : decode cX9_ramp 29 = .ok (.iload_n 1, 1) := by decide +kernel
theorem dX9_ramp_30 : decode cX9_ramp 30 = .ok (.ireturn, 1) := by decide +kernel
theorem dX9_countUp_0 : decode cX9_countUp 0 = .ok (.iload_n 2, 1) := by decide +kernel
theorem dX9_countUp_1 : decode cX9_countUp 1 = .ok (.ifCond .eq 10, 3) := by decide +kernel
theorem dX9_countUp_11 : decode cX9_countUp 11 = .ok (.iload_n 1, 1) := by decide +kernel
theorem dX9_countUp_12 : decode cX9_countUp 12 = .ok (.ifCond .eq 16, 3) := by decide +kernel
theorem dX9_countUp_28 : decode cX9_countUp 28 = .ok (.aload_n 0, 1) := by decide +kernel
theorem dX9_countUp_29 : decode cX9_countUp 29 = .ok (.iconst 1, 1) := by decide +kernel
theorem dX9_countUp_30 : decode cX9_countUp 30 = .ok (.iload_n 1, 1) := by decide +kernel
theorem dX9_countUp_31 : decode cX9_countUp 31 = .ok (.iastore, 1) := by decide +kernel
theorem dX9_countUp_32 : decode cX9_countUp 32 = .ok (.aload_n 0, 1) := by decide +kernel
theorem dX9_countUp_33 : decode cX9_countUp 33 = .ok (.iconst 0, 1) := by decide +kernel
theorem dX9_countUp_34 : decode cX9_countUp 34 = .ok (.iaload, 1) := by decide +kernel
theorem dX9_countUp_35 : decode cX9_countUp 35 = .ok (.ireturn, 1) := by decide +kernel
theorem dX9_countUp_15 : decode cX9_countUp 15 = .ok (.aload_n 0, 1) := by decide +kernel
theorem dX9_countUp_16 : decode cX9_countUp 16 = .ok (.iconst 1, 1) := by decide +kernel
theorem dX9_countUp_17 : decode cX9_countUp 17 = .ok (.iaload, 1) := by decide +kernel
theorem dX9_countUp_18 : decode cX9_countUp 18 = .ok (.ifCond .ne 10, 3) := by decide +kernel
theorem dX9_countUp_21 : decode cX9_countUp 21 = .ok (.aload_n 0, 1) := by decide +kernel
theorem dX9_countUp_22 : decode cX9_countUp 22 = .ok (.iconst 0, 1) := by decide +kernel
theorem dX9_countUp_23 : decode cX9_countUp 23 = .ok (.dup2, 1) := by decide +kernel
theorem dX9_countUp_24 : decode cX9_countUp 24 = .ok (.iaload, 1) := by decide +kernel
theorem dX9_countUp_25 : decode cX9_countUp 25 = .ok (.iconst 1, 1) := by decide +kernel
theorem dX9_countUp_26 : decode cX9_countUp 26 = .ok (.iadd, 1) := by decide +kernel
theorem dX9_countUp_27 : decode cX9_countUp 27 = .ok (.iastore, 1) := by decide +kernel
theorem dX9_countUp_4 : decode cX9_countUp 4 = .ok (.aload_n 0, 1) := by decide +kernel
theorem dX9_countUp_5 : decode cX9_countUp 5 = .ok (.iconst 0, 1) := by decide +kernel
theorem dX9_countUp_6 : decode cX9_countUp 6 = .ok (.iconst 0, 1) := by decide +kernel
theorem dX9_countUp_7 : decode cX9_countUp 7 = .ok (.iastore, 1) := by decide +kernel
theorem dX9_countUp_8 : decode cX9_countUp 8 = .ok (.goto 20, 3) := by decide +kernel
theorem dX9_latch_0 : decode cX9_latch 0 = .ok (.iload_n 1, 1) := by decide +kernel
theorem dX9_latch_1 : decode cX9_latch 1 = .ok (.ifCond .eq 10, 3) := by decide +kernel
theorem dX9_latch_11 : decode cX9_latch 11 = .ok (.iload_n 2, 1) := by decide +kernel
theorem dX9_latch_12 : decode cX9_latch 12 = .ok (.ifCond .eq 7, 3) := by decide +kernel
theorem dX9_latch_19 : decode cX9_latch 19 = .ok (.aload_n 0, 1) := by decide +kernel
theorem dX9_latch_20 : decode cX9_latch 20 = .ok (.iconst 0, 1) := by decide +kernel
theorem dX9_latch_21 : decode cX9_latch 21 = .ok (.iaload, 1) := by decide +kernel
theorem dX9_latch_22 : decode cX9_latch 22 = .ok (.ireturn, 1) := by decide +kernel
theorem dX9_latch_15 : decode cX9_latch 15 = .ok (.aload_n 0, 1) := by decide +kernel
theorem dX9_latch_16 : decode cX9_latch 16 = .ok (.iconst 0, 1) := by decide +kernel
theorem dX9_latch_17 : decode cX9_latch 17 = .ok (.iconst 0, 1) := by decide +kernel
theorem dX9_latch_18 : decode cX9_latch 18 = .ok (.iastore, 1) := by decide +kernel
theorem dX9_latch_4 : decode cX9_latch 4 = .ok (.aload_n 0, 1) := by decide +kernel
theorem dX9_latch_5 : decode cX9_latch 5 = .ok (.iconst 0, 1) := by decide +kernel
theorem dX9_latch_6 : decode cX9_latch 6 = .ok (.iconst 1, 1) := by decide +kernel
theorem dX9_latch_7 : decode cX9_latch 7 = .ok (.iastore, 1) := by decide +kernel
theorem dX9_latch_8 : decode cX9_latch 8 = .ok (.goto 11, 3) := by decide +kernel
theorem dX9_isInSpan_0 : decode cX9_isInSpan 0 = .ok (.iload_n 1, 1) := by decide +kernel
theorem dX9_isInSpan_1 : decode cX9_isInSpan 1 = .ok (.iload_n 2, 1) := by decide +kernel
theorem dX9_isInSpan_2 : decode cX9_isInSpan 2 = .ok (.if_icmp .gt 21, 3) := by decide +kernel
theorem dX9_isInSpan_23 : decode cX9_isInSpan 23 = .ok (.iload_n 0, 1) := by decide +kernel
theorem dX9_isInSpan_24 : decode cX9_isInSpan 24 = .ok (.iload_n 1, 1) := by decide +kernel
theorem dX9_isInSpan_25 : decode cX9_isInSpan 25 = .ok (.if_icmp .ge 8, 3) := by decide +kernel
theorem dX9_isInSpan_33 : decode cX9_isInSpan 33 = .ok (.iconst 1, 1) := by decide +kernel
theorem dX9_isInSpan_34 : decode cX9_isInSpan 34 = .ok (.goto 4, 3) := by decide +kernel
theorem dX9_isInSpan_38 : decode cX9_isInSpan 38 = .ok (.ireturn, 1) := by decide +kernel
theorem dX9_isInSpan_28 : decode cX9_isInSpan 28 = .ok (.iload_n 0, 1) := by decide +kernel
theorem dX9_isInSpan_29 : decode cX9_isInSpan 29 = .ok (.iload_n 2, 1) := by decide +kernel
theorem dX9_isInSpan_30 : decode cX9_isInSpan 30 = .ok (.if_icmp .ge 7, 3) := by decide +kernel
theorem dX9_isInSpan_37 : decode cX9_isInSpan 37 = .ok (.iconst 0, 1) := by decide +kernel
theorem dX9_isInSpan_5 : decode cX9_isInSpan 5 = .ok (.iload_n 1, 1) := by decide +kernel
theorem dX9_isInSpan_6 : decode cX9_isInSpan 6 = .ok (.iload_n 0, 1) := by decide +kernel
theorem dX9_isInSpan_7 : decode cX9_isInSpan 7 = .ok (.if_icmp .gt 12, 3) := by decide +kernel
theorem dX9_isInSpan_19 : decode cX9_isInSpan 19 = .ok (.iconst 0, 1) := by decide +kernel
theorem dX9_isInSpan_20 : decode cX9_isInSpan 20 = .ok (.goto 18, 3) := by decide +kernel
theorem dX9_isInSpan_10 : decode cX9_isInSpan 10 = .ok (.iload_n 0, 1) := by decide +kernel
theorem dX9_isInSpan_11 : decode cX9_isInSpan 11 = .ok (.iload_n 2, 1) := by decide +kernel
theorem dX9_isInSpan_12 : decode cX9_isInSpan 12 = .ok (.if_icmp .ge 7, 3) := by decide +kernel
theorem dX9_isInSpan_15 : decode cX9_isInSpan 15 = .ok (.iconst 1, 1) := by decide +kernel
theorem dX9_isInSpan_16 : decode cX9_isInSpan 16 = .ok (.goto 22, 3) := by decide +kernel
theorem dX9_pulse_0 : decode cX9_pulse 0 = .ok (.iload_n 1, 1) := by decide +kernel
theorem dX9_pulse_1 : decode cX9_pulse 1 = .ok (.ifCond .eq 13, 3) := by decide +kernel
theorem dX9_pulse_14 : decode cX9_pulse 14 = .ok (.aload_n 0, 1) := by decide +kernel
theorem dX9_pulse_15 : decode cX9_pulse 15 = .ok (.iconst 1, 1) := by decide +kernel
theorem dX9_pulse_16 : decode cX9_pulse 16 = .ok (.iload_n 1, 1) := by decide +kernel
theorem dX9_pulse_17 : decode cX9_pulse 17 = .ok (.iastore, 1) := by decide +kernel
theorem dX9_pulse_18 : decode cX9_pulse 18 = .ok (.aload_n 0, 1) := by decide +kernel
theorem dX9_pulse_19 : decode cX9_pulse 19 = .ok (.iconst 0, 1) := by decide +kernel
theorem dX9_pulse_20 : decode cX9_pulse 20 = .ok (.iaload, 1) := by decide +kernel
theorem dX9_pulse_21 : decode cX9_pulse 21 = .ok (.ifCond .le 12, 3) := by decide +kernel
theorem dX9_pulse_33 : decode cX9_pulse 33 = .ok (.iconst 0, 1) := by decide +kernel
theorem dX9_pulse_34 : decode cX9_pulse 34 = .ok (.ireturn, 1) := by decide +kernel
theorem dX9_pulse_24 : decode cX9_pulse 24 = .ok (.aload_n 0, 1) := by decide +kernel
theorem dX9_pulse_25 : decode cX9_pulse 25 = .ok (.iconst 0, 1) := by decide +kernel
theorem dX9_pulse_26 : decode cX9_pulse 26 = .ok (.dup2, 1) := by decide +kernel
theorem dX9_pulse_27 : decode cX9_pulse 27 = .ok (.iaload, 1) := by decide +kernel
theorem dX9_pulse_28 : decode cX9_pulse 28 = .ok (.iconst 1, 1) := by decide +kernel
theorem dX9_pulse_29 : decode cX9_pulse 29 = .ok (.isub, 1) := by decide +kernel
theorem dX9_pulse_30 : decode cX9_pulse 30 = .ok (.iastore, 1) := by decide +kernel
theorem dX9_pulse_31 : decode cX9_pulse 31 = .ok (.iconst 1, 1) := by decide +kernel
theorem dX9_pulse_32 : decode cX9_pulse 32 = .ok (.ireturn, 1) := by decide +kernel
theorem dX9_pulse_4 : decode cX9_pulse 4 = .ok (.aload_n 0, 1) := by decide +kernel
theorem dX9_pulse_5 : decode cX9_pulse 5 = .ok (.iconst 1, 1) := by decide +kernel
theorem dX9_pulse_6 : decode cX9_pulse 6 = .ok (.iaload, 1) := by decide +kernel
theorem dX9_pulse_7 : decode cX9_pulse 7 = .ok (.ifCond .ne 7, 3) := by decide +kernel
theorem dX9_pulse_10 : decode cX9_pulse 10 = .ok (.aload_n 0, 1) := by decide +kernel
theorem dX9_pulse_11 : decode cX9_pulse 11 = .ok (.iconst 0, 1) := by decide +kernel
theorem dX9_pulse_12 : decode cX9_pulse 12 = .ok (.iload_n 2, 1) := by decide +kernel
theorem dX9_pulse_13 : decode cX9_pulse 13 = .ok (.iastore, 1) := by decide +kernel
theorem dX9_limit_0 : decode cX9_limit 0 = .ok (.iload_n 0, 1) := by decide +kernel
theorem dX9_limit_1 : decode cX9_limit 1 = .ok (.iload_n 1, 1) := by decide +kernel
theorem dX9_limit_2 : decode cX9_limit 2 = .ok (.if_icmp .ge 5, 3) := by decide +kernel
theorem dX9_limit_7 : decode cX9_limit 7 = .ok (.iload_n 0, 1) := by decide +kernel
theorem dX9_limit_8 : decode cX9_limit 8 = .ok (.iload_n 2, 1) := by decide +kernel
theorem dX9_limit_9 : decode cX9_limit 9 = .ok (.if_icmp .le 7, 3) := by decide +kernel
theorem dX9_limit_16 : decode cX9_limit 16 = .ok (.iload_n 0, 1) := by decide +kernel
theorem dX9_limit_17 : decode cX9_limit 17 = .ok (.ireturn, 1) := by decide +kernel
theorem dX9_limit_12 : decode cX9_limit 12 = .ok (.iload_n 2, 1) := by decide +kernel
theorem dX9_limit_13 : decode cX9_limit 13 = .ok (.goto 4, 3) := by decide +kernel
theorem dX9_limit_5 : decode cX9_limit 5 = .ok (.iload_n 1, 1) := by decide +kernel
theorem dX9_limit_6 : decode cX9_limit 6 = .ok (.ireturn, 1) := by decide +kernel
theorem dX9_since_0 : decode cX9_since 0 = .ok (.iload_n 1, 1) := by decide +kernel
theorem dX9_since_1 : decode cX9_since 1 = .ok (.ifCond .eq 11, 3) := by decide +kernel
theorem dX9_since_12 : decode cX9_since 12 = .ok (.iconst 0, 1) := by decide +kernel
theorem dX9_since_13 : decode cX9_since 13 = .ok (.istore_n 3, 1) := by decide +kernel
theorem dX9_since_14 : decode cX9_since 14 = .ok (.aload_n 0, 1) := by decide +kernel
theorem dX9_since_15 : decode cX9_since 15 = .ok (.iconst 0, 1) := by decide +kernel
theorem dX9_since_16 : decode cX9_since 16 = .ok (.iload_n 3, 1) := by decide +kernel
theorem dX9_since_17 : decode cX9_since 17 = .ok (.iload_n 2, 1) := by decide +kernel
theorem dX9_since_18 : decode cX9_since 18 = .ok (.invokestatic 132, 3) := by decide +kernel
theorem dX9_since_21 : decode cX9_since 21 = .ok (.iastore, 1) := by decide +kernel
theorem dX9_since_22 : decode cX9_since 22 = .ok (.aload_n 0, 1) := by decide +kernel
theorem dX9_since_23 : decode cX9_since 23 = .ok (.iconst 0, 1) := by decide +kernel
theorem dX9_since_24 : decode cX9_since 24 = .ok (.iaload, 1) := by decide +kernel
theorem dX9_since_25 : decode cX9_since 25 = .ok (.ireturn, 1) := by decide +kernel
theorem dX9_since_4 : decode cX9_since 4 = .ok (.aload_n 0, 1) := by decide +kernel
theorem dX9_since_5 : decode cX9_since 5 = .ok (.iconst 0, 1) := by decide +kernel
theorem dX9_since_6 : decode cX9_since 6 = .ok (.iaload, 1) := by decide +kernel
theorem dX9_since_7 : decode cX9_since 7 = .ok (.iconst 1, 1) := by decide +kernel
theorem dX9_since_8 : decode cX9_since 8 = .ok (.iadd, 1) := by decide +kernel
theorem dX9_since_9 : decode cX9_since 9 = .ok (.goto 4, 3) := by decide +kernel
theorem dX9_reckonKept_0 : decode cX9_reckonKept 0 = .ok (.aload_n 0, 1) := by decide +kernel
theorem dX9_reckonKept_1 : decode cX9_reckonKept 1 = .ok (.getfield 11, 3) := by decide +kernel
theorem dX9_reckonKept_4 : decode cX9_reckonKept 4 = .ok (.iload_n 1, 1) := by decide +kernel
theorem dX9_reckonKept_5 : decode cX9_reckonKept 5 = .ok (.iaload, 1) := by decide +kernel
theorem dX9_reckonKept_6 : decode cX9_reckonKept 6 = .ok (.tableswitch 268 1 24 #[110, 268, 268, 268, 268, 268, 268, 268, 268, 268, 268, 268, 268, 268, 268, 268, 117, 134, 146, 158, 184, 201, 218, 233], 110) := by decide +kernel
theorem dX9_reckonKept_274 : decode cX9_reckonKept 274 = .ok (.aload_n 0, 1) := by decide +kernel
theorem dX9_reckonKept_275 : decode cX9_reckonKept 275 = .ok (.getfield 32, 3) := by decide +kernel
theorem dX9_reckonKept_278 : decode cX9_reckonKept 278 = .ok (.iload_n 1, 1) := by decide +kernel
theorem dX9_reckonKept_279 : decode cX9_reckonKept 279 = .ok (.aaload, 1) := by decide +kernel
theorem dX9_reckonKept_280 : decode cX9_reckonKept 280 = .ok (.iload_n 2, 1) := by decide +kernel
theorem dX9_reckonKept_281 : decode cX9_reckonKept 281 = .ok (.aload_n 0, 1) := by decide +kernel
theorem dX9_reckonKept_282 : decode cX9_reckonKept 282 = .ok (.getfield 15, 3) := by decide +kernel
theorem dX9_reckonKept_285 : decode cX9_reckonKept 285 = .ok (.iload_n 1, 1) := by decide +kernel
theorem dX9_reckonKept_286 : decode cX9_reckonKept 286 = .ok (.iaload, 1) := by decide +kernel
theorem dX9_reckonKept_287 : decode cX9_reckonKept 287 = .ok (.invokestatic 161, 3) := by decide +kernel
theorem dX9_reckonKept_290 : decode cX9_reckonKept 290 = .ok (.ireturn, 1) := by decide +kernel
theorem dX9_reckonKept_116 : decode cX9_reckonKept 116 = .ok (.aload_n 0, 1) := by decide +kernel
theorem dX9_reckonKept_117 : decode cX9_reckonKept 117 = .ok (.getfield 15, 3) := by decide +kernel
theorem dX9_reckonKept_120 : decode cX9_reckonKept 120 = .ok (.iload_n 1, 1) := by decide +kernel
theorem dX9_reckonKept_121 : decode cX9_reckonKept 121 = .ok (.iaload, 1) := by decide +kernel
theorem dX9_reckonKept_122 : decode cX9_reckonKept 122 = .ok (.ireturn, 1) := by decide +kernel
theorem dX9_reckonKept_123 : decode cX9_reckonKept 123 = .ok (.aload_n 0, 1) := by decide +kernel
theorem dX9_reckonKept_124 : decode cX9_reckonKept 124 = .ok (.getfield 29, 3) := by decide +kernel
theorem dX9_reckonKept_127 : decode cX9_reckonKept 127 = .ok (.iload_n 1, 1) := by decide +kernel
theorem dX9_reckonKept_128 : decode cX9_reckonKept 128 = .ok (.iaload, 1) := by decide +kernel
theorem dX9_reckonKept_129 : decode cX9_reckonKept 129 = .ok (.iload_n 2, 1) := by decide +kernel
theorem dX9_reckonKept_130 : decode cX9_reckonKept 130 = .ok (.aload_n 0, 1) := by decide +kernel
theorem dX9_reckonKept_131 : decode cX9_reckonKept 131 = .ok (.getfield 15, 3) := by decide +kernel
theorem dX9_reckonKept_134 : decode cX9_reckonKept 134 = .ok (.iload_n 1, 1) := by decide +kernel
theorem dX9_reckonKept_135 : decode cX9_reckonKept 135 = .ok (.iaload, 1) := by decide +kernel
theorem dX9_reckonKept_136 : decode cX9_reckonKept 136 = .ok (.invokestatic 140, 3) := by decide +kernel
theorem dX9_reckonKept_139 : decode cX9_reckonKept 139 = .ok (.ireturn, 1) := by decide +kernel
theorem dX9_reckonKept_140 : decode cX9_reckonKept 140 = .ok (.aload_n 0, 1) := by decide +kernel
theorem dX9_reckonKept_141 : decode cX9_reckonKept 141 = .ok (.getfield 32, 3) := by decide +kernel
theorem dX9_reckonKept_144 : decode cX9_reckonKept 144 = .ok (.iload_n 1, 1) := by decide +kernel
theorem dX9_reckonKept_145 : decode cX9_reckonKept 145 = .ok (.aaload, 1) := by decide +kernel
theorem dX9_reckonKept_146 : decode cX9_reckonKept 146 = .ok (.iload_n 2, 1) := by decide +kernel
theorem dX9_reckonKept_147 : decode cX9_reckonKept 147 = .ok (.iload_n 3, 1) := by decide +kernel
theorem dX9_reckonKept_148 : decode cX9_reckonKept 148 = .ok (.invokestatic 144, 3) := by decide +kernel
theorem dX9_reckonKept_151 : decode cX9_reckonKept 151 = .ok (.ireturn, 1) := by decide +kernel
theorem dX9_reckonKept_152 : decode cX9_reckonKept 152 = .ok (.aload_n 0, 1) := by decide +kernel
theorem dX9_reckonKept_153 : decode cX9_reckonKept 153 = .ok (.getfield 32, 3) := by decide +kernel
theorem dX9_reckonKept_156 : decode cX9_reckonKept 156 = .ok (.iload_n 1, 1) := by decide +kernel
theorem dX9_reckonKept_157 : decode cX9_reckonKept 157 = .ok (.aaload, 1) := by decide +kernel
theorem dX9_reckonKept_158 : decode cX9_reckonKept 158 = .ok (.iload_n 2, 1) := by decide +kernel
theorem dX9_reckonKept_159 : decode cX9_reckonKept 159 = .ok (.iload_n 3, 1) := by decide +kernel
theorem dX9_reckonKept_160 : decode cX9_reckonKept 160 = .ok (.invokestatic 148, 3) := by decide +kernel
theorem dX9_reckonKept_163 : decode cX9_reckonKept 163 = .ok (.ireturn, 1) := by decide +kernel
theorem dX9_reckonKept_164 : decode cX9_reckonKept 164 = .ok (.iload 4, 2) := by decide +kernel
theorem dX9_reckonKept_166 : decode cX9_reckonKept 166 = .ok (.aload_n 0, 1) := by decide +kernel
theorem dX9_reckonKept_167 : decode cX9_reckonKept 167 = .ok (.getfield 15, 3) := by decide +kernel
theorem dX9_reckonKept_170 : decode cX9_reckonKept 170 = .ok (.iload_n 1, 1) := by decide +kernel
theorem dX9_reckonKept_171 : decode cX9_reckonKept 171 = .ok (.iaload, 1) := by decide +kernel
theorem dX9_reckonKept_172 : decode cX9_reckonKept 172 = .ok (.aload_n 0, 1) := by decide +kernel
theorem dX9_reckonKept_173 : decode cX9_reckonKept 173 = .ok (.getfield 18, 3) := by decide +kernel
theorem dX9_reckonKept_176 : decode cX9_reckonKept 176 = .ok (.iload_n 1, 1) := by decide +kernel
theorem dX9_reckonKept_177 : decode cX9_reckonKept 177 = .ok (.iaload, 1) := by decide +kernel
theorem dX9_reckonKept_178 : decode cX9_reckonKept 178 = .ok (.invokestatic 151, 3) := by decide +kernel
theorem dX9_reckonKept_181 : decode cX9_reckonKept 181 = .ok (.ifCond .eq 7, 3) := by decide +kernel
theorem dX9_reckonKept_188 : decode cX9_reckonKept 188 = .ok (.iconst 0, 1) := by decide +kernel
theorem dX9_reckonKept_189 : decode cX9_reckonKept 189 = .ok (.ireturn, 1) := by decide +kernel
theorem dX9_reckonKept_184 : decode cX9_reckonKept 184 = .ok (.iconst 1, 1) := by decide +kernel
theorem dX9_reckonKept_185 : decode cX9_reckonKept 185 = .ok (.goto 4, 3) := by decide +kernel
theorem dX9_reckonKept_190 : decode cX9_reckonKept 190 = .ok (.aload_n 0, 1) := by decide +kernel
theorem dX9_reckonKept_191 : decode cX9_reckonKept 191 = .ok (.getfield 32, 3) := by decide +kernel
theorem dX9_reckonKept_194 : decode cX9_reckonKept 194 = .ok (.iload_n 1, 1) := by decide +kernel
theorem dX9_reckonKept_195 : decode cX9_reckonKept 195 = .ok (.aaload, 1) := by decide +kernel
theorem dX9_reckonKept_196 : decode cX9_reckonKept 196 = .ok (.iload_n 2, 1) := by decide +kernel
theorem dX9_reckonKept_197 : decode cX9_reckonKept 197 = .ok (.aload_n 0, 1) := by decide +kernel
theorem dX9_reckonKept_198 : decode cX9_reckonKept 198 = .ok (.getfield 15, 3) := by decide +kernel
theorem dX9_reckonKept_201 : decode cX9_reckonKept 201 = .ok (.iload_n 1, 1) := by decide +kernel
theorem dX9_reckonKept_202 : decode cX9_reckonKept 202 = .ok (.iaload, 1) := by decide +kernel
theorem dX9_reckonKept_203 : decode cX9_reckonKept 203 = .ok (.invokestatic 155, 3) := by decide +kernel
theorem dX9_reckonKept_206 : decode cX9_reckonKept 206 = .ok (.ireturn, 1) := by decide +kernel
theorem dX9_reckonKept_207 : decode cX9_reckonKept 207 = .ok (.iload_n 2, 1) := by decide +kernel
theorem dX9_reckonKept_208 : decode cX9_reckonKept 208 = .ok (.aload_n 0, 1) := by decide +kernel
theorem dX9_reckonKept_209 : decode cX9_reckonKept 209 = .ok (.getfield 15, 3) := by decide +kernel
theorem dX9_reckonKept_212 : decode cX9_reckonKept 212 = .ok (.iload_n 1, 1) := by decide +kernel
theorem dX9_reckonKept_213 : decode cX9_reckonKept 213 = .ok (.iaload, 1) := by decide +kernel
theorem dX9_reckonKept_214 : decode cX9_reckonKept 214 = .ok (.aload_n 0, 1) := by decide +kernel
theorem dX9_reckonKept_215 : decode cX9_reckonKept 215 = .ok (.getfield 18, 3) := by decide +kernel
theorem dX9_reckonKept_218 : decode cX9_reckonKept 218 = .ok (.iload_n 1, 1) := by decide +kernel
theorem dX9_reckonKept_219 : decode cX9_reckonKept 219 = .ok (.iaload, 1) := by decide +kernel
theorem dX9_reckonKept_220 : decode cX9_reckonKept 220 = .ok (.invokestatic 158, 3) := by decide +kernel
theorem dX9_reckonKept_223 : decode cX9_reckonKept 223 = .ok (.ireturn, 1) := by decide +kernel
theorem dX9_reckonKept_224 : decode cX9_reckonKept 224 = .ok (.iload_n 3, 1) := by decide +kernel
theorem dX9_reckonKept_225 : decode cX9_reckonKept 225 = .ok (.ifCond .eq 12, 3) := by decide +kernel
theorem dX9_reckonKept_237 : decode cX9_reckonKept 237 = .ok (.iload_n 2, 1) := by decide +kernel
theorem dX9_reckonKept_238 : decode cX9_reckonKept 238 = .ok (.ireturn, 1) := by decide +kernel
theorem dX9_reckonKept_228 : decode cX9_reckonKept 228 = .ok (.aload_n 0, 1) := by decide +kernel
theorem dX9_reckonKept_229 : decode cX9_reckonKept 229 = .ok (.getfield 29, 3) := by decide +kernel
theorem dX9_reckonKept_232 : decode cX9_reckonKept 232 = .ok (.iload_n 1, 1) := by decide +kernel
theorem dX9_reckonKept_233 : decode cX9_reckonKept 233 = .ok (.iaload, 1) := by decide +kernel
theorem dX9_reckonKept_234 : decode cX9_reckonKept 234 = .ok (.goto 4, 3) := by decide +kernel
theorem dX9_reckonKept_239 : decode cX9_reckonKept 239 = .ok (.aload_n 0, 1) := by decide +kernel
theorem dX9_reckonKept_240 : decode cX9_reckonKept 240 = .ok (.getfield 32, 3) := by decide +kernel
theorem dX9_reckonKept_243 : decode cX9_reckonKept 243 = .ok (.iload_n 1, 1) := by decide +kernel
theorem dX9_reckonKept_244 : decode cX9_reckonKept 244 = .ok (.aaload, 1) := by decide +kernel
theorem dX9_reckonKept_245 : decode cX9_reckonKept 245 = .ok (.iconst 0, 1) := by decide +kernel
theorem dX9_reckonKept_246 : decode cX9_reckonKept 246 = .ok (.iload_n 3, 1) := by decide +kernel
theorem dX9_reckonKept_247 : decode cX9_reckonKept 247 = .ok (.ifCond .eq 7, 3) := by decide +kernel
theorem dX9_reckonKept_254 : decode cX9_reckonKept 254 = .ok (.aload_n 0, 1) := by decide +kernel
theorem dX9_reckonKept_255 : decode cX9_reckonKept 255 = .ok (.getfield 32, 3) := by decide +kernel
theorem dX9_reckonKept_258 : decode cX9_reckonKept 258 = .ok (.iload_n 1, 1) := by decide +kernel
theorem dX9_reckonKept_259 : decode cX9_reckonKept 259 = .ok (.aaload, 1) := by decide +kernel
theorem dX9_reckonKept_260 : decode cX9_reckonKept 260 = .ok (.iconst 0, 1) := by decide +kernel
theorem dX9_reckonKept_261 : decode cX9_reckonKept 261 = .ok (.iaload, 1) := by decide +kernel
theorem dX9_reckonKept_262 : decode cX9_reckonKept 262 = .ok (.iload_n 2, 1) := by decide +kernel
theorem dX9_reckonKept_263 : decode cX9_reckonKept 263 = .ok (.iadd, 1) := by decide +kernel
theorem dX9_reckonKept_264 : decode cX9_reckonKept 264 = .ok (.iastore, 1) := by decide +kernel
theorem dX9_reckonKept_265 : decode cX9_reckonKept 265 = .ok (.aload_n 0, 1) := by decide +kernel
theorem dX9_reckonKept_266 : decode cX9_reckonKept 266 = .ok (.getfield 32, 3) := by decide +kernel
theorem dX9_reckonKept_269 : decode cX9_reckonKept 269 = .ok (.iload_n 1, 1) := by decide +kernel
theorem dX9_reckonKept_270 : decode cX9_reckonKept 270 = .ok (.aaload, 1) := by decide +kernel
theorem dX9_reckonKept_271 : decode cX9_reckonKept 271 = .ok (.iconst 0, 1) := by decide +kernel
theorem dX9_reckonKept_272 : decode cX9_reckonKept 272 = .ok (.iaload, 1) := by decide +kernel
theorem dX9_reckonKept_273 : decode cX9_reckonKept 273 = .ok (.ireturn, 1) := by decide +kernel
theorem dX9_reckonKept_250 : decode cX9_reckonKept 250 = .ok (.iconst 0, 1) := by decide +kernel
theorem dX9_reckonKept_251 : decode cX9_reckonKept 251 = .ok (.goto 13, 3) := by decide +kernel
theorem dX9_reckon_0 : decode cX9_reckon 0 = .ok (.aload_n 0, 1) := by decide +kernel
theorem dX9_reckon_1 : decode cX9_reckon 1 = .ok (.getfield 11, 3) := by decide +kernel
theorem dX9_reckon_4 : decode cX9_reckon 4 = .ok (.iload_n 1, 1) := by decide +kernel
theorem dX9_reckon_5 : decode cX9_reckon 5 = .ok (.iaload, 1) := by decide +kernel
theorem dX9_reckon_6 : decode cX9_reckon 6 = .ok (.istore_n 3, 1) := by decide +kernel
theorem dX9_reckon_7 : decode cX9_reckon 7 = .ok (.iload_n 3, 1) := by decide +kernel
theorem dX9_reckon_8 : decode cX9_reckon 8 = .ok (.bipush 16, 2) := by decide +kernel
theorem dX9_reckon_10 : decode cX9_reckon 10 = .ok (.if_icmp .ne 12, 3) := by decide +kernel
theorem dX9_reckon_22 : decode cX9_reckon 22 = .ok (.aload_n 0, 1) := by decide +kernel
theorem dX9_reckon_23 : decode cX9_reckon 23 = .ok (.iload_n 1, 1) := by decide +kernel
theorem dX9_reckon_24 : decode cX9_reckon 24 = .ok (.invokevirtual 115, 3) := by decide +kernel
theorem dX9_reckon_27 : decode cX9_reckon 27 = .ok (.ifCond .eq 9, 3) := by decide +kernel
theorem dX9_reckon_36 : decode cX9_reckon 36 = .ok (.aload_n 0, 1) := by decide +kernel
theorem dX9_reckon_37 : decode cX9_reckon 37 = .ok (.iload_n 1, 1) := by decide +kernel
theorem dX9_reckon_38 : decode cX9_reckon 38 = .ok (.iconst 0, 1) := by decide +kernel
theorem dX9_reckon_39 : decode cX9_reckon 39 = .ok (.invokevirtual 122, 3) := by decide +kernel
theorem dX9_reckon_42 : decode cX9_reckon 42 = .ok (.istore 4, 2) := by decide +kernel
theorem dX9_reckon_44 : decode cX9_reckon 44 = .ok (.aload_n 0, 1) := by decide +kernel
theorem dX9_reckon_45 : decode cX9_reckon 45 = .ok (.iload_n 1, 1) := by decide +kernel
theorem dX9_reckon_46 : decode cX9_reckon 46 = .ok (.iconst 1, 1) := by decide +kernel
theorem dX9_reckon_47 : decode cX9_reckon 47 = .ok (.invokevirtual 122, 3) := by decide +kernel
theorem dX9_reckon_50 : decode cX9_reckon 50 = .ok (.istore 5, 2) := by decide +kernel
theorem dX9_reckon_52 : decode cX9_reckon 52 = .ok (.iload_n 3, 1) := by decide +kernel
theorem dX9_reckon_53 : decode cX9_reckon 53 = .ok (.iconst 2, 1) := by decide +kernel
theorem dX9_reckon_54 : decode cX9_reckon 54 = .ok (.if_icmp .lt 25, 3) := by decide +kernel
theorem dX9_reckon_79 : decode cX9_reckon 79 = .ok (.iload_n 3, 1) := by decide +kernel
theorem dX9_reckon_80 : decode cX9_reckon 80 = .ok (.ifCond .ne 39, 3) := by decide +kernel
theorem dX9_reckon_119 : decode cX9_reckon 119 = .ok (.iload_n 3, 1) := by decide +kernel
theorem dX9_reckon_120 : decode cX9_reckon 120 = .ok (.bipush 15, 2) := by decide +kernel
theorem dX9_reckon_122 : decode cX9_reckon 122 = .ok (.if_icmp .ne 33, 3) := by decide +kernel
theorem dX9_reckon_155 : decode cX9_reckon 155 = .ok (.aload_n 0, 1) := by decide +kernel
theorem dX9_reckon_156 : decode cX9_reckon 156 = .ok (.iload_n 1, 1) := by decide +kernel
theorem dX9_reckon_157 : decode cX9_reckon 157 = .ok (.iload 4, 2) := by decide +kernel
theorem dX9_reckon_159 : decode cX9_reckon 159 = .ok (.iload 5, 2) := by decide +kernel
theorem dX9_reckon_161 : decode cX9_reckon 161 = .ok (.iload_n 2, 1) := by decide +kernel
theorem dX9_reckon_162 : decode cX9_reckon 162 = .ok (.invokevirtual 129, 3) := by decide +kernel
theorem dX9_reckon_165 : decode cX9_reckon 165 = .ok (.ireturn, 1) := by decide +kernel
theorem dX9_reckon_125 : decode cX9_reckon 125 = .ok (.iload 4, 2) := by decide +kernel
theorem dX9_reckon_127 : decode cX9_reckon 127 = .ok (.ifCond .lt 22, 3) := by decide +kernel
theorem dX9_reckon_149 : decode cX9_reckon 149 = .ok (.aload_n 0, 1) := by decide +kernel
theorem dX9_reckon_150 : decode cX9_reckon 150 = .ok (.iconst 2, 1) := by decide +kernel
theorem dX9_reckon_151 : decode cX9_reckon 151 = .ok (.invokevirtual 118, 3) := by decide +kernel
theorem dX9_reckon_154 : decode cX9_reckon 154 = .ok (.ireturn, 1) := by decide +kernel
theorem dX9_reckon_130 : decode cX9_reckon 130 = .ok (.iload 4, 2) := by decide +kernel
theorem dX9_reckon_132 : decode cX9_reckon 132 = .ok (.bipush 8, 2) := by decide +kernel
theorem dX9_reckon_134 : decode cX9_reckon 134 = .ok (.if_icmp .ge 15, 3) := by decide +kernel
theorem dX9_reckon_137 : decode cX9_reckon 137 = .ok (.aload_n 0, 1) := by decide +kernel
theorem dX9_reckon_138 : decode cX9_reckon 138 = .ok (.getfield 35, 3) := by decide +kernel
theorem dX9_reckon_141 : decode cX9_reckon 141 = .ok (.iload_n 1, 1) := by decide +kernel
theorem dX9_reckon_142 : decode cX9_reckon 142 = .ok (.aaload, 1) := by decide +kernel
theorem dX9_reckon_143 : decode cX9_reckon 143 = .ok (.iload 4, 2) := by decide +kernel
theorem dX9_reckon_145 : decode cX9_reckon 145 = .ok (.iaload, 1) := by decide +kernel
theorem dX9_reckon_146 : decode cX9_reckon 146 = .ok (.goto 8, 3) := by decide +kernel
theorem dX9_reckon_83 : decode cX9_reckon 83 = .ok (.aload_n 0, 1) := by decide +kernel
theorem dX9_reckon_84 : decode cX9_reckon 84 = .ok (.getfield 15, 3) := by decide +kernel
theorem dX9_reckon_87 : decode cX9_reckon 87 = .ok (.iload_n 1, 1) := by decide +kernel
theorem dX9_reckon_88 : decode cX9_reckon 88 = .ok (.iaload, 1) := by decide +kernel
theorem dX9_reckon_89 : decode cX9_reckon 89 = .ok (.istore 6, 2) := by decide +kernel
theorem dX9_reckon_91 : decode cX9_reckon 91 = .ok (.iload 6, 2) := by decide +kernel
theorem dX9_reckon_93 : decode cX9_reckon 93 = .ok (.ifCond .lt 20, 3) := by decide +kernel
theorem dX9_reckon_113 : decode cX9_reckon 113 = .ok (.aload_n 0, 1) := by decide +kernel
theorem dX9_reckon_114 : decode cX9_reckon 114 = .ok (.iconst 2, 1) := by decide +kernel
theorem dX9_reckon_115 : decode cX9_reckon 115 = .ok (.invokevirtual 118, 3) := by decide +kernel
theorem dX9_reckon_118 : decode cX9_reckon 118 = .ok (.ireturn, 1) := by decide +kernel
theorem dX9_reckon_96 : decode cX9_reckon 96 = .ok (.iload 6, 2) := by decide +kernel
theorem dX9_reckon_98 : decode cX9_reckon 98 = .ok (.bipush 10, 2) := by decide +kernel
theorem dX9_reckon_100 : decode cX9_reckon 100 = .ok (.if_icmp .ge 13, 3) := by decide +kernel
theorem dX9_reckon_103 : decode cX9_reckon 103 = .ok (.aload_n 0, 1) := by decide +kernel
theorem dX9_reckon_104 : decode cX9_reckon 104 = .ok (.getfield 48, 3) := by decide +kernel
theorem dX9_reckon_107 : decode cX9_reckon 107 = .ok (.iload 6, 2) := by decide +kernel
theorem dX9_reckon_109 : decode cX9_reckon 109 = .ok (.iaload, 1) := by decide +kernel
theorem dX9_reckon_110 : decode cX9_reckon 110 = .ok (.goto 8, 3) := by decide +kernel
theorem dX9_reckon_57 : decode cX9_reckon 57 = .ok (.iload_n 3, 1) := by decide +kernel
theorem dX9_reckon_58 : decode cX9_reckon 58 = .ok (.bipush 14, 2) := by decide +kernel
theorem dX9_reckon_60 : decode cX9_reckon 60 = .ok (.if_icmp .gt 19, 3) := by decide +kernel
theorem dX9_reckon_63 : decode cX9_reckon 63 = .ok (.aload_n 0, 1) := by decide +kernel
theorem dX9_reckon_64 : decode cX9_reckon 64 = .ok (.iload_n 3, 1) := by decide +kernel
theorem dX9_reckon_65 : decode cX9_reckon 65 = .ok (.iload 4, 2) := by decide +kernel
theorem dX9_reckon_67 : decode cX9_reckon 67 = .ok (.iload 5, 2) := by decide +kernel
theorem dX9_reckon_69 : decode cX9_reckon 69 = .ok (.aload_n 0, 1) := by decide +kernel
theorem dX9_reckon_70 : decode cX9_reckon 70 = .ok (.iload_n 1, 1) := by decide +kernel
theorem dX9_reckon_71 : decode cX9_reckon 71 = .ok (.iconst 2, 1) := by decide +kernel
theorem dX9_reckon_72 : decode cX9_reckon 72 = .ok (.invokevirtual 122, 3) := by decide +kernel
theorem dX9_reckon_75 : decode cX9_reckon 75 = .ok (.invokevirtual 125, 3) := by decide +kernel
theorem dX9_reckon_78 : decode cX9_reckon 78 = .ok (.ireturn, 1) := by decide +kernel
theorem dX9_reckon_30 : decode cX9_reckon 30 = .ok (.aload_n 0, 1) := by decide +kernel
theorem dX9_reckon_31 : decode cX9_reckon 31 = .ok (.iconst 3, 1) := by decide +kernel
theorem dX9_reckon_32 : decode cX9_reckon 32 = .ok (.invokevirtual 118, 3) := by decide +kernel
theorem dX9_reckon_35 : decode cX9_reckon 35 = .ok (.ireturn, 1) := by decide +kernel
theorem dX9_reckon_13 : decode cX9_reckon 13 = .ok (.aload_n 0, 1) := by decide +kernel
theorem dX9_reckon_14 : decode cX9_reckon 14 = .ok (.getfield 32, 3) := by decide +kernel
theorem dX9_reckon_17 : decode cX9_reckon 17 = .ok (.iload_n 1, 1) := by decide +kernel
theorem dX9_reckon_18 : decode cX9_reckon 18 = .ok (.aaload, 1) := by decide +kernel
theorem dX9_reckon_19 : decode cX9_reckon 19 = .ok (.iconst 0, 1) := by decide +kernel
theorem dX9_reckon_20 : decode cX9_reckon 20 = .ok (.iaload, 1) := by decide +kernel
theorem dX9_reckon_21 : decode cX9_reckon 21 = .ok (.ireturn, 1) := by decide +kernel
theorem dX9_countFailure_0 : decode cX9_countFailure 0 = .ok (.aload_n 0, 1) := by decide +kernel
theorem dX9_countFailure_1 : decode cX9_countFailure 1 = .ok (.getfield 57, 3) := by decide +kernel
theorem dX9_countFailure_4 : decode cX9_countFailure 4 = .ok (.iload_n 1, 1) := by decide +kernel
theorem dX9_countFailure_5 : decode cX9_countFailure 5 = .ok (.dup2, 1) := by decide +kernel
theorem dX9_countFailure_6 : decode cX9_countFailure 6 = .ok (.iaload, 1) := by decide +kernel
theorem dX9_countFailure_7 : decode cX9_countFailure 7 = .ok (.iconst 1, 1) := by decide +kernel
theorem dX9_countFailure_8 : decode cX9_countFailure 8 = .ok (.iadd, 1) := by decide +kernel
theorem dX9_countFailure_9 : decode cX9_countFailure 9 = .ok (.iastore, 1) := by decide +kernel
theorem dX9_countFailure_10 : decode cX9_countFailure 10 = .ok (.aload_n 0, 1) := by decide +kernel
theorem dX9_countFailure_11 : decode cX9_countFailure 11 = .ok (.getfield 57, 3) := by decide +kernel
theorem dX9_countFailure_14 : decode cX9_countFailure 14 = .ok (.iconst 0, 1) := by decide +kernel
theorem dX9_countFailure_15 : decode cX9_countFailure 15 = .ok (.dup2, 1) := by decide +kernel
theorem dX9_countFailure_16 : decode cX9_countFailure 16 = .ok (.iaload, 1) := by decide +kernel
theorem dX9_countFailure_17 : decode cX9_countFailure 17 = .ok (.iconst 1, 1) := by decide +kernel
theorem dX9_countFailure_18 : decode cX9_countFailure 18 = .ok (.iadd, 1) := by decide +kernel
theorem dX9_countFailure_19 : decode cX9_countFailure 19 = .ok (.iastore, 1) := by decide +kernel
theorem dX9_countFailure_20 : decode cX9_countFailure 20 = .ok (.return_, 1) := by decide +kernel
theorem dX9_reckonBlock_0 : decode cX9_reckonBlock 0 = .ok (.aload_n 0, 1) := by decide +kernel
theorem dX9_reckonBlock_1 : decode cX9_reckonBlock 1 = .ok (.iconst 0, 1) := by decide +kernel
theorem dX9_reckonBlock_2 : decode cX9_reckonBlock 2 = .ok (.putfield 105, 3) := by decide +kernel
theorem dX9_reckonBlock_5 : decode cX9_reckonBlock 5 = .ok (.aload_n 0, 1) := by decide +kernel
theorem dX9_reckonBlock_6 : decode cX9_reckonBlock 6 = .ok (.iload_n 1, 1) := by decide +kernel
theorem dX9_reckonBlock_7 : decode cX9_reckonBlock 7 = .ok (.iload_n 2, 1) := by decide +kernel
theorem dX9_reckonBlock_8 : decode cX9_reckonBlock 8 = .ok (.invokevirtual 108, 3) := by decide +kernel
theorem dX9_reckonBlock_11 : decode cX9_reckonBlock 11 = .ok (.istore_n 3, 1) := by decide +kernel
theorem dX9_reckonBlock_12 : decode cX9_reckonBlock 12 = .ok (.aload_n 0, 1) := by decide +kernel
theorem dX9_reckonBlock_13 : decode cX9_reckonBlock 13 = .ok (.getfield 105, 3) := by decide +kernel
theorem dX9_reckonBlock_16 : decode cX9_reckonBlock 16 = .ok (.ifCond .eq 18, 3) := by decide +kernel
theorem dX9_reckonBlock_34 : decode cX9_reckonBlock 34 = .ok (.aload_n 0, 1) := by decide +kernel
theorem dX9_reckonBlock_35 : decode cX9_reckonBlock 35 = .ok (.getfield 29, 3) := by decide +kernel
theorem dX9_reckonBlock_38 : decode cX9_reckonBlock 38 = .ok (.iload_n 1, 1) := by decide +kernel
theorem dX9_reckonBlock_39 : decode cX9_reckonBlock 39 = .ok (.aload_n 0, 1) := by decide +kernel
theorem dX9_reckonBlock_40 : decode cX9_reckonBlock 40 = .ok (.getfield 38, 3) := by decide +kernel
theorem dX9_reckonBlock_43 : decode cX9_reckonBlock 43 = .ok (.iload_n 1, 1) := by decide +kernel
theorem dX9_reckonBlock_44 : decode cX9_reckonBlock 44 = .ok (.baload, 1) := by decide +kernel
theorem dX9_reckonBlock_45 : decode cX9_reckonBlock 45 = .ok (.ifCond .eq 12, 3) := by decide +kernel
theorem dX9_reckonBlock_57 : decode cX9_reckonBlock 57 = .ok (.iload_n 3, 1) := by decide +kernel
theorem dX9_reckonBlock_58 : decode cX9_reckonBlock 58 = .ok (.iastore, 1) := by decide +kernel
theorem dX9_reckonBlock_59 : decode cX9_reckonBlock 59 = .ok (.return_, 1) := by decide +kernel
theorem dX9_reckonBlock_48 : decode cX9_reckonBlock 48 = .ok (.aload_n 0, 1) := by decide +kernel
theorem dX9_reckonBlock_49 : decode cX9_reckonBlock 49 = .ok (.getfield 42, 3) := by decide +kernel
theorem dX9_reckonBlock_52 : decode cX9_reckonBlock 52 = .ok (.iload_n 1, 1) := by decide +kernel
theorem dX9_reckonBlock_53 : decode cX9_reckonBlock 53 = .ok (.iaload, 1) := by decide +kernel
theorem dX9_reckonBlock_54 : decode cX9_reckonBlock 54 = .ok (.goto 4, 3) := by decide +kernel
theorem dX9_reckonBlock_19 : decode cX9_reckonBlock 19 = .ok (.aload_n 0, 1) := by decide +kernel
theorem dX9_reckonBlock_20 : decode cX9_reckonBlock 20 = .ok (.aload_n 0, 1) := by decide +kernel
theorem dX9_reckonBlock_21 : decode cX9_reckonBlock 21 = .ok (.getfield 105, 3) := by decide +kernel
theorem dX9_reckonBlock_24 : decode cX9_reckonBlock 24 = .ok (.invokevirtual 112, 3) := by decide +kernel
theorem dX9_reckonBlock_27 : decode cX9_reckonBlock 27 = .ok (.aload_n 0, 1) := by decide +kernel
theorem dX9_reckonBlock_28 : decode cX9_reckonBlock 28 = .ok (.getfield 21, 3) := by decide +kernel
theorem dX9_reckonBlock_31 : decode cX9_reckonBlock 31 = .ok (.iload_n 1, 1) := by decide +kernel
theorem dX9_reckonBlock_32 : decode cX9_reckonBlock 32 = .ok (.iaload, 1) := by decide +kernel
theorem dX9_reckonBlock_33 : decode cX9_reckonBlock 33 = .ok (.istore_n 3, 1) := by decide +kernel
theorem dX9_takeDelayed_0 : decode cX9_takeDelayed 0 = .ok (.aload_n 0, 1) := by decide +kernel
theorem dX9_takeDelayed_1 : decode cX9_takeDelayed 1 = .ok (.getfield 26, 3) := by decide +kernel
theorem dX9_takeDelayed_4 : decode cX9_takeDelayed 4 = .ok (.iload_n 1, 1) := by decide +kernel
theorem dX9_takeDelayed_5 : decode cX9_takeDelayed 5 = .ok (.aaload, 1) := by decide +kernel
theorem dX9_takeDelayed_6 : decode cX9_takeDelayed 6 = .ok (.iconst 0, 1) := by decide +kernel
theorem dX9_takeDelayed_7 : decode cX9_takeDelayed 7 = .ok (.iaload, 1) := by decide +kernel
theorem dX9_takeDelayed_8 : decode cX9_takeDelayed 8 = .ok (.istore_n 2, 1) := by decide +kernel
theorem dX9_takeDelayed_9 : decode cX9_takeDelayed 9 = .ok (.iload_n 2, 1) := by decide +kernel
theorem dX9_takeDelayed_10 : decode cX9_takeDelayed 10 = .ok (.iconst (-1), 1) := by decide +kernel
theorem dX9_takeDelayed_11 : decode cX9_takeDelayed 11 = .ok (.if_icmp .eq 18, 3) := by decide +kernel
theorem dX9_takeDelayed_29 : decode cX9_takeDelayed 29 = .ok (.aload_n 0, 1) := by decide +kernel
theorem dX9_takeDelayed_30 : decode cX9_takeDelayed 30 = .ok (.iconst 3, 1) := by decide +kernel
theorem dX9_takeDelayed_31 : decode cX9_takeDelayed 31 = .ok (.invokevirtual 112, 3) := by decide +kernel
theorem dX9_takeDelayed_34 : decode cX9_takeDelayed 34 = .ok (.aload_n 0, 1) := by decide +kernel
theorem dX9_takeDelayed_35 : decode cX9_takeDelayed 35 = .ok (.getfield 38, 3) := by decide +kernel
theorem dX9_takeDelayed_38 : decode cX9_takeDelayed 38 = .ok (.iload_n 1, 1) := by decide +kernel
theorem dX9_takeDelayed_39 : decode cX9_takeDelayed 39 = .ok (.baload, 1) := by decide +kernel
theorem dX9_takeDelayed_40 : decode cX9_takeDelayed 40 = .ok (.ifCond .ne 15, 3) := by decide +kernel
theorem dX9_takeDelayed_55 : decode cX9_takeDelayed 55 = .ok (.return_, 1) := by decide +kernel
theorem dX9_takeDelayed_43 : decode cX9_takeDelayed 43 = .ok (.aload_n 0, 1) := by decide +kernel
theorem dX9_takeDelayed_44 : decode cX9_takeDelayed 44 = .ok (.getfield 29, 3) := by decide +kernel
theorem dX9_takeDelayed_47 : decode cX9_takeDelayed 47 = .ok (.iload_n 1, 1) := by decide +kernel
theorem dX9_takeDelayed_48 : decode cX9_takeDelayed 48 = .ok (.aload_n 0, 1) := by decide +kernel
theorem dX9_takeDelayed_49 : decode cX9_takeDelayed 49 = .ok (.getfield 21, 3) := by decide +kernel
theorem dX9_takeDelayed_52 : decode cX9_takeDelayed 52 = .ok (.iload_n 1, 1) := by decide +kernel
theorem dX9_takeDelayed_53 : decode cX9_takeDelayed 53 = .ok (.iaload, 1) := by decide +kernel
theorem dX9_takeDelayed_54 : decode cX9_takeDelayed 54 = .ok (.iastore, 1) := by decide +kernel
theorem dX9_takeDelayed_14 : decode cX9_takeDelayed 14 = .ok (.aload_n 0, 1) := by decide +kernel
theorem dX9_takeDelayed_15 : decode cX9_takeDelayed 15 = .ok (.getfield 32, 3) := by decide +kernel
theorem dX9_takeDelayed_18 : decode cX9_takeDelayed 18 = .ok (.iload_n 1, 1) := by decide +kernel
theorem dX9_takeDelayed_19 : decode cX9_takeDelayed 19 = .ok (.aaload, 1) := by decide +kernel
theorem dX9_takeDelayed_20 : decode cX9_takeDelayed 20 = .ok (.iconst 0, 1) := by decide +kernel
theorem dX9_takeDelayed_21 : decode cX9_takeDelayed 21 = .ok (.aload_n 0, 1) := by decide +kernel
theorem dX9_takeDelayed_22 : decode cX9_takeDelayed 22 = .ok (.getfield 29, 3) := by decide +kernel
theorem dX9_takeDelayed_25 : decode cX9_takeDelayed 25 = .ok (.iload_n 2, 1) := by decide +kernel
theorem dX9_takeDelayed_26 : decode cX9_takeDelayed 26 = .ok (.iaload, 1) := by decide +kernel
theorem dX9_takeDelayed_27 : decode cX9_takeDelayed 27 = .ok (.iastore, 1) := by decide +kernel
theorem dX9_takeDelayed_28 : decode cX9_takeDelayed 28 = .ok (.return_, 1) := by decide +kernel
theorem dX9_reckonBlocks_0 : decode cX9_reckonBlocks 0 = .ok (.aload_n 0, 1) := by decide +kernel
theorem dX9_reckonBlocks_1 : decode cX9_reckonBlocks 1 = .ok (.invokevirtual 74, 3) := by decide +kernel
theorem dX9_reckonBlocks_4 : decode cX9_reckonBlocks 4 = .ok (.aload_n 0, 1) := by decide +kernel
theorem dX9_reckonBlocks_5 : decode cX9_reckonBlocks 5 = .ok (.getfield 95, 3) := by decide +kernel
theorem dX9_reckonBlocks_8 : decode cX9_reckonBlocks 8 = .ok (.ifCond .ne 14, 3) := by decide +kernel
theorem dX9_reckonBlocks_22 : decode cX9_reckonBlocks 22 = .ok (.return_, 1) := by decide +kernel
theorem dX9_reckonBlocks_11 : decode cX9_reckonBlocks 11 = .ok (.aload_n 0, 1) := by decide +kernel
theorem dX9_reckonBlocks_12 : decode cX9_reckonBlocks 12 = .ok (.getfield 77, 3) := by decide +kernel
theorem dX9_reckonBlocks_15 : decode cX9_reckonBlocks 15 = .ok (.aload_n 0, 1) := by decide +kernel
theorem dX9_reckonBlocks_16 : decode cX9_reckonBlocks 16 = .ok (.getfield 60, 3) := by decide +kernel
theorem dX9_reckonBlocks_19 : decode cX9_reckonBlocks 19 = .ok (.if_icmp .ge 4, 3) := by decide +kernel
theorem dX9_reckonBlocks_23 : decode cX9_reckonBlocks 23 = .ok (.iconst 0, 1) := by decide +kernel
theorem dX9_reckonBlocks_24 : decode cX9_reckonBlocks 24 = .ok (.istore_n 2, 1) := by decide +kernel
theorem dX9_reckonBlocks_25 : decode cX9_reckonBlocks 25 = .ok (.iload_n 2, 1) := by decide +kernel
theorem dX9_reckonBlocks_26 : decode cX9_reckonBlocks 26 = .ok (.aload_n 0, 1) := by decide +kernel
theorem dX9_reckonBlocks_27 : decode cX9_reckonBlocks 27 = .ok (.getfield 60, 3) := by decide +kernel
theorem dX9_reckonBlocks_30 : decode cX9_reckonBlocks 30 = .ok (.if_icmp .ge 20, 3) := by decide +kernel
theorem dX9_reckonBlocks_33 : decode cX9_reckonBlocks 33 = .ok (.aload_n 0, 1) := by decide +kernel
theorem dX9_reckonBlocks_34 : decode cX9_reckonBlocks 34 = .ok (.aload_n 0, 1) := by decide +kernel
theorem dX9_reckonBlocks_35 : decode cX9_reckonBlocks 35 = .ok (.getfield 51, 3) := by decide +kernel
theorem dX9_reckonBlocks_38 : decode cX9_reckonBlocks 38 = .ok (.iload_n 2, 1) := by decide +kernel
theorem dX9_reckonBlocks_39 : decode cX9_reckonBlocks 39 = .ok (.iaload, 1) := by decide +kernel
theorem dX9_reckonBlocks_40 : decode cX9_reckonBlocks 40 = .ok (.iload_n 1, 1) := by decide +kernel
theorem dX9_reckonBlocks_41 : decode cX9_reckonBlocks 41 = .ok (.invokevirtual 98, 3) := by decide +kernel
theorem dX9_reckonBlocks_44 : decode cX9_reckonBlocks 44 = .ok (.iinc 2 1, 3) := by decide +kernel
theorem dX9_reckonBlocks_47 : decode cX9_reckonBlocks 47 = .ok (.goto (-22), 3) := by decide +kernel
theorem dX9_reckonBlocks_50 : decode cX9_reckonBlocks 50 = .ok (.iconst 0, 1) := by decide +kernel
theorem dX9_reckonBlocks_51 : decode cX9_reckonBlocks 51 = .ok (.istore_n 2, 1) := by decide +kernel
theorem dX9_reckonBlocks_52 : decode cX9_reckonBlocks 52 = .ok (.iload_n 2, 1) := by decide +kernel
theorem dX9_reckonBlocks_53 : decode cX9_reckonBlocks 53 = .ok (.aload_n 0, 1) := by decide +kernel
theorem dX9_reckonBlocks_54 : decode cX9_reckonBlocks 54 = .ok (.getfield 60, 3) := by decide +kernel
theorem dX9_reckonBlocks_57 : decode cX9_reckonBlocks 57 = .ok (.if_icmp .ge 25, 3) := by decide +kernel
theorem dX9_reckonBlocks_60 : decode cX9_reckonBlocks 60 = .ok (.aload_n 0, 1) := by decide +kernel
theorem dX9_reckonBlocks_61 : decode cX9_reckonBlocks 61 = .ok (.getfield 11, 3) := by decide +kernel
theorem dX9_reckonBlocks_64 : decode cX9_reckonBlocks 64 = .ok (.iload_n 2, 1) := by decide +kernel
theorem dX9_reckonBlocks_65 : decode cX9_reckonBlocks 65 = .ok (.iaload, 1) := by decide +kernel
theorem dX9_reckonBlocks_66 : decode cX9_reckonBlocks 66 = .ok (.bipush 16, 2) := by decide +kernel
theorem dX9_reckonBlocks_68 : decode cX9_reckonBlocks 68 = .ok (.if_icmp .ne 8, 3) := by decide +kernel
theorem dX9_reckonBlocks_76 : decode cX9_reckonBlocks 76 = .ok (.iinc 2 1, 3) := by decide +kernel
theorem dX9_reckonBlocks_79 : decode cX9_reckonBlocks 79 = .ok (.goto (-27), 3) := by decide +kernel
theorem dX9_reckonBlocks_71 : decode cX9_reckonBlocks 71 = .ok (.aload_n 0, 1) := by decide +kernel
theorem dX9_reckonBlocks_72 : decode cX9_reckonBlocks 72 = .ok (.iload_n 2, 1) := by decide +kernel
theorem dX9_reckonBlocks_73 : decode cX9_reckonBlocks 73 = .ok (.invokevirtual 101, 3) := by decide +kernel
theorem dX9_reckonBlocks_82 : decode cX9_reckonBlocks 82 = .ok (.aload_n 0, 1) := by decide +kernel
theorem dX9_reckonBlocks_83 : decode cX9_reckonBlocks 83 = .ok (.aload_n 0, 1) := by decide +kernel
theorem dX9_reckonBlocks_84 : decode cX9_reckonBlocks 84 = .ok (.getfield 57, 3) := by decide +kernel
theorem dX9_reckonBlocks_87 : decode cX9_reckonBlocks 87 = .ok (.iconst 0, 1) := by decide +kernel
theorem dX9_reckonBlocks_88 : decode cX9_reckonBlocks 88 = .ok (.iaload, 1) := by decide +kernel
theorem dX9_reckonBlocks_89 : decode cX9_reckonBlocks 89 = .ok (.sipush 20000, 3) := by decide +kernel
theorem dX9_reckonBlocks_92 : decode cX9_reckonBlocks 92 = .ok (.if_icmp .lt 7, 3) := by decide +kernel
theorem dX9_reckonBlocks_99 : decode cX9_reckonBlocks 99 = .ok (.iconst 0, 1) := by decide +kernel
theorem dX9_reckonBlocks_100 : decode cX9_reckonBlocks 100 = .ok (.putfield 95, 3) := by decide +kernel
theorem dX9_reckonBlocks_103 : decode cX9_reckonBlocks 103 = .ok (.return_, 1) := by decide +kernel
theorem dX9_reckonBlocks_95 : decode cX9_reckonBlocks 95 = .ok (.iconst 1, 1) := by decide +kernel
theorem dX9_reckonBlocks_96 : decode cX9_reckonBlocks 96 = .ok (.goto 4, 3) := by decide +kernel
theorem dX10_init_0 : decode cX10_init 0 = .ok (.aload_n 0, 1) := by decide +kernel
theorem dX10_init_1 : decode cX10_init 1 = .ok (.invokespecial 3, 3) := by decide +kernel
theorem dX10_init_4 : decode cX10_init 4 = .ok (.aload_n 0, 1) := by decide +kernel
theorem dX10_init_5 : decode cX10_init 5 = .ok (.sipush 576, 3) := by decide +kernel
theorem dX10_init_8 : decode cX10_init 8 = .ok (.newarray .boolean, 2) := by decide +kernel
theorem dX10_init_10 : decode cX10_init 10 = .ok (.putfield 11, 3) := by decide +kernel
theorem dX10_init_13 : decode cX10_init 13 = .ok (.aload_n 0, 1) := by decide +kernel
theorem dX10_init_14 : decode cX10_init 14 = .ok (.bipush 40, 2) := by decide +kernel
theorem dX10_init_16 : decode cX10_init 16 = .ok (.newarray .int, 2) := by decide +kernel
theorem dX10_init_18 : decode cX10_init 18 = .ok (.putfield 17, 3) := by decide +kernel
theorem dX10_init_21 : decode cX10_init 21 = .ok (.aload_n 0, 1) := by decide +kernel
theorem dX10_init_22 : decode cX10_init 22 = .ok (.sipush 576, 3) := by decide +kernel
theorem dX10_init_25 : decode cX10_init 25 = .ok (.newarray .int, 2) := by decide +kernel
theorem dX10_init_27 : decode cX10_init 27 = .ok (.putfield 21, 3) := by decide +kernel
theorem dX10_init_30 : decode cX10_init 30 = .ok (.aload_n 0, 1) := by decide +kernel
theorem dX10_init_31 : decode cX10_init 31 = .ok (.sipush 576, 3) := by decide +kernel
theorem dX10_init_34 : decode cX10_init 34 = .ok (.newarray .int, 2) := by decide +kernel
theorem dX10_init_36 : decode cX10_init 36 = .ok (.putfield 24, 3) := by decide +kernel
theorem dX10_init_39 : decode cX10_init 39 = .ok (.aload_n 0, 1) := by decide +kernel
theorem dX10_init_40 : decode cX10_init 40 = .ok (.bipush 40, 2) := by decide +kernel
theorem dX10_init_42 : decode cX10_init 42 = .ok (.bipush 8, 2) := by decide +kernel
theorem dX10_init_44 : decode cX10_init 44 = .ok (.multianewarray 27 2, 4) := by decide +kernel
theorem dX10_init_48 : decode cX10_init 48 = .ok (.putfield 29, 3) := by decide +kernel
theorem dX10_init_51 : decode cX10_init 51 = .ok (.aload_n 0, 1) := by decide +kernel
theorem dX10_init_52 : decode cX10_init 52 = .ok (.bipush 40, 2) := by decide +kernel
theorem dX10_init_54 : decode cX10_init 54 = .ok (.newarray .int, 2) := by decide +kernel
theorem dX10_init_56 : decode cX10_init 56 = .ok (.putfield 32, 3) := by decide +kernel
theorem dX10_init_59 : decode cX10_init 59 = .ok (.aload_n 0, 1) := by decide +kernel
theorem dX10_init_60 : decode cX10_init 60 = .ok (.bipush 20, 2) := by decide +kernel
theorem dX10_init_62 : decode cX10_init 62 = .ok (.bipush 6, 2) := by decide +kernel
theorem dX10_init_64 : decode cX10_init 64 = .ok (.multianewarray 27 2, 4) := by decide +kernel
theorem dX10_init_68 : decode cX10_init 68 = .ok (.putfield 37, 3) := by decide +kernel
theorem dX10_init_71 : decode cX10_init 71 = .ok (.aload_n 0, 1) := by decide +kernel
theorem dX10_init_72 : decode cX10_init 72 = .ok (.aload_n 1, 1) := by decide +kernel
theorem dX10_init_73 : decode cX10_init 73 = .ok (.putfield 40, 3) := by decide +kernel
theorem dX10_init_76 : decode cX10_init 76 = .ok (.aload_n 0, 1) := by decide +kernel
theorem dX10_init_77 : decode cX10_init 77 = .ok (.aload_n 2, 1) := by decide +kernel
theorem dX10_init_78 : decode cX10_init 78 = .ok (.putfield 44, 3) := by decide +kernel
theorem dX10_init_81 : decode cX10_init 81 = .ok (.return_, 1) := by decide +kernel
theorem dX10_isInSpace_0 : decode cX10_isInSpace 0 = .ok (.iload_n 1, 1) := by decide +kernel
theorem dX10_isInSpace_1 : decode cX10_isInSpace 1 = .ok (.ifCond .lt 27, 3) := by decide +kernel
theorem dX10_isInSpace_28 : decode cX10_isInSpace 28 = .ok (.iconst 0, 1) := by decide +kernel
theorem dX10_isInSpace_29 : decode cX10_isInSpace 29 = .ok (.ireturn, 1) := by decide +kernel
theorem dX10_isInSpace_4 : decode cX10_isInSpace 4 = .ok (.iload_n 1, 1) := by decide +kernel
theorem dX10_isInSpace_5 : decode cX10_isInSpace 5 = .ok (.sipush 576, 3) := by decide +kernel
theorem dX10_isInSpace_8 : decode cX10_isInSpace 8 = .ok (.if_icmp .ge 20, 3) := by decide +kernel
theorem dX10_isInSpace_11 : decode cX10_isInSpace 11 = .ok (.aload_n 0, 1) := by decide +kernel
theorem dX10_isInSpace_12 : decode cX10_isInSpace 12 = .ok (.getfield 44, 3) := by decide +kernel
theorem dX10_isInSpace_15 : decode cX10_isInSpace 15 = .ok (.getfield 55, 3) := by decide +kernel
theorem dX10_isInSpace_18 : decode cX10_isInSpace 18 = .ok (.iload_n 1, 1) := by decide +kernel
theorem dX10_isInSpace_19 : decode cX10_isInSpace 19 = .ok (.iaload, 1) := by decide +kernel
theorem dX10_isInSpace_20 : decode cX10_isInSpace 20 = .ok (.iconst (-1), 1) := by decide +kernel
theorem dX10_isInSpace_21 : decode cX10_isInSpace 21 = .ok (.if_icmp .eq 7, 3) := by decide +kernel
theorem dX10_isInSpace_24 : decode cX10_isInSpace 24 = .ok (.iconst 1, 1) := by decide +kernel
theorem dX10_isInSpace_25 : decode cX10_isInSpace 25 = .ok (.goto 4, 3) := by decide +kernel
theorem dX10_canGo_0 : decode cX10_canGo 0 = .ok (.aload_n 0, 1) := by decide +kernel
theorem dX10_canGo_1 : decode cX10_canGo 1 = .ok (.getfield 44, 3) := by decide +kernel
theorem dX10_canGo_4 : decode cX10_canGo 4 = .ok (.iload_n 1, 1) := by decide +kernel
theorem dX10_canGo_5 : decode cX10_canGo 5 = .ok (.iload_n 2, 1) := by decide +kernel
theorem dX10_canGo_6 : decode cX10_canGo 6 = .ok (.invokevirtual 58, 3) := by decide +kernel
theorem dX10_canGo_9 : decode cX10_canGo 9 = .ok (.istore_n 3, 1) := by decide +kernel
theorem dX10_canGo_10 : decode cX10_canGo 10 = .ok (.iload_n 3, 1) := by decide +kernel
theorem dX10_canGo_11 : decode cX10_canGo 11 = .ok (.iconst (-1), 1) := by decide +kernel
theorem dX10_canGo_12 : decode cX10_canGo 12 = .ok (.if_icmp .eq 24, 3) := by decide +kernel
theorem dX10_canGo_36 : decode cX10_canGo 36 = .ok (.iconst 1, 1) := by decide +kernel
theorem dX10_canGo_37 : decode cX10_canGo 37 = .ok (.goto 4, 3) := by decide +kernel
theorem dX10_canGo_41 : decode cX10_canGo 41 = .ok (.ireturn, 1) := by decide +kernel
theorem dX10_canGo_15 : decode cX10_canGo 15 = .ok (.aload_n 0, 1) := by decide +kernel
theorem dX10_canGo_16 : decode cX10_canGo 16 = .ok (.getfield 40, 3) := by decide +kernel
theorem dX10_canGo_19 : decode cX10_canGo 19 = .ok (.iload_n 3, 1) := by decide +kernel
theorem dX10_canGo_20 : decode cX10_canGo 20 = .ok (.aload_n 0, 1) := by decide +kernel
theorem dX10_canGo_21 : decode cX10_canGo 21 = .ok (.getfield 44, 3) := by decide +kernel
theorem dX10_canGo_24 : decode cX10_canGo 24 = .ok (.iload_n 1, 1) := by decide +kernel
theorem dX10_canGo_25 : decode cX10_canGo 25 = .ok (.iload_n 2, 1) := by decide +kernel
theorem dX10_canGo_26 : decode cX10_canGo 26 = .ok (.iload_n 3, 1) := by decide +kernel
theorem dX10_canGo_27 : decode cX10_canGo 27 = .ok (.invokevirtual 62, 3) := by decide +kernel
theorem dX10_canGo_30 : decode cX10_canGo 30 = .ok (.invokevirtual 66, 3) := by decide +kernel
theorem dX10_canGo_33 : decode cX10_canGo 33 = .ok (.ifCond .eq 7, 3) := by decide +kernel
theorem dX10_canGo_40 : decode cX10_canGo 40 = .ok (.iconst 0, 1) := by decide +kernel
theorem dX10_isBesideOutside_0 : decode cX10_isBesideOutside 0 = .ok (.iconst 0, 1) := by decide +kernel
theorem dX10_isBesideOutside_1 : decode cX10_isBesideOutside 1 = .ok (.istore_n 2, 1) := by decide +kernel
theorem dX10_isBesideOutside_2 : decode cX10_isBesideOutside 2 = .ok (.iload_n 2, 1) := by decide +kernel
theorem dX10_isBesideOutside_3 : decode cX10_isBesideOutside 3 = .ok (.iconst 4, 1) := by decide +kernel
theorem dX10_isBesideOutside_4 : decode cX10_isBesideOutside 4 = .ok (.if_icmp .ge 36, 3) := by decide +kernel
theorem dX10_isBesideOutside_7 : decode cX10_isBesideOutside 7 = .ok (.aload_n 0, 1) := by decide +kernel
theorem dX10_isBesideOutside_8 : decode cX10_isBesideOutside 8 = .ok (.aload_n 0, 1) := by decide +kernel
theorem dX10_isBesideOutside_9 : decode cX10_isBesideOutside 9 = .ok (.getfield 44, 3) := by decide +kernel
theorem dX10_isBesideOutside_12 : decode cX10_isBesideOutside 12 = .ok (.iload_n 1, 1) := by decide +kernel
theorem dX10_isBesideOutside_13 : decode cX10_isBesideOutside 13 = .ok (.iload_n 2, 1) := by decide +kernel
theorem dX10_isBesideOutside_14 : decode cX10_isBesideOutside 14 = .ok (.invokevirtual 77, 3) := by decide +kernel
theorem dX10_isBesideOutside_17 : decode cX10_isBesideOutside 17 = .ok (.invokevirtual 70, 3) := by decide +kernel
theorem dX10_isBesideOutside_20 : decode cX10_isBesideOutside 20 = .ok (.ifCond .ne 14, 3) := by decide +kernel
theorem dX10_isBesideOutside_34 : decode cX10_isBesideOutside 34 = .ok (.iinc 2 1, 3) := by decide +kernel
theorem dX10_isBesideOutside_37 : decode cX10_isBesideOutside 37 = .ok (.goto (-35), 3) := by decide +kernel
theorem dX10_isBesideOutside_23 : decode cX10_isBesideOutside 23 = .ok (.aload_n 0, 1) := by decide +kernel
theorem dX10_isBesideOutside_24 : decode cX10_isBesideOutside 24 = .ok (.iload_n 1, 1) := by decide +kernel
theorem dX10_isBesideOutside_25 : decode cX10_isBesideOutside 25 = .ok (.iload_n 2, 1) := by decide +kernel
theorem dX10_isBesideOutside_26 : decode cX10_isBesideOutside 26 = .ok (.invokevirtual 80, 3) := by decide +kernel
theorem dX10_isBesideOutside_29 : decode cX10_isBesideOutside 29 = .ok (.ifCond .eq 5, 3) := by decide +kernel
theorem dX10_isBesideOutside_32 : decode cX10_isBesideOutside 32 = .ok (.iconst 1, 1) := by decide +kernel
theorem dX10_isBesideOutside_33 : decode cX10_isBesideOutside 33 = .ok (.ireturn, 1) := by decide +kernel
theorem dX10_isBesideOutside_40 : decode cX10_isBesideOutside 40 = .ok (.iconst 0, 1) := by decide +kernel
theorem dX10_isBesideOutside_41 : decode cX10_isBesideOutside 41 = .ok (.ireturn, 1) := by decide +kernel
theorem dX10_numberCells_0 : decode cX10_numberCells 0 = .ok (.iconst 0, 1) := by decide +kernel
theorem dX10_numberCells_1 : decode cX10_numberCells 1 = .ok (.istore_n 1, 1) := by decide +kernel
theorem dX10_numberCells_2 : decode cX10_numberCells 2 = .ok (.iconst 0, 1) := by decide +kernel
theorem dX10_numberCells_3 : decode cX10_numberCells 3 = .ok (.istore_n 2, 1) := by decide +kernel
theorem dX10_numberCells_4 : decode cX10_numberCells 4 = .ok (.iload_n 2, 1) := by decide +kernel
theorem dX10_numberCells_5 : decode cX10_numberCells 5 = .ok (.sipush 576, 3) := by decide +kernel
theorem dX10_numberCells_8 : decode cX10_numberCells 8 = .ok (.if_icmp .ge 49, 3) := by decide +kernel
theorem dX10_numberCells_11 : decode cX10_numberCells 11 = .ok (.aload_n 0, 1) := by decide +kernel
theorem dX10_numberCells_12 : decode cX10_numberCells 12 = .ok (.getfield 21, 3) := by decide +kernel
theorem dX10_numberCells_15 : decode cX10_numberCells 15 = .ok (.iload_n 2, 1) := by decide +kernel
theorem dX10_numberCells_16 : decode cX10_numberCells 16 = .ok (.iconst (-1), 1) := by decide +kernel
theorem dX10_numberCells_17 : decode cX10_numberCells 17 = .ok (.iastore, 1) := by decide +kernel
theorem dX10_numberCells_18 : decode cX10_numberCells 18 = .ok (.aload_n 0, 1) := by decide +kernel
theorem dX10_numberCells_19 : decode cX10_numberCells 19 = .ok (.iload_n 2, 1) := by decide +kernel
theorem dX10_numberCells_20 : decode cX10_numberCells 20 = .ok (.invokevirtual 70, 3) := by decide +kernel
theorem dX10_numberCells_23 : decode cX10_numberCells 23 = .ok (.ifCond .eq 28, 3) := by decide +kernel
theorem dX10_numberCells_51 : decode cX10_numberCells 51 = .ok (.iinc 2 1, 3) := by decide +kernel
theorem dX10_numberCells_54 : decode cX10_numberCells 54 = .ok (.goto (-50), 3) := by decide +kernel
theorem dX10_numberCells_26 : decode cX10_numberCells 26 = .ok (.aload_n 0, 1) := by decide +kernel
theorem dX10_numberCells_27 : decode cX10_numberCells 27 = .ok (.iload_n 2, 1) := by decide +kernel
theorem dX10_numberCells_28 : decode cX10_numberCells 28 = .ok (.invokevirtual 74, 3) := by decide +kernel
theorem dX10_numberCells_31 : decode cX10_numberCells 31 = .ok (.ifCond .eq 20, 3) := by decide +kernel
theorem dX10_numberCells_34 : decode cX10_numberCells 34 = .ok (.aload_n 0, 1) := by decide +kernel
theorem dX10_numberCells_35 : decode cX10_numberCells 35 = .ok (.getfield 21, 3) := by decide +kernel
theorem dX10_numberCells_38 : decode cX10_numberCells 38 = .ok (.iload_n 2, 1) := by decide +kernel
theorem dX10_numberCells_39 : decode cX10_numberCells 39 = .ok (.iconst 1, 1) := by decide +kernel
theorem dX10_numberCells_40 : decode cX10_numberCells 40 = .ok (.iastore, 1) := by decide +kernel
theorem dX10_numberCells_41 : decode cX10_numberCells 41 = .ok (.aload_n 0, 1) := by decide +kernel
theorem dX10_numberCells_42 : decode cX10_numberCells 42 = .ok (.getfield 24, 3) := by decide +kernel
theorem dX10_numberCells_45 : decode cX10_numberCells 45 = .ok (.iload_n 1, 1) := by decide +kernel
theorem dX10_numberCells_46 : decode cX10_numberCells 46 = .ok (.iload_n 2, 1) := by decide +kernel
theorem dX10_numberCells_47 : decode cX10_numberCells 47 = .ok (.iastore, 1) := by decide +kernel
theorem dX10_numberCells_48 : decode cX10_numberCells 48 = .ok (.iinc 1 1, 3) := by decide +kernel
theorem dX10_numberCells_57 : decode cX10_numberCells 57 = .ok (.iconst 0, 1) := by decide +kernel
theorem dX10_numberCells_58 : decode cX10_numberCells 58 = .ok (.istore_n 2, 1) := by decide +kernel
theorem dX10_numberCells_59 : decode cX10_numberCells 59 = .ok (.iload_n 2, 1) := by decide +kernel
theorem dX10_numberCells_60 : decode cX10_numberCells 60 = .ok (.iload_n 1, 1) := by decide +kernel
theorem dX10_numberCells_61 : decode cX10_numberCells 61 = .ok (.if_icmp .ge 122, 3) := by decide +kernel
theorem dX10_numberCells_64 : decode cX10_numberCells 64 = .ok (.iconst 0, 1) := by decide +kernel
theorem dX10_numberCells_65 : decode cX10_numberCells 65 = .ok (.istore_n 3, 1) := by decide +kernel
theorem dX10_numberCells_66 : decode cX10_numberCells 66 = .ok (.iload_n 3, 1) := by decide +kernel
theorem dX10_numberCells_67 : decode cX10_numberCells 67 = .ok (.iconst 4, 1) := by decide +kernel
theorem dX10_numberCells_68 : decode cX10_numberCells 68 = .ok (.if_icmp .ge 109, 3) := by decide +kernel
theorem dX10_numberCells_71 : decode cX10_numberCells 71 = .ok (.aload_n 0, 1) := by decide +kernel
theorem dX10_numberCells_72 : decode cX10_numberCells 72 = .ok (.getfield 44, 3) := by decide +kernel
theorem dX10_numberCells_75 : decode cX10_numberCells 75 = .ok (.aload_n 0, 1) := by decide +kernel
theorem dX10_numberCells_76 : decode cX10_numberCells 76 = .ok (.getfield 24, 3) := by decide +kernel
theorem dX10_numberCells_79 : decode cX10_numberCells 79 = .ok (.iload_n 2, 1) := by decide +kernel
theorem dX10_numberCells_80 : decode cX10_numberCells 80 = .ok (.iaload, 1) := by decide +kernel
theorem dX10_numberCells_81 : decode cX10_numberCells 81 = .ok (.iload_n 3, 1) := by decide +kernel
theorem dX10_numberCells_82 : decode cX10_numberCells 82 = .ok (.invokevirtual 77, 3) := by decide +kernel
theorem dX10_numberCells_85 : decode cX10_numberCells 85 = .ok (.istore 4, 2) := by decide +kernel
theorem dX10_numberCells_87 : decode cX10_numberCells 87 = .ok (.aload_n 0, 1) := by decide +kernel
theorem dX10_numberCells_88 : decode cX10_numberCells 88 = .ok (.iload 4, 2) := by decide +kernel
theorem dX10_numberCells_90 : decode cX10_numberCells 90 = .ok (.invokevirtual 70, 3) := by decide +kernel
theorem dX10_numberCells_93 : decode cX10_numberCells 93 = .ok (.ifCond .eq 25, 3) := by decide +kernel
theorem dX10_numberCells_118 : decode cX10_numberCells 118 = .ok (.iconst 0, 1) := by decide +kernel
theorem dX10_numberCells_119 : decode cX10_numberCells 119 = .ok (.istore 5, 2) := by decide +kernel
theorem dX10_numberCells_121 : decode cX10_numberCells 121 = .ok (.iload 5, 2) := by decide +kernel
theorem dX10_numberCells_123 : decode cX10_numberCells 123 = .ok (.ifCond .eq 48, 3) := by decide +kernel
theorem dX10_numberCells_171 : decode cX10_numberCells 171 = .ok (.iinc 3 1, 3) := by decide +kernel
theorem dX10_numberCells_174 : decode cX10_numberCells 174 = .ok (.goto (-108), 3) := by decide +kernel
theorem dX10_numberCells_126 : decode cX10_numberCells 126 = .ok (.aload_n 0, 1) := by decide +kernel
theorem dX10_numberCells_127 : decode cX10_numberCells 127 = .ok (.aload_n 0, 1) := by decide +kernel
theorem dX10_numberCells_128 : decode cX10_numberCells 128 = .ok (.getfield 24, 3) := by decide +kernel
theorem dX10_numberCells_131 : decode cX10_numberCells 131 = .ok (.iload_n 2, 1) := by decide +kernel
theorem dX10_numberCells_132 : decode cX10_numberCells 132 = .ok (.iaload, 1) := by decide +kernel
theorem dX10_numberCells_133 : decode cX10_numberCells 133 = .ok (.iload_n 3, 1) := by decide +kernel
theorem dX10_numberCells_134 : decode cX10_numberCells 134 = .ok (.invokevirtual 80, 3) := by decide +kernel
theorem dX10_numberCells_137 : decode cX10_numberCells 137 = .ok (.ifCond .eq 34, 3) := by decide +kernel
theorem dX10_numberCells_140 : decode cX10_numberCells 140 = .ok (.aload_n 0, 1) := by decide +kernel
theorem dX10_numberCells_141 : decode cX10_numberCells 141 = .ok (.getfield 21, 3) := by decide +kernel
theorem dX10_numberCells_144 : decode cX10_numberCells 144 = .ok (.iload 4, 2) := by decide +kernel
theorem dX10_numberCells_146 : decode cX10_numberCells 146 = .ok (.aload_n 0, 1) := by decide +kernel
theorem dX10_numberCells_147 : decode cX10_numberCells 147 = .ok (.getfield 21, 3) := by decide +kernel
theorem dX10_numberCells_150 : decode cX10_numberCells 150 = .ok (.aload_n 0, 1) := by decide +kernel
theorem dX10_numberCells_151 : decode cX10_numberCells 151 = .ok (.getfield 24, 3) := by decide +kernel
theorem dX10_numberCells_154 : decode cX10_numberCells 154 = .ok (.iload_n 2, 1) := by decide +kernel
theorem dX10_numberCells_155 : decode cX10_numberCells 155 = .ok (.iaload, 1) := by decide +kernel
theorem dX10_numberCells_156 : decode cX10_numberCells 156 = .ok (.iaload, 1) := by decide +kernel
theorem dX10_numberCells_157 : decode cX10_numberCells 157 = .ok (.iconst 1, 1) := by decide +kernel
theorem dX10_numberCells_158 : decode cX10_numberCells 158 = .ok (.iadd, 1) := by decide +kernel
theorem dX10_numberCells_159 : decode cX10_numberCells 159 = .ok (.iastore, 1) := by decide +kernel
theorem dX10_numberCells_160 : decode cX10_numberCells 160 = .ok (.aload_n 0, 1) := by decide +kernel
theorem dX10_numberCells_161 : decode cX10_numberCells 161 = .ok (.getfield 24, 3) := by decide +kernel
theorem dX10_numberCells_164 : decode cX10_numberCells 164 = .ok (.iload_n 1, 1) := by decide +kernel
theorem dX10_numberCells_165 : decode cX10_numberCells 165 = .ok (.iload 4, 2) := by decide +kernel
theorem dX10_numberCells_167 : decode cX10_numberCells 167 = .ok (.iastore, 1) := by decide +kernel
theorem dX10_numberCells_168 : decode cX10_numberCells 168 = .ok (.iinc 1 1, 3) := by decide +kernel
theorem dX10_numberCells_96 : decode cX10_numberCells 96 = .ok (.aload_n 0, 1) := by decide +kernel
theorem dX10_numberCells_97 : decode cX10_numberCells 97 = .ok (.getfield 21, 3) := by decide +kernel
theorem dX10_numberCells_100 : decode cX10_numberCells 100 = .ok (.iload 4, 2) := by decide +kernel
theorem dX10_numberCells_102 : decode cX10_numberCells 102 = .ok (.iaload, 1) := by decide +kernel
theorem dX10_numberCells_103 : decode cX10_numberCells 103 = .ok (.iconst (-1), 1) := by decide +kernel
theorem dX10_numberCells_104 : decode cX10_numberCells 104 = .ok (.if_icmp .ne 14, 3) := by decide +kernel
theorem dX10_numberCells_107 : decode cX10_numberCells 107 = .ok (.iload_n 1, 1) := by decide +kernel
theorem dX10_numberCells_108 : decode cX10_numberCells 108 = .ok (.sipush 576, 3) := by decide +kernel
theorem dX10_numberCells_111 : decode cX10_numberCells 111 = .ok (.if_icmp .ge 7, 3) := by decide +kernel
theorem dX10_numberCells_114 : decode cX10_numberCells 114 = .ok (.iconst 1, 1) := by decide +kernel
theorem dX10_numberCells_115 : decode cX10_numberCells 115 = .ok (.goto 4, 3) := by decide +kernel
theorem dX10_numberCells_177 : decode cX10_numberCells 177 = .ok (.iinc 2 1, 3) := by decide +kernel
theorem dX10_numberCells_180 : decode cX10_numberCells 180 = .ok (.goto (-121), 3) := by decide +kernel
theorem dX10_numberCells_183 : decode cX10_numberCells 183 = .ok (.return_, 1) := by decide +kernel
theorem dX10_addSmoke_0 : decode cX10_addSmoke 0 = .ok (.aload_n 0, 1) := by decide +kernel
theorem dX10_addSmoke_1 : decode cX10_addSmoke 1 = .ok (.getfield 11, 3) := by decide +kernel
theorem dX10_addSmoke_4 : decode cX10_addSmoke 4 = .ok (.iload_n 1, 1) := by decide +kernel
theorem dX10_addSmoke_5 : decode cX10_addSmoke 5 = .ok (.baload, 1) := by decide +kernel
theorem dX10_addSmoke_6 : decode cX10_addSmoke 6 = .ok (.ifCond .eq 5, 3) := by decide +kernel
theorem dX10_addSmoke_11 : decode cX10_addSmoke 11 = .ok (.aload_n 0, 1) := by decide +kernel
theorem dX10_addSmoke_12 : decode cX10_addSmoke 12 = .ok (.getfield 11, 3) := by decide +kernel
theorem dX10_addSmoke_15 : decode cX10_addSmoke 15 = .ok (.iload_n 1, 1) := by decide +kernel
theorem dX10_addSmoke_16 : decode cX10_addSmoke 16 = .ok (.iconst 1, 1) := by decide +kernel
theorem dX10_addSmoke_17 : decode cX10_addSmoke 17 = .ok (.bastore, 1) := by decide +kernel
theorem dX10_addSmoke_18 : decode cX10_addSmoke 18 = .ok (.aload_n 0, 1) := by decide +kernel
theorem dX10_addSmoke_19 : decode cX10_addSmoke 19 = .ok (.dup, 1) := by decide +kernel
theorem dX10_addSmoke_20 : decode cX10_addSmoke 20 = .ok (.getfield 83, 3) := by decide +kernel
theorem dX10_addSmoke_23 : decode cX10_addSmoke 23 = .ok (.iconst 1, 1) := by decide +kernel
theorem dX10_addSmoke_24 : decode cX10_addSmoke 24 = .ok (.iadd, 1) := by decide +kernel
theorem dX10_addSmoke_25 : decode cX10_addSmoke 25 = .ok (.putfield 83, 3) := by decide +kernel
theorem dX10_addSmoke_28 : decode cX10_addSmoke 28 = .ok (.aload_n 0, 1) := by decide +kernel
theorem dX10_addSmoke_29 : decode cX10_addSmoke 29 = .ok (.getfield 44, 3) := by decide +kernel
theorem dX10_addSmoke_32 : decode cX10_addSmoke 32 = .ok (.getfield 55, 3) := by decide +kernel
theorem dX10_addSmoke_35 : decode cX10_addSmoke 35 = .ok (.iload_n 1, 1) := by decide +kernel
theorem dX10_addSmoke_36 : decode cX10_addSmoke 36 = .ok (.iaload, 1) := by decide +kernel
theorem dX10_addSmoke_37 : decode cX10_addSmoke 37 = .ok (.istore_n 2, 1) := by decide +kernel
theorem dX10_addSmoke_38 : decode cX10_addSmoke 38 = .ok (.iload_n 2, 1) := by decide +kernel
theorem dX10_addSmoke_39 : decode cX10_addSmoke 39 = .ok (.ifCond .lt 19, 3) := by decide +kernel
theorem dX10_addSmoke_58 : decode cX10_addSmoke 58 = .ok (.iconst 1, 1) := by decide +kernel
theorem dX10_addSmoke_59 : decode cX10_addSmoke 59 = .ok (.ireturn, 1) := by decide +kernel
theorem dX10_addSmoke_42 : decode cX10_addSmoke 42 = .ok (.iload_n 2, 1) := by decide +kernel
theorem dX10_addSmoke_43 : decode cX10_addSmoke 43 = .ok (.bipush 40, 2) := by decide +kernel
theorem dX10_addSmoke_45 : decode cX10_addSmoke 45 = .ok (.if_icmp .ge 13, 3) := by decide +kernel
theorem dX10_addSmoke_48 : decode cX10_addSmoke 48 = .ok (.aload_n 0, 1) := by decide +kernel
theorem dX10_addSmoke_49 : decode cX10_addSmoke 49 = .ok (.getfield 17, 3) := by decide +kernel
theorem dX10_addSmoke_52 : decode cX10_addSmoke 52 = .ok (.iload_n 2, 1) := by decide +kernel
theorem dX10_addSmoke_53 : decode cX10_addSmoke 53 = .ok (.dup2, 1) := by decide +kernel
theorem dX10_addSmoke_54 : decode cX10_addSmoke 54 = .ok (.iaload, 1) := by decide +kernel
theorem dX10_addSmoke_55 : decode cX10_addSmoke 55 = .ok (.iconst 1, 1) := by decide +kernel
theorem dX10_addSmoke_56 : decode cX10_addSmoke 56 = .ok (.iadd, 1) := by decide +kernel
theorem dX10_addSmoke_57 : decode cX10_addSmoke 57 = .ok (.iastore, 1) := by decide +kernel
theorem dX10_addSmoke_9 : decode cX10_addSmoke 9 = .ok (.iconst 0, 1) := by decide +kernel
theorem dX10_addSmoke_10 : decode cX10_addSmoke 10 = .ok (.ireturn, 1) := by decide +kernel
theorem dX10_spreadSmoke_0 : decode cX10_spreadSmoke 0 = .ok (.iload_n 1, 1) := by decide +kernel
theorem dX10_spreadSmoke_1 : decode cX10_spreadSmoke 1 = .ok (.bipush 10, 2) := by decide +kernel
theorem dX10_spreadSmoke_3 : decode cX10_spreadSmoke 3 = .ok (.irem, 1) := by decide +kernel
theorem dX10_spreadSmoke_4 : decode cX10_spreadSmoke 4 = .ok (.ifCond .eq 4, 3) := by decide +kernel
theorem dX10_spreadSmoke_8 : decode cX10_spreadSmoke 8 = .ok (.iconst 0, 1) := by decide +kernel
theorem dX10_spreadSmoke_9 : decode cX10_spreadSmoke 9 = .ok (.istore_n 2, 1) := by decide +kernel
theorem dX10_spreadSmoke_10 : decode cX10_spreadSmoke 10 = .ok (.iconst 0, 1) := by decide +kernel
theorem dX10_spreadSmoke_11 : decode cX10_spreadSmoke 11 = .ok (.istore_n 3, 1) := by decide +kernel
theorem dX10_spreadSmoke_12 : decode cX10_spreadSmoke 12 = .ok (.iload_n 3, 1) := by decide +kernel
theorem dX10_spreadSmoke_13 : decode cX10_spreadSmoke 13 = .ok (.sipush 576, 3) := by decide +kernel
theorem dX10_spreadSmoke_16 : decode cX10_spreadSmoke 16 = .ok (.if_icmp .ge 28, 3) := by decide +kernel
theorem dX10_spreadSmoke_19 : decode cX10_spreadSmoke 19 = .ok (.aload_n 0, 1) := by decide +kernel
theorem dX10_spreadSmoke_20 : decode cX10_spreadSmoke 20 = .ok (.getfield 11, 3) := by decide +kernel
theorem dX10_spreadSmoke_23 : decode cX10_spreadSmoke 23 = .ok (.iload_n 3, 1) := by decide +kernel
theorem dX10_spreadSmoke_24 : decode cX10_spreadSmoke 24 = .ok (.baload, 1) := by decide +kernel
theorem dX10_spreadSmoke_25 : decode cX10_spreadSmoke 25 = .ok (.ifCond .eq 13, 3) := by decide +kernel
theorem dX10_spreadSmoke_38 : decode cX10_spreadSmoke 38 = .ok (.iinc 3 1, 3) := by decide +kernel
theorem dX10_spreadSmoke_41 : decode cX10_spreadSmoke 41 = .ok (.goto (-29), 3) := by decide +kernel
theorem dX10_spreadSmoke_28 : decode cX10_spreadSmoke 28 = .ok (.aload_n 0, 1) := by decide +kernel
theorem dX10_spreadSmoke_29 : decode cX10_spreadSmoke 29 = .ok (.getfield 24, 3) := by decide +kernel
theorem dX10_spreadSmoke_32 : decode cX10_spreadSmoke 32 = .ok (.iload_n 2, 1) := by decide +kernel
theorem dX10_spreadSmoke_33 : decode cX10_spreadSmoke 33 = .ok (.iload_n 3, 1) := by decide +kernel
theorem dX10_spreadSmoke_34 : decode cX10_spreadSmoke 34 = .ok (.iastore, 1) := by decide +kernel
theorem dX10_spreadSmoke_35 : decode cX10_spreadSmoke 35 = .ok (.iinc 2 1, 3) := by decide +kernel
theorem dX10_spreadSmoke_44 : decode cX10_spreadSmoke 44 = .ok (.iconst 0, 1) := by decide +kernel
theorem dX10_spreadSmoke_45 : decode cX10_spreadSmoke 45 = .ok (.istore_n 3, 1) := by decide +kernel
theorem dX10_spreadSmoke_46 : decode cX10_spreadSmoke 46 = .ok (.iload_n 3, 1) := by decide +kernel
theorem dX10_spreadSmoke_47 : decode cX10_spreadSmoke 47 = .ok (.iload_n 2, 1) := by decide +kernel
theorem dX10_spreadSmoke_48 : decode cX10_spreadSmoke 48 = .ok (.if_icmp .ge 79, 3) := by decide +kernel
theorem dX10_spreadSmoke_51 : decode cX10_spreadSmoke 51 = .ok (.iconst 0, 1) := by decide +kernel
theorem dX10_spreadSmoke_52 : decode cX10_spreadSmoke 52 = .ok (.istore 4, 2) := by decide +kernel
theorem dX10_spreadSmoke_54 : decode cX10_spreadSmoke 54 = .ok (.iload 4, 2) := by decide +kernel
theorem dX10_spreadSmoke_56 : decode cX10_spreadSmoke 56 = .ok (.iconst 4, 1) := by decide +kernel
theorem dX10_spreadSmoke_57 : decode cX10_spreadSmoke 57 = .ok (.if_icmp .ge 64, 3) := by decide +kernel
theorem dX10_spreadSmoke_60 : decode cX10_spreadSmoke 60 = .ok (.aload_n 0, 1) := by decide +kernel
theorem dX10_spreadSmoke_61 : decode cX10_spreadSmoke 61 = .ok (.getfield 44, 3) := by decide +kernel
theorem dX10_spreadSmoke_64 : decode cX10_spreadSmoke 64 = .ok (.aload_n 0, 1) := by decide +kernel
theorem dX10_spreadSmoke_65 : decode cX10_spreadSmoke 65 = .ok (.getfield 24, 3) := by decide +kernel
theorem dX10_spreadSmoke_68 : decode cX10_spreadSmoke 68 = .ok (.iload_n 3, 1) := by decide +kernel
theorem dX10_spreadSmoke_69 : decode cX10_spreadSmoke 69 = .ok (.iaload, 1) := by decide +kernel
theorem dX10_spreadSmoke_70 : decode cX10_spreadSmoke 70 = .ok (.iload 4, 2) := by decide +kernel
theorem dX10_spreadSmoke_72 : decode cX10_spreadSmoke 72 = .ok (.invokevirtual 77, 3) := by decide +kernel
theorem dX10_spreadSmoke_75 : decode cX10_spreadSmoke 75 = .ok (.istore 5, 2) := by decide +kernel
theorem dX10_spreadSmoke_77 : decode cX10_spreadSmoke 77 = .ok (.iload 5, 2) := by decide +kernel
theorem dX10_spreadSmoke_79 : decode cX10_spreadSmoke 79 = .ok (.iconst (-1), 1) := by decide +kernel
theorem dX10_spreadSmoke_80 : decode cX10_spreadSmoke 80 = .ok (.if_icmp .eq 35, 3) := by decide +kernel
theorem dX10_spreadSmoke_115 : decode cX10_spreadSmoke 115 = .ok (.iinc 4 1, 3) := by decide +kernel
theorem dX10_spreadSmoke_118 : decode cX10_spreadSmoke 118 = .ok (.goto (-64), 3) := by decide +kernel
theorem dX10_spreadSmoke_83 : decode cX10_spreadSmoke 83 = .ok (.aload_n 0, 1) := by decide +kernel
theorem dX10_spreadSmoke_84 : decode cX10_spreadSmoke 84 = .ok (.getfield 11, 3) := by decide +kernel
theorem dX10_spreadSmoke_87 : decode cX10_spreadSmoke 87 = .ok (.iload 5, 2) := by decide +kernel
theorem dX10_spreadSmoke_89 : decode cX10_spreadSmoke 89 = .ok (.baload, 1) := by decide +kernel
theorem dX10_spreadSmoke_90 : decode cX10_spreadSmoke 90 = .ok (.ifCond .ne 25, 3) := by decide +kernel
theorem dX10_spreadSmoke_93 : decode cX10_spreadSmoke 93 = .ok (.aload_n 0, 1) := by decide +kernel
theorem dX10_spreadSmoke_94 : decode cX10_spreadSmoke 94 = .ok (.aload_n 0, 1) := by decide +kernel
theorem dX10_spreadSmoke_95 : decode cX10_spreadSmoke 95 = .ok (.getfield 24, 3) := by decide +kernel
theorem dX10_spreadSmoke_98 : decode cX10_spreadSmoke 98 = .ok (.iload_n 3, 1) := by decide +kernel
theorem dX10_spreadSmoke_99 : decode cX10_spreadSmoke 99 = .ok (.iaload, 1) := by decide +kernel
theorem dX10_spreadSmoke_100 : decode cX10_spreadSmoke 100 = .ok (.iload 4, 2) := by decide +kernel
theorem dX10_spreadSmoke_102 : decode cX10_spreadSmoke 102 = .ok (.invokevirtual 80, 3) := by decide +kernel
theorem dX10_spreadSmoke_105 : decode cX10_spreadSmoke 105 = .ok (.ifCond .eq 10, 3) := by decide +kernel
theorem dX10_spreadSmoke_108 : decode cX10_spreadSmoke 108 = .ok (.aload_n 0, 1) := by decide +kernel
theorem dX10_spreadSmoke_109 : decode cX10_spreadSmoke 109 = .ok (.iload 5, 2) := by decide +kernel
theorem dX10_spreadSmoke_111 : decode cX10_spreadSmoke 111 = .ok (.invokevirtual 86, 3) := by decide +kernel
theorem dX10_spreadSmoke_114 : decode cX10_spreadSmoke 114 = .ok (.pop, 1) := by decide +kernel
theorem dX10_spreadSmoke_121 : decode cX10_spreadSmoke 121 = .ok (.iinc 3 1, 3) := by decide +kernel
theorem dX10_spreadSmoke_124 : decode cX10_spreadSmoke 124 = .ok (.goto (-78), 3) := by decide +kernel
theorem dX10_spreadSmoke_127 : decode cX10_spreadSmoke 127 = .ok (.return_, 1) := by decide +kernel
theorem dX10_spreadSmoke_7 : decode cX10_spreadSmoke 7 = .ok (.return_, 1) := by decide +kernel
theorem dX10_cellOf_0 : decode cX10_cellOf 0 = .ok (.aload_n 0, 1) := by decide +kernel
theorem dX10_cellOf_1 : decode cX10_cellOf 1 = .ok (.getfield 29, 3) := by decide +kernel
theorem dX10_cellOf_4 : decode cX10_cellOf 4 = .ok (.iload_n 1, 1) := by decide +kernel
theorem dX10_cellOf_5 : decode cX10_cellOf 5 = .ok (.aaload, 1) := by decide +kernel
theorem dX10_cellOf_6 : decode cX10_cellOf 6 = .ok (.astore_n 2, 1) := by decide +kernel
theorem dX10_cellOf_7 : decode cX10_cellOf 7 = .ok (.aload_n 2, 1) := by decide +kernel
theorem dX10_cellOf_8 : decode cX10_cellOf 8 = .ok (.iconst 1, 1) := by decide +kernel
theorem dX10_cellOf_9 : decode cX10_cellOf 9 = .ok (.iaload, 1) := by decide +kernel
theorem dX10_cellOf_10 : decode cX10_cellOf 10 = .ok (.iconst (-1), 1) := by decide +kernel
theorem dX10_cellOf_11 : decode cX10_cellOf 11 = .ok (.if_icmp .ne 7, 3) := by decide +kernel
theorem dX10_cellOf_18 : decode cX10_cellOf 18 = .ok (.aload_n 2, 1) := by decide +kernel
theorem dX10_cellOf_19 : decode cX10_cellOf 19 = .ok (.iconst 1, 1) := by decide +kernel
theorem dX10_cellOf_20 : decode cX10_cellOf 20 = .ok (.iaload, 1) := by decide +kernel
theorem dX10_cellOf_21 : decode cX10_cellOf 21 = .ok (.aload_n 2, 1) := by decide +kernel
theorem dX10_cellOf_22 : decode cX10_cellOf 22 = .ok (.iconst 2, 1) := by decide +kernel
theorem dX10_cellOf_23 : decode cX10_cellOf 23 = .ok (.iaload, 1) := by decide +kernel
theorem dX10_cellOf_24 : decode cX10_cellOf 24 = .ok (.invokestatic 106, 3) := by decide +kernel
theorem dX10_cellOf_27 : decode cX10_cellOf 27 = .ok (.ireturn, 1) := by decide +kernel
theorem dX10_cellOf_14 : decode cX10_cellOf 14 = .ok (.iconst (-1), 1) := by decide +kernel
theorem dX10_cellOf_15 : decode cX10_cellOf 15 = .ok (.goto 12, 3) := by decide +kernel
theorem dX10_countInCell_0 : decode cX10_countInCell 0 = .ok (.iconst 0, 1) := by decide +kernel
theorem dX10_countInCell_1 : decode cX10_countInCell 1 = .ok (.istore_n 2, 1) := by decide +kernel
theorem dX10_countInCell_2 : decode cX10_countInCell 2 = .ok (.iconst 0, 1) := by decide +kernel
theorem dX10_countInCell_3 : decode cX10_countInCell 3 = .ok (.istore_n 3, 1) := by decide +kernel
theorem dX10_countInCell_4 : decode cX10_countInCell 4 = .ok (.iload_n 3, 1) := by decide +kernel
theorem dX10_countInCell_5 : decode cX10_countInCell 5 = .ok (.aload_n 0, 1) := by decide +kernel
theorem dX10_countInCell_6 : decode cX10_countInCell 6 = .ok (.getfield 93, 3) := by decide +kernel
theorem dX10_countInCell_9 : decode cX10_countInCell 9 = .ok (.if_icmp .ge 34, 3) := by decide +kernel
theorem dX10_countInCell_12 : decode cX10_countInCell 12 = .ok (.iload_n 2, 1) := by decide +kernel
theorem dX10_countInCell_13 : decode cX10_countInCell 13 = .ok (.aload_n 0, 1) := by decide +kernel
theorem dX10_countInCell_14 : decode cX10_countInCell 14 = .ok (.iload_n 3, 1) := by decide +kernel
theorem dX10_countInCell_15 : decode cX10_countInCell 15 = .ok (.invokevirtual 96, 3) := by decide +kernel
theorem dX10_countInCell_18 : decode cX10_countInCell 18 = .ok (.iload_n 1, 1) := by decide +kernel
theorem dX10_countInCell_19 : decode cX10_countInCell 19 = .ok (.if_icmp .ne 15, 3) := by decide +kernel
theorem dX10_countInCell_34 : decode cX10_countInCell 34 = .ok (.iconst 0, 1) := by decide +kernel
theorem dX10_countInCell_35 : decode cX10_countInCell 35 = .ok (.iadd, 1) := by decide +kernel
theorem dX10_countInCell_36 : decode cX10_countInCell 36 = .ok (.istore_n 2, 1) := by decide +kernel
theorem dX10_countInCell_37 : decode cX10_countInCell 37 = .ok (.iinc 3 1, 3) := by decide +kernel
theorem dX10_countInCell_40 : decode cX10_countInCell 40 = .ok (.goto (-36), 3) := by decide +kernel
theorem dX10_countInCell_22 : decode cX10_countInCell 22 = .ok (.aload_n 0, 1) := by decide +kernel
theorem dX10_countInCell_23 : decode cX10_countInCell 23 = .ok (.iload_n 3, 1) := by decide +kernel
theorem dX10_countInCell_24 : decode cX10_countInCell 24 = .ok (.invokevirtual 99, 3) := by decide +kernel
theorem dX10_countInCell_27 : decode cX10_countInCell 27 = .ok (.ifCond .ne 7, 3) := by decide +kernel
theorem dX10_countInCell_30 : decode cX10_countInCell 30 = .ok (.iconst 1, 1) := by decide +kernel
theorem dX10_countInCell_31 : decode cX10_countInCell 31 = .ok (.goto 4, 3) := by decide +kernel
theorem dX10_countInCell_43 : decode cX10_countInCell 43 = .ok (.iload_n 2, 1) := by decide +kernel
theorem dX10_countInCell_44 : decode cX10_countInCell 44 = .ok (.ireturn, 1) := by decide +kernel
theorem dX10_cellFact_0 : decode cX10_cellFact 0 = .ok (.iload_n 2, 1) := by decide +kernel
theorem dX10_cellFact_1 : decode cX10_cellFact 1 = .ok (.lookupswitch 49 #[(0, 27), (1, 42)], 27) := by decide +kernel
theorem dX10_cellFact_50 : decode cX10_cellFact 50 = .ok (.aload_n 0, 1) := by decide +kernel
theorem dX10_cellFact_51 : decode cX10_cellFact 51 = .ok (.iload_n 1, 1) := by decide +kernel
theorem dX10_cellFact_52 : decode cX10_cellFact 52 = .ok (.invokevirtual 89, 3) := by decide +kernel
theorem dX10_cellFact_55 : decode cX10_cellFact 55 = .ok (.ireturn, 1) := by decide +kernel
theorem dX10_cellFact_28 : decode cX10_cellFact 28 = .ok (.aload_n 0, 1) := by decide +kernel
theorem dX10_cellFact_29 : decode cX10_cellFact 29 = .ok (.getfield 11, 3) := by decide +kernel
theorem dX10_cellFact_32 : decode cX10_cellFact 32 = .ok (.iload_n 1, 1) := by decide +kernel
theorem dX10_cellFact_33 : decode cX10_cellFact 33 = .ok (.baload, 1) := by decide +kernel
theorem dX10_cellFact_34 : decode cX10_cellFact 34 = .ok (.ifCond .eq 7, 3) := by decide +kernel
theorem dX10_cellFact_41 : decode cX10_cellFact 41 = .ok (.iconst 0, 1) := by decide +kernel
theorem dX10_cellFact_42 : decode cX10_cellFact 42 = .ok (.ireturn, 1) := by decide +kernel
theorem dX10_cellFact_37 : decode cX10_cellFact 37 = .ok (.iconst 1, 1) := by decide +kernel
theorem dX10_cellFact_38 : decode cX10_cellFact 38 = .ok (.goto 4, 3) := by decide +kernel
theorem dX10_cellFact_43 : decode cX10_cellFact 43 = .ok (.aload_n 0, 1) := by decide +kernel
theorem dX10_cellFact_44 : decode cX10_cellFact 44 = .ok (.getfield 21, 3) := by decide +kernel
theorem dX10_cellFact_47 : decode cX10_cellFact 47 = .ok (.iload_n 1, 1) := by decide +kernel
theorem dX10_cellFact_48 : decode cX10_cellFact 48 = .ok (.iaload, 1) := by decide +kernel
theorem dX10_cellFact_49 : decode cX10_cellFact 49 = .ok (.ireturn, 1) := by decide +kernel
theorem dX10_addPerson_0 : decode cX10_addPerson 0 = .ok (.aload_n 0, 1) := by decide +kernel
theorem dX10_addPerson_1 : decode cX10_addPerson 1 = .ok (.getfield 93, 3) := by decide +kernel
theorem dX10_addPerson_4 : decode cX10_addPerson 4 = .ok (.bipush 40, 2) := by decide +kernel
theorem dX10_addPerson_6 : decode cX10_addPerson 6 = .ok (.if_icmp .lt 5, 3) := by decide +kernel
theorem dX10_addPerson_11 : decode cX10_addPerson 11 = .ok (.aload_n 0, 1) := by decide +kernel
theorem dX10_addPerson_12 : decode cX10_addPerson 12 = .ok (.getfield 29, 3) := by decide +kernel
theorem dX10_addPerson_15 : decode cX10_addPerson 15 = .ok (.aload_n 0, 1) := by decide +kernel
theorem dX10_addPerson_16 : decode cX10_addPerson 16 = .ok (.getfield 93, 3) := by decide +kernel
theorem dX10_addPerson_19 : decode cX10_addPerson 19 = .ok (.aaload, 1) := by decide +kernel
theorem dX10_addPerson_20 : decode cX10_addPerson 20 = .ok (.astore_n 3, 1) := by decide +kernel
theorem dX10_addPerson_21 : decode cX10_addPerson 21 = .ok (.aload_n 3, 1) := by decide +kernel
theorem dX10_addPerson_22 : decode cX10_addPerson 22 = .ok (.iconst 0, 1) := by decide +kernel
theorem dX10_addPerson_23 : decode cX10_addPerson 23 = .ok (.aload_n 0, 1) := by decide +kernel
theorem dX10_addPerson_24 : decode cX10_addPerson 24 = .ok (.invokevirtual 102, 3) := by decide +kernel
theorem dX10_addPerson_27 : decode cX10_addPerson 27 = .ok (.iastore, 1) := by decide +kernel
theorem dX10_addPerson_28 : decode cX10_addPerson 28 = .ok (.aload_n 3, 1) := by decide +kernel
theorem dX10_addPerson_29 : decode cX10_addPerson 29 = .ok (.iconst 1, 1) := by decide +kernel
theorem dX10_addPerson_30 : decode cX10_addPerson 30 = .ok (.iconst (-1), 1) := by decide +kernel
theorem dX10_addPerson_31 : decode cX10_addPerson 31 = .ok (.iastore, 1) := by decide +kernel
theorem dX10_addPerson_32 : decode cX10_addPerson 32 = .ok (.aload_n 3, 1) := by decide +kernel
theorem dX10_addPerson_33 : decode cX10_addPerson 33 = .ok (.iconst 2, 1) := by decide +kernel
theorem dX10_addPerson_34 : decode cX10_addPerson 34 = .ok (.iconst (-1), 1) := by decide +kernel
theorem dX10_addPerson_35 : decode cX10_addPerson 35 = .ok (.iastore, 1) := by decide +kernel
theorem dX10_addPerson_36 : decode cX10_addPerson 36 = .ok (.aload_n 3, 1) := by decide +kernel
theorem dX10_addPerson_37 : decode cX10_addPerson 37 = .ok (.iconst 3, 1) := by decide +kernel
theorem dX10_addPerson_38 : decode cX10_addPerson 38 = .ok (.iconst (-1), 1) := by decide +kernel
theorem dX10_addPerson_39 : decode cX10_addPerson 39 = .ok (.iastore, 1) := by decide +kernel
theorem dX10_addPerson_40 : decode cX10_addPerson 40 = .ok (.aload_n 3, 1) := by decide +kernel
theorem dX10_addPerson_41 : decode cX10_addPerson 41 = .ok (.bipush 6, 2) := by decide +kernel
theorem dX10_addPerson_43 : decode cX10_addPerson 43 = .ok (.iload_n 1, 1) := by decide +kernel
theorem dX10_addPerson_44 : decode cX10_addPerson 44 = .ok (.iastore, 1) := by decide +kernel
theorem dX10_addPerson_45 : decode cX10_addPerson 45 = .ok (.aload_n 3, 1) := by decide +kernel
theorem dX10_addPerson_46 : decode cX10_addPerson 46 = .ok (.bipush 7, 2) := by decide +kernel
theorem dX10_addPerson_48 : decode cX10_addPerson 48 = .ok (.iload_n 2, 1) := by decide +kernel
theorem dX10_addPerson_49 : decode cX10_addPerson 49 = .ok (.iastore, 1) := by decide +kernel
theorem dX10_addPerson_50 : decode cX10_addPerson 50 = .ok (.aload_n 0, 1) := by decide +kernel
theorem dX10_addPerson_51 : decode cX10_addPerson 51 = .ok (.dup, 1) := by decide +kernel
theorem dX10_addPerson_52 : decode cX10_addPerson 52 = .ok (.getfield 93, 3) := by decide +kernel
theorem dX10_addPerson_55 : decode cX10_addPerson 55 = .ok (.iconst 1, 1) := by decide +kernel
theorem dX10_addPerson_56 : decode cX10_addPerson 56 = .ok (.iadd, 1) := by decide +kernel
theorem dX10_addPerson_57 : decode cX10_addPerson 57 = .ok (.putfield 93, 3) := by decide +kernel
theorem dX10_addPerson_60 : decode cX10_addPerson 60 = .ok (.aload_n 0, 1) := by decide +kernel
theorem dX10_addPerson_61 : decode cX10_addPerson 61 = .ok (.getfield 93, 3) := by decide +kernel
theorem dX10_addPerson_64 : decode cX10_addPerson 64 = .ok (.iconst 1, 1) := by decide +kernel
theorem dX10_addPerson_65 : decode cX10_addPerson 65 = .ok (.isub, 1) := by decide +kernel
theorem dX10_addPerson_66 : decode cX10_addPerson 66 = .ok (.ireturn, 1) := by decide +kernel
theorem dX10_addPerson_9 : decode cX10_addPerson 9 = .ok (.iconst (-1), 1) := by decide +kernel
theorem dX10_addPerson_10 : decode cX10_addPerson 10 = .ok (.ireturn, 1) := by decide +kernel
theorem dX10_personFact_0 : decode cX10_personFact 0 = .ok (.aload_n 0, 1) := by decide +kernel
theorem dX10_personFact_1 : decode cX10_personFact 1 = .ok (.getfield 29, 3) := by decide +kernel
theorem dX10_personFact_4 : decode cX10_personFact 4 = .ok (.iload_n 1, 1) := by decide +kernel
theorem dX10_personFact_5 : decode cX10_personFact 5 = .ok (.aaload, 1) := by decide +kernel
theorem dX10_personFact_6 : decode cX10_personFact 6 = .ok (.iload_n 2, 1) := by decide +kernel
theorem dX10_personFact_7 : decode cX10_personFact 7 = .ok (.iaload, 1) := by decide +kernel
theorem dX10_personFact_8 : decode cX10_personFact 8 = .ok (.ireturn, 1) := by decide +kernel
theorem dX10_countInZone_0 : decode cX10_countInZone 0 = .ok (.iconst 0, 1) := by decide +kernel
theorem dX10_countInZone_1 : decode cX10_countInZone 1 = .ok (.istore_n 2, 1) := by decide +kernel
theorem dX10_countInZone_2 : decode cX10_countInZone 2 = .ok (.iconst 0, 1) := by decide +kernel
theorem dX10_countInZone_3 : decode cX10_countInZone 3 = .ok (.istore_n 3, 1) := by decide +kernel
theorem dX10_countInZone_4 : decode cX10_countInZone 4 = .ok (.iload_n 3, 1) := by decide +kernel
theorem dX10_countInZone_5 : decode cX10_countInZone 5 = .ok (.aload_n 0, 1) := by decide +kernel
theorem dX10_countInZone_6 : decode cX10_countInZone 6 = .ok (.getfield 93, 3) := by decide +kernel
theorem dX10_countInZone_9 : decode cX10_countInZone 9 = .ok (.if_icmp .ge 30, 3) := by decide +kernel
theorem dX10_countInZone_12 : decode cX10_countInZone 12 = .ok (.iload_n 2, 1) := by decide +kernel
theorem dX10_countInZone_13 : decode cX10_countInZone 13 = .ok (.aload_n 0, 1) := by decide +kernel
theorem dX10_countInZone_14 : decode cX10_countInZone 14 = .ok (.aload_n 0, 1) := by decide +kernel
theorem dX10_countInZone_15 : decode cX10_countInZone 15 = .ok (.iload_n 3, 1) := by decide +kernel
theorem dX10_countInZone_16 : decode cX10_countInZone 16 = .ok (.invokevirtual 109, 3) := by decide +kernel
theorem dX10_countInZone_19 : decode cX10_countInZone 19 = .ok (.invokevirtual 112, 3) := by decide +kernel
theorem dX10_countInZone_22 : decode cX10_countInZone 22 = .ok (.iload_n 1, 1) := by decide +kernel
theorem dX10_countInZone_23 : decode cX10_countInZone 23 = .ok (.if_icmp .ne 7, 3) := by decide +kernel
theorem dX10_countInZone_30 : decode cX10_countInZone 30 = .ok (.iconst 0, 1) := by decide +kernel
theorem dX10_countInZone_31 : decode cX10_countInZone 31 = .ok (.iadd, 1) := by decide +kernel
theorem dX10_countInZone_32 : decode cX10_countInZone 32 = .ok (.istore_n 2, 1) := by decide +kernel
theorem dX10_countInZone_33 : decode cX10_countInZone 33 = .ok (.iinc 3 1, 3) := by decide +kernel
theorem dX10_countInZone_36 : decode cX10_countInZone 36 = .ok (.goto (-32), 3) := by decide +kernel
theorem dX10_countInZone_26 : decode cX10_countInZone 26 = .ok (.iconst 1, 1) := by decide +kernel
theorem dX10_countInZone_27 : decode cX10_countInZone 27 = .ok (.goto 4, 3) := by decide +kernel
theorem dX10_countInZone_39 : decode cX10_countInZone 39 = .ok (.iload_n 2, 1) := by decide +kernel
theorem dX10_countInZone_40 : decode cX10_countInZone 40 = .ok (.ireturn, 1) := by decide +kernel
theorem dX10_isFreeInside_0 : decode cX10_isFreeInside 0 = .ok (.aload_n 0, 1) := by decide +kernel
theorem dX10_isFreeInside_1 : decode cX10_isFreeInside 1 = .ok (.iload_n 1, 1) := by decide +kernel
theorem dX10_isFreeInside_2 : decode cX10_isFreeInside 2 = .ok (.invokevirtual 96, 3) := by decide +kernel
theorem dX10_isFreeInside_5 : decode cX10_isFreeInside 5 = .ok (.iconst (-1), 1) := by decide +kernel
theorem dX10_isFreeInside_6 : decode cX10_isFreeInside 6 = .ok (.if_icmp .eq 15, 3) := by decide +kernel
theorem dX10_isFreeInside_21 : decode cX10_isFreeInside 21 = .ok (.iconst 0, 1) := by decide +kernel
theorem dX10_isFreeInside_22 : decode cX10_isFreeInside 22 = .ok (.ireturn, 1) := by decide +kernel
theorem dX10_isFreeInside_9 : decode cX10_isFreeInside 9 = .ok (.aload_n 0, 1) := by decide +kernel
theorem dX10_isFreeInside_10 : decode cX10_isFreeInside 10 = .ok (.iload_n 1, 1) := by decide +kernel
theorem dX10_isFreeInside_11 : decode cX10_isFreeInside 11 = .ok (.invokevirtual 99, 3) := by decide +kernel
theorem dX10_isFreeInside_14 : decode cX10_isFreeInside 14 = .ok (.ifCond .ne 7, 3) := by decide +kernel
theorem dX10_isFreeInside_17 : decode cX10_isFreeInside 17 = .ok (.iconst 1, 1) := by decide +kernel
theorem dX10_isFreeInside_18 : decode cX10_isFreeInside 18 = .ok (.goto 4, 3) := by decide +kernel
theorem dX10_countFreeInside_0 : decode cX10_countFreeInside 0 = .ok (.iconst 0, 1) := by decide +kernel
theorem dX10_countFreeInside_1 : decode cX10_countFreeInside 1 = .ok (.istore_n 1, 1) := by decide +kernel
theorem dX10_countFreeInside_2 : decode cX10_countFreeInside 2 = .ok (.iconst 0, 1) := by decide +kernel
theorem dX10_countFreeInside_3 : decode cX10_countFreeInside 3 = .ok (.istore_n 2, 1) := by decide +kernel
theorem dX10_countFreeInside_4 : decode cX10_countFreeInside 4 = .ok (.iload_n 2, 1) := by decide +kernel
theorem dX10_countFreeInside_5 : decode cX10_countFreeInside 5 = .ok (.aload_n 0, 1) := by decide +kernel
theorem dX10_countFreeInside_6 : decode cX10_countFreeInside 6 = .ok (.getfield 93, 3) := by decide +kernel
theorem dX10_countFreeInside_9 : decode cX10_countFreeInside 9 = .ok (.if_icmp .ge 25, 3) := by decide +kernel
theorem dX10_countFreeInside_12 : decode cX10_countFreeInside 12 = .ok (.iload_n 1, 1) := by decide +kernel
theorem dX10_countFreeInside_13 : decode cX10_countFreeInside 13 = .ok (.aload_n 0, 1) := by decide +kernel
theorem dX10_countFreeInside_14 : decode cX10_countFreeInside 14 = .ok (.iload_n 2, 1) := by decide +kernel
theorem dX10_countFreeInside_15 : decode cX10_countFreeInside 15 = .ok (.invokevirtual 115, 3) := by decide +kernel
theorem dX10_countFreeInside_18 : decode cX10_countFreeInside 18 = .ok (.ifCond .eq 7, 3) := by decide +kernel
theorem dX10_countFreeInside_25 : decode cX10_countFreeInside 25 = .ok (.iconst 0, 1) := by decide +kernel
theorem dX10_countFreeInside_26 : decode cX10_countFreeInside 26 = .ok (.iadd, 1) := by decide +kernel
theorem dX10_countFreeInside_27 : decode cX10_countFreeInside 27 = .ok (.istore_n 1, 1) := by decide +kernel
theorem dX10_countFreeInside_28 : decode cX10_countFreeInside 28 = .ok (.iinc 2 1, 3) := by decide +kernel
theorem dX10_countFreeInside_31 : decode cX10_countFreeInside 31 = .ok (.goto (-27), 3) := by decide +kernel
theorem dX10_countFreeInside_21 : decode cX10_countFreeInside 21 = .ok (.iconst 1, 1) := by decide +kernel
theorem dX10_countFreeInside_22 : decode cX10_countFreeInside 22 = .ok (.goto 4, 3) := by decide +kernel
theorem dX10_countFreeInside_34 : decode cX10_countFreeInside 34 = .ok (.iload_n 1, 1) := by decide +kernel
theorem dX10_countFreeInside_35 : decode cX10_countFreeInside 35 = .ok (.ireturn, 1) := by decide +kernel
theorem dX10_catchPersons_0 : decode cX10_catchPersons 0 = .ok (.iconst 0, 1) := by decide +kernel
theorem dX10_catchPersons_1 : decode cX10_catchPersons 1 = .ok (.istore_n 2, 1) := by decide +kernel
theorem dX10_catchPersons_2 : decode cX10_catchPersons 2 = .ok (.iload_n 2, 1) := by decide +kernel
theorem dX10_catchPersons_3 : decode cX10_catchPersons 3 = .ok (.aload_n 0, 1) := by decide +kernel
theorem dX10_catchPersons_4 : decode cX10_catchPersons 4 = .ok (.getfield 93, 3) := by decide +kernel
theorem dX10_catchPersons_7 : decode cX10_catchPersons 7 = .ok (.if_icmp .ge 39, 3) := by decide +kernel
theorem dX10_catchPersons_10 : decode cX10_catchPersons 10 = .ok (.aload_n 0, 1) := by decide +kernel
theorem dX10_catchPersons_11 : decode cX10_catchPersons 11 = .ok (.iload_n 2, 1) := by decide +kernel
theorem dX10_catchPersons_12 : decode cX10_catchPersons 12 = .ok (.invokevirtual 115, 3) := by decide +kernel
theorem dX10_catchPersons_15 : decode cX10_catchPersons 15 = .ok (.ifCond .eq 25, 3) := by decide +kernel
theorem dX10_catchPersons_40 : decode cX10_catchPersons 40 = .ok (.iinc 2 1, 3) := by decide +kernel
theorem dX10_catchPersons_43 : decode cX10_catchPersons 43 = .ok (.goto (-41), 3) := by decide +kernel
theorem dX10_catchPersons_18 : decode cX10_catchPersons 18 = .ok (.aload_n 0, 1) := by decide +kernel
theorem dX10_catchPersons_19 : decode cX10_catchPersons 19 = .ok (.getfield 11, 3) := by decide +kernel
theorem dX10_catchPersons_22 : decode cX10_catchPersons 22 = .ok (.aload_n 0, 1) := by decide +kernel
theorem dX10_catchPersons_23 : decode cX10_catchPersons 23 = .ok (.iload_n 2, 1) := by decide +kernel
theorem dX10_catchPersons_24 : decode cX10_catchPersons 24 = .ok (.invokevirtual 96, 3) := by decide +kernel
theorem dX10_catchPersons_27 : decode cX10_catchPersons 27 = .ok (.baload, 1) := by decide +kernel
theorem dX10_catchPersons_28 : decode cX10_catchPersons 28 = .ok (.ifCond .eq 12, 3) := by decide +kernel
theorem dX10_catchPersons_31 : decode cX10_catchPersons 31 = .ok (.aload_n 0, 1) := by decide +kernel
theorem dX10_catchPersons_32 : decode cX10_catchPersons 32 = .ok (.getfield 29, 3) := by decide +kernel
theorem dX10_catchPersons_35 : decode cX10_catchPersons 35 = .ok (.iload_n 2, 1) := by decide +kernel
theorem dX10_catchPersons_36 : decode cX10_catchPersons 36 = .ok (.aaload, 1) := by decide +kernel
theorem dX10_catchPersons_37 : decode cX10_catchPersons 37 = .ok (.iconst 3, 1) := by decide +kernel
theorem dX10_catchPersons_38 : decode cX10_catchPersons 38 = .ok (.iload_n 1, 1) := by decide +kernel
theorem dX10_catchPersons_39 : decode cX10_catchPersons 39 = .ok (.iastore, 1) := by decide +kernel
theorem dX10_catchPersons_46 : decode cX10_catchPersons 46 = .ok (.return_, 1) := by decide +kernel
theorem dX10_urgencyOf_0 : decode cX10_urgencyOf 0 = .ok (.aload_n 0, 1) := by decide +kernel
theorem dX10_urgencyOf_1 : decode cX10_urgencyOf 1 = .ok (.getfield 21, 3) := by decide +kernel
theorem dX10_urgencyOf_4 : decode cX10_urgencyOf 4 = .ok (.aload_n 0, 1) := by decide +kernel
theorem dX10_urgencyOf_5 : decode cX10_urgencyOf 5 = .ok (.iload_n 1, 1) := by decide +kernel
theorem dX10_urgencyOf_6 : decode cX10_urgencyOf 6 = .ok (.invokevirtual 96, 3) := by decide +kernel
theorem dX10_urgencyOf_9 : decode cX10_urgencyOf 9 = .ok (.iaload, 1) := by decide +kernel
theorem dX10_urgencyOf_10 : decode cX10_urgencyOf 10 = .ok (.istore_n 2, 1) := by decide +kernel
theorem dX10_urgencyOf_11 : decode cX10_urgencyOf 11 = .ok (.iload_n 2, 1) := by decide +kernel
theorem dX10_urgencyOf_12 : decode cX10_urgencyOf 12 = .ok (.iconst (-1), 1) := by decide +kernel
theorem dX10_urgencyOf_13 : decode cX10_urgencyOf 13 = .ok (.if_icmp .ne 8, 3) := by decide +kernel
theorem dX10_urgencyOf_21 : decode cX10_urgencyOf 21 = .ok (.iload_n 2, 1) := by decide +kernel
theorem dX10_urgencyOf_22 : decode cX10_urgencyOf 22 = .ok (.ireturn, 1) := by decide +kernel
theorem dX10_urgencyOf_16 : decode cX10_urgencyOf 16 = .ok (.ldc 139, 2) := by decide +kernel
theorem dX10_urgencyOf_18 : decode cX10_urgencyOf 18 = .ok (.goto 4, 3) := by decide +kernel
theorem dX10_lineUp_0 : decode cX10_lineUp 0 = .ok (.iconst 0, 1) := by decide +kernel
theorem dX10_lineUp_1 : decode cX10_lineUp 1 = .ok (.istore_n 2, 1) := by decide +kernel
theorem dX10_lineUp_2 : decode cX10_lineUp 2 = .ok (.iconst 0, 1) := by decide +kernel
theorem dX10_lineUp_3 : decode cX10_lineUp 3 = .ok (.istore_n 3, 1) := by decide +kernel
theorem dX10_lineUp_4 : decode cX10_lineUp 4 = .ok (.iload_n 3, 1) := by decide +kernel
theorem dX10_lineUp_5 : decode cX10_lineUp 5 = .ok (.aload_n 0, 1) := by decide +kernel
theorem dX10_lineUp_6 : decode cX10_lineUp 6 = .ok (.getfield 93, 3) := by decide +kernel
theorem dX10_lineUp_9 : decode cX10_lineUp 9 = .ok (.if_icmp .ge 101, 3) := by decide +kernel
theorem dX10_lineUp_12 : decode cX10_lineUp 12 = .ok (.aload_n 0, 1) := by decide +kernel
theorem dX10_lineUp_13 : decode cX10_lineUp 13 = .ok (.getfield 29, 3) := by decide +kernel
theorem dX10_lineUp_16 : decode cX10_lineUp 16 = .ok (.iload_n 3, 1) := by decide +kernel
theorem dX10_lineUp_17 : decode cX10_lineUp 17 = .ok (.aaload, 1) := by decide +kernel
theorem dX10_lineUp_18 : decode cX10_lineUp 18 = .ok (.astore 4, 2) := by decide +kernel
theorem dX10_lineUp_20 : decode cX10_lineUp 20 = .ok (.aload_n 0, 1) := by decide +kernel
theorem dX10_lineUp_21 : decode cX10_lineUp 21 = .ok (.iload_n 3, 1) := by decide +kernel
theorem dX10_lineUp_22 : decode cX10_lineUp 22 = .ok (.invokevirtual 115, 3) := by decide +kernel
theorem dX10_lineUp_25 : decode cX10_lineUp 25 = .ok (.ifCond .eq 79, 3) := by decide +kernel
theorem dX10_lineUp_104 : decode cX10_lineUp 104 = .ok (.iinc 3 1, 3) := by decide +kernel
theorem dX10_lineUp_107 : decode cX10_lineUp 107 = .ok (.goto (-103), 3) := by decide +kernel
theorem dX10_lineUp_28 : decode cX10_lineUp 28 = .ok (.iload_n 1, 1) := by decide +kernel
theorem dX10_lineUp_29 : decode cX10_lineUp 29 = .ok (.aload 4, 2) := by decide +kernel
theorem dX10_lineUp_31 : decode cX10_lineUp 31 = .ok (.iconst 5, 1) := by decide +kernel
theorem dX10_lineUp_32 : decode cX10_lineUp 32 = .ok (.iaload, 1) := by decide +kernel
theorem dX10_lineUp_33 : decode cX10_lineUp 33 = .ok (.isub, 1) := by decide +kernel
theorem dX10_lineUp_34 : decode cX10_lineUp 34 = .ok (.aload 4, 2) := by decide +kernel
theorem dX10_lineUp_36 : decode cX10_lineUp 36 = .ok (.bipush 7, 2) := by decide +kernel
theorem dX10_lineUp_38 : decode cX10_lineUp 38 = .ok (.iaload, 1) := by decide +kernel
theorem dX10_lineUp_39 : decode cX10_lineUp 39 = .ok (.if_icmp .lt 65, 3) := by decide +kernel
theorem dX10_lineUp_42 : decode cX10_lineUp 42 = .ok (.iload_n 2, 1) := by decide +kernel
theorem dX10_lineUp_43 : decode cX10_lineUp 43 = .ok (.istore 5, 2) := by decide +kernel
theorem dX10_lineUp_45 : decode cX10_lineUp 45 = .ok (.iload 5, 2) := by decide +kernel
theorem dX10_lineUp_47 : decode cX10_lineUp 47 = .ok (.ifCond .le 46, 3) := by decide +kernel
theorem dX10_lineUp_50 : decode cX10_lineUp 50 = .ok (.aload_n 0, 1) := by decide +kernel
theorem dX10_lineUp_51 : decode cX10_lineUp 51 = .ok (.aload_n 0, 1) := by decide +kernel
theorem dX10_lineUp_52 : decode cX10_lineUp 52 = .ok (.getfield 32, 3) := by decide +kernel
theorem dX10_lineUp_55 : decode cX10_lineUp 55 = .ok (.iload 5, 2) := by decide +kernel
theorem dX10_lineUp_57 : decode cX10_lineUp 57 = .ok (.iconst 1, 1) := by decide +kernel
theorem dX10_lineUp_58 : decode cX10_lineUp 58 = .ok (.isub, 1) := by decide +kernel
theorem dX10_lineUp_59 : decode cX10_lineUp 59 = .ok (.iaload, 1) := by decide +kernel
theorem dX10_lineUp_60 : decode cX10_lineUp 60 = .ok (.invokevirtual 134, 3) := by decide +kernel
theorem dX10_lineUp_63 : decode cX10_lineUp 63 = .ok (.aload_n 0, 1) := by decide +kernel
theorem dX10_lineUp_64 : decode cX10_lineUp 64 = .ok (.iload_n 3, 1) := by decide +kernel
theorem dX10_lineUp_65 : decode cX10_lineUp 65 = .ok (.invokevirtual 134, 3) := by decide +kernel
theorem dX10_lineUp_68 : decode cX10_lineUp 68 = .ok (.if_icmp .le 25, 3) := by decide +kernel
theorem dX10_lineUp_71 : decode cX10_lineUp 71 = .ok (.aload_n 0, 1) := by decide +kernel
theorem dX10_lineUp_72 : decode cX10_lineUp 72 = .ok (.getfield 32, 3) := by decide +kernel
theorem dX10_lineUp_75 : decode cX10_lineUp 75 = .ok (.iload 5, 2) := by decide +kernel
theorem dX10_lineUp_77 : decode cX10_lineUp 77 = .ok (.aload_n 0, 1) := by decide +kernel
theorem dX10_lineUp_78 : decode cX10_lineUp 78 = .ok (.getfield 32, 3) := by decide +kernel
theorem dX10_lineUp_81 : decode cX10_lineUp 81 = .ok (.iload 5, 2) := by decide +kernel
theorem dX10_lineUp_83 : decode cX10_lineUp 83 = .ok (.iconst 1, 1) := by decide +kernel
theorem dX10_lineUp_84 : decode cX10_lineUp 84 = .ok (.isub, 1) := by decide +kernel
theorem dX10_lineUp_85 : decode cX10_lineUp 85 = .ok (.iaload, 1) := by decide +kernel
theorem dX10_lineUp_86 : decode cX10_lineUp 86 = .ok (.iastore, 1) := by decide +kernel
theorem dX10_lineUp_87 : decode cX10_lineUp 87 = .ok (.iinc 5 (-1), 3) := by decide +kernel
theorem dX10_lineUp_90 : decode cX10_lineUp 90 = .ok (.goto (-45), 3) := by decide +kernel
theorem dX10_lineUp_93 : decode cX10_lineUp 93 = .ok (.aload_n 0, 1) := by decide +kernel
theorem dX10_lineUp_94 : decode cX10_lineUp 94 = .ok (.getfield 32, 3) := by decide +kernel
theorem dX10_lineUp_97 : decode cX10_lineUp 97 = .ok (.iload 5, 2) := by decide +kernel
theorem dX10_lineUp_99 : decode cX10_lineUp 99 = .ok (.iload_n 3, 1) := by decide +kernel
theorem dX10_lineUp_100 : decode cX10_lineUp 100 = .ok (.iastore, 1) := by decide +kernel
theorem dX10_lineUp_101 : decode cX10_lineUp 101 = .ok (.iinc 2 1, 3) := by decide +kernel
theorem dX10_lineUp_110 : decode cX10_lineUp 110 = .ok (.iload_n 2, 1) := by decide +kernel
theorem dX10_lineUp_111 : decode cX10_lineUp 111 = .ok (.ireturn, 1) := by decide +kernel
theorem dX10_isBetter_0 : decode cX10_isBetter 0 = .ok (.aload_n 0, 1) := by decide +kernel
theorem dX10_isBetter_1 : decode cX10_isBetter 1 = .ok (.getfield 44, 3) := by decide +kernel
theorem dX10_isBetter_4 : decode cX10_isBetter 4 = .ok (.iload_n 1, 1) := by decide +kernel
theorem dX10_isBetter_5 : decode cX10_isBetter 5 = .ok (.iload_n 2, 1) := by decide +kernel
theorem dX10_isBetter_6 : decode cX10_isBetter 6 = .ok (.invokevirtual 77, 3) := by decide +kernel
theorem dX10_isBetter_9 : decode cX10_isBetter 9 = .ok (.istore_n 3, 1) := by decide +kernel
theorem dX10_isBetter_10 : decode cX10_isBetter 10 = .ok (.aload_n 0, 1) := by decide +kernel
theorem dX10_isBetter_11 : decode cX10_isBetter 11 = .ok (.getfield 21, 3) := by decide +kernel
theorem dX10_isBetter_14 : decode cX10_isBetter 14 = .ok (.iload_n 1, 1) := by decide +kernel
theorem dX10_isBetter_15 : decode cX10_isBetter 15 = .ok (.iaload, 1) := by decide +kernel
theorem dX10_isBetter_16 : decode cX10_isBetter 16 = .ok (.istore 4, 2) := by decide +kernel
theorem dX10_isBetter_18 : decode cX10_isBetter 18 = .ok (.iload_n 3, 1) := by decide +kernel
theorem dX10_isBetter_19 : decode cX10_isBetter 19 = .ok (.iconst (-1), 1) := by decide +kernel
theorem dX10_isBetter_20 : decode cX10_isBetter 20 = .ok (.if_icmp .eq 14, 3) := by decide +kernel
theorem dX10_isBetter_34 : decode cX10_isBetter 34 = .ok (.aload_n 0, 1) := by decide +kernel
theorem dX10_isBetter_35 : decode cX10_isBetter 35 = .ok (.iload_n 3, 1) := by decide +kernel
theorem dX10_isBetter_36 : decode cX10_isBetter 36 = .ok (.invokevirtual 70, 3) := by decide +kernel
theorem dX10_isBetter_39 : decode cX10_isBetter 39 = .ok (.ifCond .eq 32, 3) := by decide +kernel
theorem dX10_isBetter_71 : decode cX10_isBetter 71 = .ok (.iload 4, 2) := by decide +kernel
theorem dX10_isBetter_73 : decode cX10_isBetter 73 = .ok (.iconst 1, 1) := by decide +kernel
theorem dX10_isBetter_74 : decode cX10_isBetter 74 = .ok (.if_icmp .ne 7, 3) := by decide +kernel
theorem dX10_isBetter_81 : decode cX10_isBetter 81 = .ok (.iconst 0, 1) := by decide +kernel
theorem dX10_isBetter_82 : decode cX10_isBetter 82 = .ok (.ireturn, 1) := by decide +kernel
theorem dX10_isBetter_77 : decode cX10_isBetter 77 = .ok (.iconst 1, 1) := by decide +kernel
theorem dX10_isBetter_78 : decode cX10_isBetter 78 = .ok (.goto 4, 3) := by decide +kernel
theorem dX10_isBetter_42 : decode cX10_isBetter 42 = .ok (.aload_n 0, 1) := by decide +kernel
theorem dX10_isBetter_43 : decode cX10_isBetter 43 = .ok (.getfield 21, 3) := by decide +kernel
theorem dX10_isBetter_46 : decode cX10_isBetter 46 = .ok (.iload_n 3, 1) := by decide +kernel
theorem dX10_isBetter_47 : decode cX10_isBetter 47 = .ok (.iaload, 1) := by decide +kernel
theorem dX10_isBetter_48 : decode cX10_isBetter 48 = .ok (.iconst (-1), 1) := by decide +kernel
theorem dX10_isBetter_49 : decode cX10_isBetter 49 = .ok (.if_icmp .eq 18, 3) := by decide +kernel
theorem dX10_isBetter_67 : decode cX10_isBetter 67 = .ok (.iconst 0, 1) := by decide +kernel
theorem dX10_isBetter_68 : decode cX10_isBetter 68 = .ok (.goto 14, 3) := by decide +kernel
theorem dX10_isBetter_52 : decode cX10_isBetter 52 = .ok (.aload_n 0, 1) := by decide +kernel
theorem dX10_isBetter_53 : decode cX10_isBetter 53 = .ok (.getfield 21, 3) := by decide +kernel
theorem dX10_isBetter_56 : decode cX10_isBetter 56 = .ok (.iload_n 3, 1) := by decide +kernel
theorem dX10_isBetter_57 : decode cX10_isBetter 57 = .ok (.iaload, 1) := by decide +kernel
theorem dX10_isBetter_58 : decode cX10_isBetter 58 = .ok (.iload 4, 2) := by decide +kernel
theorem dX10_isBetter_60 : decode cX10_isBetter 60 = .ok (.if_icmp .ge 7, 3) := by decide +kernel
theorem dX10_isBetter_63 : decode cX10_isBetter 63 = .ok (.iconst 1, 1) := by decide +kernel
theorem dX10_isBetter_64 : decode cX10_isBetter 64 = .ok (.goto 18, 3) := by decide +kernel
theorem dX10_isBetter_23 : decode cX10_isBetter 23 = .ok (.aload_n 0, 1) := by decide +kernel
theorem dX10_isBetter_24 : decode cX10_isBetter 24 = .ok (.getfield 11, 3) := by decide +kernel
theorem dX10_isBetter_27 : decode cX10_isBetter 27 = .ok (.iload_n 3, 1) := by decide +kernel
theorem dX10_isBetter_28 : decode cX10_isBetter 28 = .ok (.baload, 1) := by decide +kernel
theorem dX10_isBetter_29 : decode cX10_isBetter 29 = .ok (.ifCond .eq 5, 3) := by decide +kernel
theorem dX10_isBetter_32 : decode cX10_isBetter 32 = .ok (.iconst 0, 1) := by decide +kernel
theorem dX10_isBetter_33 : decode cX10_isBetter 33 = .ok (.ireturn, 1) := by decide +kernel
theorem dX10_goesThrough_0 : decode cX10_goesThrough 0 = .ok (.aload_n 0, 1) := by decide +kernel
theorem dX10_goesThrough_1 : decode cX10_goesThrough 1 = .ok (.getfield 44, 3) := by decide +kernel
theorem dX10_goesThrough_4 : decode cX10_goesThrough 4 = .ok (.iload_n 1, 1) := by decide +kernel
theorem dX10_goesThrough_5 : decode cX10_goesThrough 5 = .ok (.iload_n 2, 1) := by decide +kernel
theorem dX10_goesThrough_6 : decode cX10_goesThrough 6 = .ok (.invokevirtual 58, 3) := by decide +kernel
theorem dX10_goesThrough_9 : decode cX10_goesThrough 9 = .ok (.istore_n 3, 1) := by decide +kernel
theorem dX10_goesThrough_10 : decode cX10_goesThrough 10 = .ok (.iload_n 3, 1) := by decide +kernel
theorem dX10_goesThrough_11 : decode cX10_goesThrough 11 = .ok (.iconst (-1), 1) := by decide +kernel
theorem dX10_goesThrough_12 : decode cX10_goesThrough 12 = .ok (.if_icmp .ne 5, 3) := by decide +kernel
theorem dX10_goesThrough_17 : decode cX10_goesThrough 17 = .ok (.aload_n 0, 1) := by decide +kernel
theorem dX10_goesThrough_18 : decode cX10_goesThrough 18 = .ok (.getfield 44, 3) := by decide +kernel
theorem dX10_goesThrough_21 : decode cX10_goesThrough 21 = .ok (.iload_n 1, 1) := by decide +kernel
theorem dX10_goesThrough_22 : decode cX10_goesThrough 22 = .ok (.iload_n 2, 1) := by decide +kernel
theorem dX10_goesThrough_23 : decode cX10_goesThrough 23 = .ok (.iload_n 3, 1) := by decide +kernel
theorem dX10_goesThrough_24 : decode cX10_goesThrough 24 = .ok (.invokevirtual 62, 3) := by decide +kernel
theorem dX10_goesThrough_27 : decode cX10_goesThrough 27 = .ok (.istore 4, 2) := by decide +kernel
theorem dX10_goesThrough_29 : decode cX10_goesThrough 29 = .ok (.iconst 0, 1) := by decide +kernel
theorem dX10_goesThrough_30 : decode cX10_goesThrough 30 = .ok (.istore 5, 2) := by decide +kernel
theorem dX10_goesThrough_32 : decode cX10_goesThrough 32 = .ok (.iload 5, 2) := by decide +kernel
theorem dX10_goesThrough_34 : decode cX10_goesThrough 34 = .ok (.aload_n 0, 1) := by decide +kernel
theorem dX10_goesThrough_35 : decode cX10_goesThrough 35 = .ok (.getfield 40, 3) := by decide +kernel
theorem dX10_goesThrough_38 : decode cX10_goesThrough 38 = .ok (.getfield 150, 3) := by decide +kernel
theorem dX10_goesThrough_41 : decode cX10_goesThrough 41 = .ok (.iload_n 3, 1) := by decide +kernel
theorem dX10_goesThrough_42 : decode cX10_goesThrough 42 = .ok (.iaload, 1) := by decide +kernel
theorem dX10_goesThrough_43 : decode cX10_goesThrough 43 = .ok (.if_icmp .ge 61, 3) := by decide +kernel
theorem dX10_goesThrough_46 : decode cX10_goesThrough 46 = .ok (.aload_n 0, 1) := by decide +kernel
theorem dX10_goesThrough_47 : decode cX10_goesThrough 47 = .ok (.getfield 40, 3) := by decide +kernel
theorem dX10_goesThrough_50 : decode cX10_goesThrough 50 = .ok (.iload_n 3, 1) := by decide +kernel
theorem dX10_goesThrough_51 : decode cX10_goesThrough 51 = .ok (.iload 5, 2) := by decide +kernel
theorem dX10_goesThrough_53 : decode cX10_goesThrough 53 = .ok (.iload 4, 2) := by decide +kernel
theorem dX10_goesThrough_55 : decode cX10_goesThrough 55 = .ok (.invokevirtual 153, 3) := by decide +kernel
theorem dX10_goesThrough_58 : decode cX10_goesThrough 58 = .ok (.ifCond .eq 40, 3) := by decide +kernel
theorem dX10_goesThrough_98 : decode cX10_goesThrough 98 = .ok (.iinc 5 1, 3) := by decide +kernel
theorem dX10_goesThrough_101 : decode cX10_goesThrough 101 = .ok (.goto (-69), 3) := by decide +kernel
theorem dX10_goesThrough_61 : decode cX10_goesThrough 61 = .ok (.aload_n 0, 1) := by decide +kernel
theorem dX10_goesThrough_62 : decode cX10_goesThrough 62 = .ok (.getfield 37, 3) := by decide +kernel
theorem dX10_goesThrough_65 : decode cX10_goesThrough 65 = .ok (.iload_n 3, 1) := by decide +kernel
theorem dX10_goesThrough_66 : decode cX10_goesThrough 66 = .ok (.aaload, 1) := by decide +kernel
theorem dX10_goesThrough_67 : decode cX10_goesThrough 67 = .ok (.iload 5, 2) := by decide +kernel
theorem dX10_goesThrough_69 : decode cX10_goesThrough 69 = .ok (.iaload, 1) := by decide +kernel
theorem dX10_goesThrough_70 : decode cX10_goesThrough 70 = .ok (.aload_n 0, 1) := by decide +kernel
theorem dX10_goesThrough_71 : decode cX10_goesThrough 71 = .ok (.getfield 40, 3) := by decide +kernel
theorem dX10_goesThrough_74 : decode cX10_goesThrough 74 = .ok (.iload_n 3, 1) := by decide +kernel
theorem dX10_goesThrough_75 : decode cX10_goesThrough 75 = .ok (.iload 5, 2) := by decide +kernel
theorem dX10_goesThrough_77 : decode cX10_goesThrough 77 = .ok (.invokevirtual 157, 3) := by decide +kernel
theorem dX10_goesThrough_80 : decode cX10_goesThrough 80 = .ok (.if_icmp .ge 18, 3) := by decide +kernel
theorem dX10_goesThrough_83 : decode cX10_goesThrough 83 = .ok (.aload_n 0, 1) := by decide +kernel
theorem dX10_goesThrough_84 : decode cX10_goesThrough 84 = .ok (.getfield 37, 3) := by decide +kernel
theorem dX10_goesThrough_87 : decode cX10_goesThrough 87 = .ok (.iload_n 3, 1) := by decide +kernel
theorem dX10_goesThrough_88 : decode cX10_goesThrough 88 = .ok (.aaload, 1) := by decide +kernel
theorem dX10_goesThrough_89 : decode cX10_goesThrough 89 = .ok (.iload 5, 2) := by decide +kernel
theorem dX10_goesThrough_91 : decode cX10_goesThrough 91 = .ok (.dup2, 1) := by decide +kernel
theorem dX10_goesThrough_92 : decode cX10_goesThrough 92 = .ok (.iaload, 1) := by decide +kernel
theorem dX10_goesThrough_93 : decode cX10_goesThrough 93 = .ok (.iconst 1, 1) := by decide +kernel
theorem dX10_goesThrough_94 : decode cX10_goesThrough 94 = .ok (.iadd, 1) := by decide +kernel
theorem dX10_goesThrough_95 : decode cX10_goesThrough 95 = .ok (.iastore, 1) := by decide +kernel
theorem dX10_goesThrough_96 : decode cX10_goesThrough 96 = .ok (.iconst 1, 1) := by decide +kernel
theorem dX10_goesThrough_97 : decode cX10_goesThrough 97 = .ok (.ireturn, 1) := by decide +kernel
theorem dX10_goesThrough_104 : decode cX10_goesThrough 104 = .ok (.iconst 0, 1) := by decide +kernel
theorem dX10_goesThrough_105 : decode cX10_goesThrough 105 = .ok (.ireturn, 1) := by decide +kernel
theorem dX10_goesThrough_15 : decode cX10_goesThrough 15 = .ok (.iconst 1, 1) := by decide +kernel
theorem dX10_goesThrough_16 : decode cX10_goesThrough 16 = .ok (.ireturn, 1) := by decide +kernel
theorem zl_X9_161 : zm_L zk_E RX9 161 yX9_since (.code yX9_since cX9_since 4 (some .int)) 3 ∧ Cond.static yX9_since ∈ zk_E.2.2.1 := ⟨⟨zk_b12 162 (by decide +kernel) rfl, zk_b1 9 (by decide +kernel) rfl, zk_b12 160 (by decide +kernel) rfl, by decide +kernel, by decide +kernel, by decide +kernel⟩, zk_b12 161 (by decide +kernel) rfl⟩
theorem zl_X9_140 : zm_L zk_E RX9 140 yX9_ramp (.code yX9_ramp cX9_ramp 7 (some .int)) 3 ∧ Cond.static yX9_ramp ∈ zk_E.2.2.1 := ⟨⟨zk_b12 144 (by decide +kernel) rfl, zk_b1 9 (by decide +kernel) rfl, zk_b12 142 (by decide +kernel) rfl, by decide +kernel, by decide +kernel, by decide +kernel⟩, zk_b12 143 (by decide +kernel) rfl⟩
theorem zl_X9_144 : zm_L zk_E RX9 144 yX9_countUp (.code yX9_countUp cX9_countUp 3 (some .int)) 3 ∧ Cond.static yX9_countUp ∈ zk_E.2.2.1 := ⟨⟨zk_b12 147 (by decide +kernel) rfl, zk_b1 9 (by decide +kernel) rfl, zk_b12 145 (by decide +kernel) rfl, by decide +kernel, by decide +kernel, by decide +kernel⟩, zk_b12 146 (by decide +kernel) rfl⟩
theorem zl_X9_148 : zm_L zk_E RX9 148 yX9_latch (.code yX9_latch cX9_latch 3 (some .int)) 3 ∧ Cond.static yX9_latch ∈ zk_E.2.2.1 := ⟨⟨zk_b12 150 (by decide +kernel) rfl, zk_b1 9 (by decide +kernel) rfl, zk_b12 148 (by decide +kernel) rfl, by decide +kernel, by decide +kernel, by decide +kernel⟩, zk_b12 149 (by decide +kernel) rfl⟩
theorem zl_X9_151 : zm_L zk_E RX9 151 yX9_isInSpan (.code yX9_isInSpan cX9_isInSpan 3 (some .boolean)) 3 ∧ Cond.static yX9_isInSpan ∈ zk_E.2.2.1 := ⟨⟨zk_b12 153 (by decide +kernel) rfl, zk_b1 9 (by decide +kernel) rfl, zk_b12 151 (by decide +kernel) rfl, by decide +kernel, by decide +kernel, by decide +kernel⟩, zk_b12 152 (by decide +kernel) rfl⟩
theorem zl_X9_155 : zm_L zk_E RX9 155 yX9_pulse (.code yX9_pulse cX9_pulse 3 (some .int)) 3 ∧ Cond.static yX9_pulse ∈ zk_E.2.2.1 := ⟨⟨zk_b12 156 (by decide +kernel) rfl, zk_b1 9 (by decide +kernel) rfl, zk_b12 154 (by decide +kernel) rfl, by decide +kernel, by decide +kernel, by decide +kernel⟩, zk_b12 155 (by decide +kernel) rfl⟩
theorem zl_X9_158 : zm_L zk_E RX9 158 yX9_limit (.code yX9_limit cX9_limit 3 (some .int)) 3 ∧ Cond.static yX9_limit ∈ zk_E.2.2.1 := ⟨⟨zk_b12 159 (by decide +kernel) rfl, zk_b1 9 (by decide +kernel) rfl, zk_b12 157 (by decide +kernel) rfl, by decide +kernel, by decide +kernel, by decide +kernel⟩, zk_b12 158 (by decide +kernel) rfl⟩
theorem zl_X9_115 : zm_L zk_E RX9 115 yX9_lacksInput (.code yX9_lacksInput cX9_lacksInput 3 (some .boolean)) 1 ∧ Cond.instanceMethod yX9_lacksInput ∈ zk_E.2.2.1 ∧ Cond.selects yX9_lacksInput.cls yX9_lacksInput yX9_lacksInput ∈ zk_E.2.2.1 := ⟨⟨zk_b12 123 (by decide +kernel) rfl, zk_b1 9 (by decide +kernel) rfl, zk_b12 120 (by decide +kernel) rfl, by decide +kernel, by decide +kernel, by decide +kernel⟩, zk_b12 122 (by decide +kernel) rfl, zk_s9 (q := (yX9_lacksInput, 20)) 8 (by decide +kernel)⟩
theorem zl_X9_122 : zm_L zk_E RX9 122 yX9_inputOf (.code yX9_inputOf cX9_inputOf 4 (some .int)) 2 ∧ Cond.instanceMethod yX9_inputOf ∈ zk_E.2.2.1 ∧ Cond.selects yX9_inputOf.cls yX9_inputOf yX9_inputOf ∈ zk_E.2.2.1 := ⟨⟨zk_b12 131 (by decide +kernel) rfl, zk_b1 9 (by decide +kernel) rfl, zk_b12 128 (by decide +kernel) rfl, by decide +kernel, by decide +kernel, by decide +kernel⟩, zk_b12 130 (by decide +kernel) rfl, zk_s9 (q := (yX9_inputOf, 20)) 10 (by decide +kernel)⟩
theorem zl_X9_129 : zm_L zk_E RX9 129 yX9_reckonKept (.code yX9_reckonKept cX9_reckonKept 5 (some .int)) 4 ∧ Cond.instanceMethod yX9_reckonKept ∈ zk_E.2.2.1 ∧ Cond.selects yX9_reckonKept.cls yX9_reckonKept yX9_reckonKept ∈ zk_E.2.2.1 := ⟨⟨zk_b12 141 (by decide +kernel) rfl, zk_b1 9 (by decide +kernel) rfl, zk_b12 138 (by decide +kernel) rfl, by decide +kernel, by decide +kernel, by decide +kernel⟩, zk_b12 140 (by decide +kernel) rfl, zk_s9 (q := (yX9_reckonKept, 20)) 12 (by decide +kernel)⟩
theorem zl_X9_125 : zm_L zk_E RX9 125 yX9_reckonPlain (.code yX9_reckonPlain cX9_reckonPlain 5 (some .int)) 4 ∧ Cond.instanceMethod yX9_reckonPlain ∈ zk_E.2.2.1 ∧ Cond.selects yX9_reckonPlain.cls yX9_reckonPlain yX9_reckonPlain ∈ zk_E.2.2.1 := ⟨⟨zk_b12 135 (by decide +kernel) rfl, zk_b1 9 (by decide +kernel) rfl, zk_b12 132 (by decide +kernel) rfl, by decide +kernel, by decide +kernel, by decide +kernel⟩, zk_b12 134 (by decide +kernel) rfl, zk_s9 (q := (yX9_reckonPlain, 20)) 11 (by decide +kernel)⟩
theorem zl_X9_108 : zm_L zk_E RX9 108 yX9_reckon (.code yX9_reckon cX9_reckon 7 (some .int)) 2 ∧ Cond.instanceMethod yX9_reckon ∈ zk_E.2.2.1 ∧ Cond.selects yX9_reckon.cls yX9_reckon yX9_reckon ∈ zk_E.2.2.1 := ⟨⟨zk_b12 119 (by decide +kernel) rfl, zk_b1 9 (by decide +kernel) rfl, zk_b12 116 (by decide +kernel) rfl, by decide +kernel, by decide +kernel, by decide +kernel⟩, zk_b12 118 (by decide +kernel) rfl, zk_s9 (q := (yX9_reckon, 20)) 7 (by decide +kernel)⟩
theorem zl_X9_112 : zm_L zk_E RX9 112 yX9_countFailure (.code yX9_countFailure cX9_countFailure 2 none) 1 ∧ Cond.instanceMethod yX9_countFailure ∈ zk_E.2.2.1 ∧ Cond.selects yX9_countFailure.cls yX9_countFailure yX9_countFailure ∈ zk_E.2.2.1 := ⟨⟨zk_b12 166 (by decide +kernel) rfl, zk_b1 9 (by decide +kernel) rfl, zk_b12 163 (by decide +kernel) rfl, by decide +kernel, by decide +kernel, by decide +kernel⟩, zk_b12 165 (by decide +kernel) rfl, zk_s9 (q := (yX9_countFailure, 20)) 13 (by decide +kernel)⟩
theorem zl_X9_95 : zm_F zk_E RX9 95 9 18 := ⟨RX9, TX9, 20, rfl, zk_i9, by decide, zk_b2 219 (by decide +kernel) rfl⟩
theorem zl_X9_98 : zm_L zk_E RX9 98 yX9_reckonBlock (.code yX9_reckonBlock cX9_reckonBlock 4 none) 2 ∧ Cond.instanceMethod yX9_reckonBlock ∈ zk_E.2.2.1 ∧ Cond.selects yX9_reckonBlock.cls yX9_reckonBlock yX9_reckonBlock ∈ zk_E.2.2.1 := ⟨⟨zk_b12 115 (by decide +kernel) rfl, zk_b1 9 (by decide +kernel) rfl, zk_b12 112 (by decide +kernel) rfl, by decide +kernel, by decide +kernel, by decide +kernel⟩, zk_b12 114 (by decide +kernel) rfl, zk_s9 (q := (yX9_reckonBlock, 20)) 6 (by decide +kernel)⟩
theorem zl_X9_101 : zm_L zk_E RX9 101 yX9_takeDelayed (.code yX9_takeDelayed cX9_takeDelayed 3 none) 1 ∧ Cond.instanceMethod yX9_takeDelayed ∈ zk_E.2.2.1 ∧ Cond.selects yX9_takeDelayed.cls yX9_takeDelayed yX9_takeDelayed ∈ zk_E.2.2.1 := ⟨⟨zk_b12 170 (by decide +kernel) rfl, zk_b1 9 (by decide +kernel) rfl, zk_b12 167 (by decide +kernel) rfl, by decide +kernel, by decide +kernel, by decide +kernel⟩, zk_b12 169 (by decide +kernel) rfl, zk_s9 (q := (yX9_takeDelayed, 20)) 14 (by decide +kernel)⟩
theorem zt_9_18 : zm_T zk_E RX9 9 18 .boolean false := ⟨RX9, TX9, 20, tyX9, rfl, tyX9_ok, nmX9, rfl, rfl, rfl⟩
theorem zl_X10_3 : Cond.methodLink RX10 3 Lib.objectInit ∈ zk_E.2.2.1 ∧ Cond.instanceMethod Lib.objectInit ∈ zk_E.2.2.1 ∧ Cond.code Lib.objectInit ⟨#[0xb1]⟩ 1 none ∈ zk_E.2.2.1 := ⟨zk_b2 18 (by decide +kernel) rfl, zk_b1 43 (by decide +kernel) rfl, zk_b1 44 (by decide +kernel) rfl⟩
theorem zl_X10_11 : zm_F zk_E RX10 11 10 2 := ⟨RX10, TX10, 11, rfl, zk_i10, by decide, zk_b2 22 (by decide +kernel) rfl⟩
theorem zt_10_2 : zm_T zk_E RX10 10 2 (.array .boolean) true := ⟨RX10, TX10, 11, tyX10, rfl, tyX10_ok, nmX10, rfl, rfl, rfl⟩
theorem zl_X10_17 : zm_F zk_E RX10 17 10 3 := ⟨RX10, TX10, 11, rfl, zk_i10, by decide, zk_b2 23 (by decide +kernel) rfl⟩
theorem zt_10_3 : zm_T zk_E RX10 10 3 (.array .int) true := ⟨RX10, TX10, 11, tyX10, rfl, tyX10_ok, nmX10, rfl, rfl, rfl⟩
theorem zl_X10_21 : zm_F zk_E RX10 21 10 5 := ⟨RX10, TX10, 11, rfl, zk_i10, by decide, zk_b2 27 (by decide +kernel) rfl⟩
theorem zt_10_5 : zm_T zk_E RX10 10 5 (.array .int) true := ⟨RX10, TX10, 11, tyX10, rfl, tyX10_ok, nmX10, rfl, rfl, rfl⟩
theorem zl_X10_24 : zm_F zk_E RX10 24 10 6 := ⟨RX10, TX10, 11, rfl, zk_i10, by decide, zk_b2 28 (by decide +kernel) rfl⟩
theorem zt_10_6 : zm_T zk_E RX10 10 6 (.array .int) true := ⟨RX10, TX10, 11, tyX10, rfl, tyX10_ok, nmX10, rfl, rfl, rfl⟩
theorem zl_X10_27 : Cond.classLink RX10 27 "[[I" ∈ zk_E.2.2.1 := zk_b2 19 (by decide +kernel) rfl
theorem zt_10_8 : zm_T zk_E RX10 10 8 (.array (.array .int)) true := ⟨RX10, TX10, 11, tyX10, rfl, tyX10_ok, nmX10, rfl, rfl, rfl⟩
theorem zl_X10_32 : zm_F zk_E RX10 32 10 9 := ⟨RX10, TX10, 11, rfl, zk_i10, by decide, zk_b2 32 (by decide +kernel) rfl⟩
theorem zt_10_9 : zm_T zk_E RX10 10 9 (.array .int) true := ⟨RX10, TX10, 11, tyX10, rfl, tyX10_ok, nmX10, rfl, rfl, rfl⟩
theorem zl_X10_37 : zm_F zk_E RX10 37 10 10 := ⟨RX10, TX10, 11, rfl, zk_i10, by decide, zk_b2 33 (by decide +kernel) rfl⟩
theorem zt_10_10 : zm_T zk_E RX10 10 10 (.array (.array .int)) true := ⟨RX10, TX10, 11, tyX10, rfl, tyX10_ok, nmX10, rfl, rfl, rfl⟩
theorem zl_X10_40 : zm_F zk_E RX10 40 10 0 := ⟨RX10, TX10, 11, rfl, zk_i10, by decide, zk_b2 20 (by decide +kernel) rfl⟩
theorem zt_10_0 : zm_T zk_E RX10 10 0 (.object "TowerHouse$Plan") true := ⟨RX10, TX10, 11, tyX10, rfl, tyX10_ok, nmX10, rfl, rfl, rfl⟩
theorem zt_10_1 : zm_T zk_E RX10 10 1 (.object "TowerHouse$Finding") true := ⟨RX10, TX10, 11, tyX10, rfl, tyX10_ok, nmX10, rfl, rfl, rfl⟩
theorem zl_X10_55 : zm_FN zk_E RX10 55 2 6 := ⟨RX2, TX2, 19, "TowerHouse", rfl, zk_i2, by decide, zk_n1 94 (by decide +kernel) rfl⟩
theorem zl_X10_58 : zm_L zk_E RX10 58 yX2_wallBeside (.code yX2_wallBeside cX2_wallBeside 4 (some .int)) 2 ∧ Cond.instanceMethod yX2_wallBeside ∈ zk_E.2.2.1 ∧ Cond.selects yX2_wallBeside.cls yX2_wallBeside yX2_wallBeside ∈ zk_E.2.2.1 := ⟨⟨zk_b5 71 (by decide +kernel) rfl, zk_b1 3 (by decide +kernel) rfl, zk_b7 215 (by decide +kernel) rfl, by decide +kernel, by decide +kernel, by decide +kernel⟩, zk_b5 69 (by decide +kernel) rfl, zk_b5 70 (by decide +kernel) rfl⟩
theorem zl_X10_62 : zm_L zk_E RX10 62 yX2_distanceBeside (.code yX2_distanceBeside cX2_distanceBeside 5 (some .int)) 3 ∧ Cond.instanceMethod yX2_distanceBeside ∈ zk_E.2.2.1 ∧ Cond.selects yX2_distanceBeside.cls yX2_distanceBeside yX2_distanceBeside ∈ zk_E.2.2.1 := ⟨⟨zk_b7 219 (by decide +kernel) rfl, zk_b1 3 (by decide +kernel) rfl, zk_b7 216 (by decide +kernel) rfl, by decide +kernel, by decide +kernel, by decide +kernel⟩, zk_b7 217 (by decide +kernel) rfl, zk_b7 218 (by decide +kernel) rfl⟩
theorem zl_X10_66 : zm_L zk_E RX10 66 yX8_hasDoorAt (.code yX8_hasDoorAt cX8_hasDoorAt 4 (some .boolean)) 2 ∧ Cond.instanceMethod yX8_hasDoorAt ∈ zk_E.2.2.1 ∧ Cond.selects yX8_hasDoorAt.cls yX8_hasDoorAt yX8_hasDoorAt ∈ zk_E.2.2.1 := ⟨⟨zk_b7 227 (by decide +kernel) rfl, zk_b1 2 (by decide +kernel) rfl, zk_b7 224 (by decide +kernel) rfl, by decide +kernel, by decide +kernel, by decide +kernel⟩, zk_b7 225 (by decide +kernel) rfl, zk_b7 226 (by decide +kernel) rfl⟩
theorem zl_X10_77 : zm_L zk_E RX10 77 yX2_cellBeside (.code yX2_cellBeside cX2_cellBeside 5 (some .int)) 2 ∧ Cond.instanceMethod yX2_cellBeside ∈ zk_E.2.2.1 ∧ Cond.selects yX2_cellBeside.cls yX2_cellBeside yX2_cellBeside ∈ zk_E.2.2.1 := ⟨⟨zk_b5 83 (by decide +kernel) rfl, zk_b1 3 (by decide +kernel) rfl, zk_b7 210 (by decide +kernel) rfl, by decide +kernel, by decide +kernel, by decide +kernel⟩, zk_b5 81 (by decide +kernel) rfl, zk_b5 82 (by decide +kernel) rfl⟩
theorem zl_X10_70 : zm_L zk_E RX10 70 yX10_isInSpace (.code yX10_isInSpace cX10_isInSpace 2 (some .boolean)) 1 ∧ Cond.instanceMethod yX10_isInSpace ∈ zk_E.2.2.1 ∧ Cond.selects yX10_isInSpace.cls yX10_isInSpace yX10_isInSpace ∈ zk_E.2.2.1 := ⟨⟨zk_b7 205 (by decide +kernel) rfl, zk_b1 6 (by decide +kernel) rfl, zk_b7 202 (by decide +kernel) rfl, by decide +kernel, by decide +kernel, by decide +kernel⟩, zk_b7 204 (by decide +kernel) rfl, zk_s4 (q := (yX10_isInSpace, 11)) 4 (by decide +kernel)⟩
theorem zl_X10_80 : zm_L zk_E RX10 80 yX10_canGo (.code yX10_canGo cX10_canGo 4 (some .boolean)) 2 ∧ Cond.instanceMethod yX10_canGo ∈ zk_E.2.2.1 ∧ Cond.selects yX10_canGo.cls yX10_canGo yX10_canGo ∈ zk_E.2.2.1 := ⟨⟨zk_b7 214 (by decide +kernel) rfl, zk_b1 6 (by decide +kernel) rfl, zk_b7 211 (by decide +kernel) rfl, by decide +kernel, by decide +kernel, by decide +kernel⟩, zk_b7 213 (by decide +kernel) rfl, zk_s4 (q := (yX10_canGo, 11)) 6 (by decide +kernel)⟩
theorem zl_X10_74 : zm_L zk_E RX10 74 yX10_isBesideOutside (.code yX10_isBesideOutside cX10_isBesideOutside 3 (some .boolean)) 1 ∧ Cond.instanceMethod yX10_isBesideOutside ∈ zk_E.2.2.1 ∧ Cond.selects yX10_isBesideOutside.cls yX10_isBesideOutside yX10_isBesideOutside ∈ zk_E.2.2.1 := ⟨⟨zk_b7 209 (by decide +kernel) rfl, zk_b1 6 (by decide +kernel) rfl, zk_b7 206 (by decide +kernel) rfl, by decide +kernel, by decide +kernel, by decide +kernel⟩, zk_b7 208 (by decide +kernel) rfl, zk_s4 (q := (yX10_isBesideOutside, 11)) 5 (by decide +kernel)⟩
theorem zl_X10_83 : zm_F zk_E RX10 83 10 4 := ⟨RX10, TX10, 11, rfl, zk_i10, by decide, zk_b2 25 (by decide +kernel) rfl⟩
theorem zt_10_4 : zm_T zk_E RX10 10 4 .int false := ⟨RX10, TX10, 11, tyX10, rfl, tyX10_ok, nmX10, rfl, rfl, rfl⟩
theorem zl_X10_86 : zm_L zk_E RX10 86 yX10_addSmoke (.code yX10_addSmoke cX10_addSmoke 3 (some .boolean)) 1 ∧ Cond.instanceMethod yX10_addSmoke ∈ zk_E.2.2.1 ∧ Cond.selects yX10_addSmoke.cls yX10_addSmoke yX10_addSmoke ∈ zk_E.2.2.1 := ⟨⟨zk_b12 35 (by decide +kernel) rfl, zk_b1 6 (by decide +kernel) rfl, zk_b12 72 (by decide +kernel) rfl, by decide +kernel, by decide +kernel, by decide +kernel⟩, zk_b12 33 (by decide +kernel) rfl, zk_b12 34 (by decide +kernel) rfl⟩
theorem zl_X10_106 : zm_L zk_E RX10 106 yX2_cellNumber (.code yX2_cellNumber cX2_cellNumber 2 (some .int)) 2 ∧ Cond.static yX2_cellNumber ∈ zk_E.2.2.1 := ⟨⟨zk_b5 63 (by decide +kernel) rfl, zk_b1 3 (by decide +kernel) rfl, zk_b12 55 (by decide +kernel) rfl, by decide +kernel, by decide +kernel, by decide +kernel⟩, zk_b5 62 (by decide +kernel) rfl⟩
theorem zl_X10_93 : zm_F zk_E RX10 93 10 7 := ⟨RX10, TX10, 11, rfl, zk_i10, by decide, zk_b2 29 (by decide +kernel) rfl⟩
theorem zl_X10_96 : zm_L zk_E RX10 96 yX10_cellOf (.code yX10_cellOf cX10_cellOf 3 (some .int)) 1 ∧ Cond.instanceMethod yX10_cellOf ∈ zk_E.2.2.1 ∧ Cond.selects yX10_cellOf.cls yX10_cellOf yX10_cellOf ∈ zk_E.2.2.1 := ⟨⟨zk_b12 54 (by decide +kernel) rfl, zk_b1 6 (by decide +kernel) rfl, zk_b12 51 (by decide +kernel) rfl, by decide +kernel, by decide +kernel, by decide +kernel⟩, zk_b12 53 (by decide +kernel) rfl, zk_s9 (q := (yX10_cellOf, 11)) 0 (by decide +kernel)⟩
theorem zl_X10_99 : zm_L zk_E RX10 99 yX10_isCaught (.code yX10_isCaught cX10_isCaught 2 (some .boolean)) 1 ∧ Cond.instanceMethod yX10_isCaught ∈ zk_E.2.2.1 ∧ Cond.selects yX10_isCaught.cls yX10_isCaught yX10_isCaught ∈ zk_E.2.2.1 := ⟨⟨zk_b8 189 (by decide +kernel) rfl, zk_b1 6 (by decide +kernel) rfl, zk_b12 56 (by decide +kernel) rfl, by decide +kernel, by decide +kernel, by decide +kernel⟩, zk_b8 187 (by decide +kernel) rfl, zk_b8 188 (by decide +kernel) rfl⟩
theorem zl_X10_89 : zm_L zk_E RX10 89 yX10_countInCell (.code yX10_countInCell cX10_countInCell 4 (some .int)) 1 ∧ Cond.instanceMethod yX10_countInCell ∈ zk_E.2.2.1 ∧ Cond.selects yX10_countInCell.cls yX10_countInCell yX10_countInCell ∈ zk_E.2.2.1 := ⟨⟨zk_b12 50 (by decide +kernel) rfl, zk_b1 6 (by decide +kernel) rfl, zk_b12 47 (by decide +kernel) rfl, by decide +kernel, by decide +kernel, by decide +kernel⟩, zk_b12 49 (by decide +kernel) rfl, zk_s8 (q := (yX10_countInCell, 11)) 15 (by decide +kernel)⟩
theorem zt_10_7 : zm_T zk_E RX10 10 7 .int false := ⟨RX10, TX10, 11, tyX10, rfl, tyX10_ok, nmX10, rfl, rfl, rfl⟩
theorem zl_X10_109 : zm_L zk_E RX10 109 yX10_roomOf (.code yX10_roomOf cX10_roomOf 2 (some .int)) 1 ∧ Cond.instanceMethod yX10_roomOf ∈ zk_E.2.2.1 ∧ Cond.selects yX10_roomOf.cls yX10_roomOf yX10_roomOf ∈ zk_E.2.2.1 := ⟨⟨zk_b9 31 (by decide +kernel) rfl, zk_b1 6 (by decide +kernel) rfl, zk_b9 73 (by decide +kernel) rfl, by decide +kernel, by decide +kernel, by decide +kernel⟩, zk_b9 29 (by decide +kernel) rfl, zk_b9 30 (by decide +kernel) rfl⟩
theorem zl_X10_112 : zm_L zk_E RX10 112 yX10_zoneOf (.code yX10_zoneOf cX10_zoneOf 2 (some .int)) 1 ∧ Cond.instanceMethod yX10_zoneOf ∈ zk_E.2.2.1 ∧ Cond.selects yX10_zoneOf.cls yX10_zoneOf yX10_zoneOf ∈ zk_E.2.2.1 := ⟨⟨zk_b8 221 (by decide +kernel) rfl, zk_b1 6 (by decide +kernel) rfl, zk_b9 74 (by decide +kernel) rfl, by decide +kernel, by decide +kernel, by decide +kernel⟩, zk_b8 219 (by decide +kernel) rfl, zk_b8 220 (by decide +kernel) rfl⟩
theorem zl_X10_115 : zm_L zk_E RX10 115 yX10_isFreeInside (.code yX10_isFreeInside cX10_isFreeInside 2 (some .boolean)) 1 ∧ Cond.instanceMethod yX10_isFreeInside ∈ zk_E.2.2.1 ∧ Cond.selects yX10_isFreeInside.cls yX10_isFreeInside yX10_isFreeInside ∈ zk_E.2.2.1 := ⟨⟨zk_b12 103 (by decide +kernel) rfl, zk_b1 6 (by decide +kernel) rfl, zk_b12 100 (by decide +kernel) rfl, by decide +kernel, by decide +kernel, by decide +kernel⟩, zk_b12 102 (by decide +kernel) rfl, zk_s9 (q := (yX10_isFreeInside, 11)) 5 (by decide +kernel)⟩
theorem zl_X10_139 : Cond.constant RX10 139 (2147483647 : Int32) ∈ zk_E.2.2.1 := zk_b13 32 (by decide +kernel) rfl
theorem zl_X10_134 : zm_L zk_E RX10 134 yX10_urgencyOf (.code yX10_urgencyOf cX10_urgencyOf 3 (some .int)) 1 ∧ Cond.instanceMethod yX10_urgencyOf ∈ zk_E.2.2.1 ∧ Cond.selects yX10_urgencyOf.cls yX10_urgencyOf yX10_urgencyOf ∈ zk_E.2.2.1 := ⟨⟨zk_b13 31 (by decide +kernel) rfl, zk_b1 6 (by decide +kernel) rfl, zk_b13 28 (by decide +kernel) rfl, by decide +kernel, by decide +kernel, by decide +kernel⟩, zk_b13 30 (by decide +kernel) rfl, zk_s11 (q := (yX10_urgencyOf, 11)) 2 (by decide +kernel)⟩
theorem zl_X10_150 : zm_FN zk_E RX10 150 8 2 := ⟨RX8, TX8, 4, "TowerHouse", rfl, zk_i8, by decide, zk_n1 63 (by decide +kernel) rfl⟩
theorem zl_X10_153 : zm_L zk_E RX10 153 yX8_isDoorAt (.code yX8_isDoorAt cX8_isDoorAt 4 (some .boolean)) 3 ∧ Cond.instanceMethod yX8_isDoorAt ∈ zk_E.2.2.1 ∧ Cond.selects yX8_isDoorAt.cls yX8_isDoorAt yX8_isDoorAt ∈ zk_E.2.2.1 := ⟨⟨zk_b7 231 (by decide +kernel) rfl, zk_b1 2 (by decide +kernel) rfl, zk_b13 45 (by decide +kernel) rfl, by decide +kernel, by decide +kernel, by decide +kernel⟩, zk_b7 229 (by decide +kernel) rfl, zk_b7 230 (by decide +kernel) rfl⟩
theorem zl_X10_157 : zm_L zk_E RX10 157 yX8_rateOf (.code yX8_rateOf cX8_rateOf 3 (some .int)) 2 ∧ Cond.instanceMethod yX8_rateOf ∈ zk_E.2.2.1 ∧ Cond.selects yX8_rateOf.cls yX8_rateOf yX8_rateOf ∈ zk_E.2.2.1 := ⟨⟨zk_b13 49 (by decide +kernel) rfl, zk_b1 2 (by decide +kernel) rfl, zk_b13 46 (by decide +kernel) rfl, by decide +kernel, by decide +kernel, by decide +kernel⟩, zk_b13 47 (by decide +kernel) rfl, zk_b13 48 (by decide +kernel) rfl⟩
set_option maxHeartbeats 4000000 in
set_option maxRecDepth 100000 in
theorem zt_X9_ramp_J31 {p : Program} {l : Launch} {e : Env} {R : Room} {s : State} {m : MethodId} {args : Array Value} {below : List Frame} {meth : Method} {c : Code} {V : zm_V} {mc ms d rc rs : Nat} (hX : zm_X p R s m args meth c RX9 "ramp" cX9_ramp 7 zk_E V mc ms) (hr : meth.sig.returnType = (some .int)) (hR : R.frames = d ∧ R.locals = 64 * d) (hd : 2 ≤ d) {N : Nat} {i0 : Int32} {j3 : Int64} {j5 : Int64} {out : (Int32 × zm_S)} {S : zm_S} (h : zf_X9_ramp_J31 N i0 j3 j5 S = some out) : zw p l e R s m args below meth c (vx_MQ below (zm_Qc zk_E V (zo_i out)) (zm_XC zk_E V zo_x) args s mc ms (fun q => V.2.2.2.1 ≤ q)) 7 zk_E V mc ms 31 [(0, .int i0), (3, .long j3), (5, .long j5)] [] S rc rs := by
  unfold zf_X9_ramp_J31 at h
  refine zw_lload hX dX9_ramp_31 rfl ?_
  refine zw_lconst (v := (0 : Int64)) hX dX9_ramp_33 (by decide) ?_
  refine zw_lcmp hX dX9_ramp_34 ?_
  refine zw_if_le (tgt := 45) hX dX9_ramp_35 (by decide) (fun c35 => ?_) (fun c35 => ?_)
  · rw [if_pos c35] at h
    refine zw_iload_n hX dX9_ramp_45 rfl ?_
    refine zw_i2l hX dX9_ramp_46 ?_
    refine zw_lload_n hX dX9_ramp_47 rfl ?_
    refine zw_lsub hX dX9_ramp_48 ?_
    refine zw_l2i hX dX9_ramp_49 ?_
    obtain rfl := Option.some.inj h
    exact zw_iret hX hr dX9_ramp_50 rfl ⟨rfl, rfl⟩
  · rw [if_neg c35] at h
    refine zw_iload_n hX dX9_ramp_38 rfl ?_
    refine zw_i2l hX dX9_ramp_39 ?_
    refine zw_lload_n hX dX9_ramp_40 rfl ?_
    refine zw_ladd hX dX9_ramp_41 ?_
    refine zw_goto (tgt := 49) hX dX9_ramp_42 (by decide) ?_
    refine zw_l2i hX dX9_ramp_49 ?_
    obtain rfl := Option.some.inj h
    exact zw_iret hX hr dX9_ramp_50 rfl ⟨rfl, rfl⟩
set_option maxHeartbeats 4000000 in
set_option maxRecDepth 100000 in
theorem zt_X9_ramp {l : Launch} {V : zm_V} {N : Nat} {S : zm_S} {out : (Int32 × zm_S)} {d : Nat} {i0 : Int32} {i1 : Int32} {i2 : Int32} (hd : 2 ≤ d) (h : zf_X9_ramp N i0 i1 i2 S = some out) : zm_Met l zk_E V yX9_ramp (.code yX9_ramp cX9_ramp 7 (some .int)) d [.int i0, .int i1, .int i2] S 0 0 (zo_i out) zo_x := by
  refine zm_of (by decide +kernel) (Nat.le_of_ble_eq_true rfl) ?_
  intro p e R s m args below meth c hRR hX hr hxt
  have hR : R.frames = d ∧ R.locals = 64 * d := by rw [hRR]; exact ⟨rfl, rfl⟩
  have hX : zm_X p R s m args meth c RX9 "ramp" cX9_ramp 7 zk_E V 0 0 := hX
  unfold zf_X9_ramp at h
  refine zw_sub (lv' := [(0, .int i0), (1, .int i1), (2, .int i2)]) (List.forall_mem_cons.mpr ⟨rfl, (List.forall_mem_cons.mpr ⟨rfl, (List.forall_mem_cons.mpr ⟨rfl, zs_nil⟩)⟩)⟩) ?_
  refine zw_iload_n hX dX9_ramp_0 rfl ?_
  refine zw_iconst (v := (0 : Int32)) hX dX9_ramp_1 (by decide) ?_
  refine zw_mmax hX zl_X9_137 dX9_ramp_2 (Nat.le_of_ble_eq_true rfl) ⟨by omega, by omega⟩ ?_
  refine zw_i2l hX dX9_ramp_5 ?_
  refine zw_lstore_n hX dX9_ramp_6 (by decide) ?_
  refine zw_iload_n hX dX9_ramp_7 rfl ?_
  refine zw_i2l hX dX9_ramp_8 ?_
  refine zw_iload_n hX dX9_ramp_9 rfl ?_
  refine zw_i2l hX dX9_ramp_10 ?_
  refine zw_lsub hX dX9_ramp_11 ?_
  refine zw_lstore hX dX9_ramp_12 (by decide) ?_
  refine zw_lload hX dX9_ramp_14 rfl ?_
  refine zw_lload_n hX dX9_ramp_16 rfl ?_
  refine zw_lcmp hX dX9_ramp_17 ?_
  refine zw_if_gt (tgt := 31) hX dX9_ramp_18 (by decide) (fun c18 => ?_) (fun c18 => ?_)
  · rw [if_pos c18] at h
    refine zw_sub (lv' := [(0, .int i0), (3, .long ((zj_max i2 (0 : Int32))).toInt64), (5, .long ((i1).toInt64 - (i0).toInt64))]) (List.forall_mem_cons.mpr ⟨rfl, (List.forall_mem_cons.mpr ⟨rfl, (List.forall_mem_cons.mpr ⟨rfl, zs_nil⟩)⟩)⟩) ?_
    exact zt_X9_ramp_J31 hX hr hR hd h
  · rw [if_neg c18] at h
    refine zw_lload hX dX9_ramp_21 rfl ?_
    refine zw_lload_n hX dX9_ramp_23 rfl ?_
    refine zw_lneg hX dX9_ramp_24 ?_
    refine zw_lcmp hX dX9_ramp_25 ?_
    refine zw_if_lt (tgt := 31) hX dX9_ramp_26 (by decide) (fun c26 => ?_) (fun c26 => ?_)
    · rw [if_pos c26] at h
      refine zw_sub (lv' := [(0, .int i0), (3, .long ((zj_max i2 (0 : Int32))).toInt64), (5, .long ((i1).toInt64 - (i0).toInt64))]) (List.forall_mem_cons.mpr ⟨rfl, (List.forall_mem_cons.mpr ⟨rfl, (List.forall_mem_cons.mpr ⟨rfl, zs_nil⟩)⟩)⟩) ?_
      exact zt_X9_ramp_J31 hX hr hR hd h
    · rw [if_neg c26] at h
      refine zw_iload_n hX dX9_ramp_29 rfl ?_
      obtain rfl := Option.some.inj h
      exact zw_iret hX hr dX9_ramp_30 rfl ⟨rfl, rfl⟩
set_option maxHeartbeats 4000000 in
set_option maxRecDepth 100000 in
theorem zt_X9_countUp_J28 {p : Program} {l : Launch} {e : Env} {R : Room} {s : State} {m : MethodId} {args : Array Value} {below : List Frame} {meth : Method} {c : Code} {V : zm_V} {mc ms d rc rs : Nat} (hX : zm_X p R s m args meth c RX9 "countUp" cX9_countUp 3 zk_E V mc ms) (hr : meth.sig.returnType = (some .int)) (hR : R.frames = d ∧ R.locals = 64 * d) (hd : 1 ≤ d) {N : Nat} {a0 : Nat} {i1 : Int32} {out : (Int32 × zm_S)} {S : zm_S} (h : zf_X9_countUp_J28 N a0 i1 S = some out) : zw p l e R s m args below meth c (vx_MQ below (zm_Qc zk_E V (zo_i out)) (zm_XC zk_E V zo_x) args s mc ms (fun q => V.2.2.2.1 ≤ q)) 3 zk_E V mc ms 28 [(0, .ref a0), (1, .int i1)] [] S rc rs := by
  unfold zf_X9_countUp_J28 at h
  refine zw_aload_n hX dX9_countUp_28 rfl ?_
  refine zw_iconst (v := (1 : Int32)) hX dX9_countUp_29 (by decide) ?_
  refine zw_iload_n hX dX9_countUp_30 rfl ?_
  obtain ⟨S1, g, h⟩ := zb_some h
  refine zw_si hX dX9_countUp_31 g ?_
  refine zw_aload_n hX dX9_countUp_32 rfl ?_
  refine zw_iconst (v := (0 : Int32)) hX dX9_countUp_33 (by decide) ?_
  obtain ⟨v2, g, h⟩ := zb_some h
  refine zw_xi hX dX9_countUp_34 g ?_
  obtain rfl := Option.some.inj h
  exact zw_iret hX hr dX9_countUp_35 rfl ⟨rfl, rfl⟩
set_option maxHeartbeats 4000000 in
set_option maxRecDepth 100000 in
theorem zt_X9_countUp {l : Launch} {V : zm_V} {N : Nat} {S : zm_S} {out : (Int32 × zm_S)} {d : Nat} {a0 : Nat} {i1 : Int32} {i2 : Int32} (hd : 1 ≤ d) (h : zf_X9_countUp N a0 i1 i2 S = some out) : zm_Met l zk_E V yX9_countUp (.code yX9_countUp cX9_countUp 3 (some .int)) d [.ref a0, .int i1, .int i2] S 0 0 (zo_i out) zo_x := by
  refine zm_of (by decide +kernel) (Nat.le_of_ble_eq_true rfl) ?_
  intro p e R s m args below meth c hRR hX hr hxt
  have hR : R.frames = d ∧ R.locals = 64 * d := by rw [hRR]; exact ⟨rfl, rfl⟩
  have hX : zm_X p R s m args meth c RX9 "countUp" cX9_countUp 3 zk_E V 0 0 := hX
  unfold zf_X9_countUp at h
  refine zw_sub (lv' := [(0, .ref a0), (1, .int i1), (2, .int i2)]) (List.forall_mem_cons.mpr ⟨rfl, (List.forall_mem_cons.mpr ⟨rfl, (List.forall_mem_cons.mpr ⟨rfl, zs_nil⟩)⟩)⟩) ?_
  refine zw_iload_n hX dX9_countUp_0 rfl ?_
  refine zw_if_eq (tgt := 11) hX dX9_countUp_1 (by decide) (fun c1 => ?_) (fun c1 => ?_)
  · rw [if_pos c1] at h
    refine zw_iload_n hX dX9_countUp_11 rfl ?_
    refine zw_if_eq (tgt := 28) hX dX9_countUp_12 (by decide) (fun c12 => ?_) (fun c12 => ?_)
    · rw [if_pos c12] at h
      refine zw_sub (lv' := [(0, .ref a0), (1, .int i1)]) (List.forall_mem_cons.mpr ⟨rfl, (List.forall_mem_cons.mpr ⟨rfl, zs_nil⟩)⟩) ?_
      exact zt_X9_countUp_J28 hX hr hR hd h
    · rw [if_neg c12] at h
      refine zw_aload_n hX dX9_countUp_15 rfl ?_
      refine zw_iconst (v := (1 : Int32)) hX dX9_countUp_16 (by decide) ?_
      obtain ⟨v3, g, h⟩ := zb_some h
      refine zw_xi hX dX9_countUp_17 g ?_
      refine zw_if_ne (tgt := 28) hX dX9_countUp_18 (by decide) (fun c18 => ?_) (fun c18 => ?_)
      · rw [if_neg c18] at h
        refine zw_sub (lv' := [(0, .ref a0), (1, .int i1)]) (List.forall_mem_cons.mpr ⟨rfl, (List.forall_mem_cons.mpr ⟨rfl, zs_nil⟩)⟩) ?_
        exact zt_X9_countUp_J28 hX hr hR hd h
      · rw [if_pos c18] at h
        refine zw_aload_n hX dX9_countUp_21 rfl ?_
        refine zw_iconst (v := (0 : Int32)) hX dX9_countUp_22 (by decide) ?_
        refine zw_dup2 hX dX9_countUp_23 rfl rfl ?_
        obtain ⟨v4, g, h⟩ := zb_some h
        refine zw_xi hX dX9_countUp_24 g ?_
        refine zw_iconst (v := (1 : Int32)) hX dX9_countUp_25 (by decide) ?_
        refine zw_iadd hX dX9_countUp_26 ?_
        obtain ⟨S5, g, h⟩ := zb_some h
        refine zw_si hX dX9_countUp_27 g ?_
        refine zw_sub (lv' := [(0, .ref a0), (1, .int i1)]) (List.forall_mem_cons.mpr ⟨rfl, (List.forall_mem_cons.mpr ⟨rfl, zs_nil⟩)⟩) ?_
        exact zt_X9_countUp_J28 hX hr hR hd h
  · rw [if_neg c1] at h
    refine zw_aload_n hX dX9_countUp_4 rfl ?_
    refine zw_iconst (v := (0 : Int32)) hX dX9_countUp_5 (by decide) ?_
    refine zw_iconst (v := (0 : Int32)) hX dX9_countUp_6 (by decide) ?_
    obtain ⟨S6, g, h⟩ := zb_some h
    refine zw_si hX dX9_countUp_7 g ?_
    refine zw_goto (tgt := 28) hX dX9_countUp_8 (by decide) ?_
    refine zw_sub (lv' := [(0, .ref a0), (1, .int i1)]) (List.forall_mem_cons.mpr ⟨rfl, (List.forall_mem_cons.mpr ⟨rfl, zs_nil⟩)⟩) ?_
    exact zt_X9_countUp_J28 hX hr hR hd h
set_option maxHeartbeats 4000000 in
set_option maxRecDepth 100000 in
theorem zt_X9_latch_J19 {p : Program} {l : Launch} {e : Env} {R : Room} {s : State} {m : MethodId} {args : Array Value} {below : List Frame} {meth : Method} {c : Code} {V : zm_V} {mc ms d rc rs : Nat} (hX : zm_X p R s m args meth c RX9 "latch" cX9_latch 3 zk_E V mc ms) (hr : meth.sig.returnType = (some .int)) (hR : R.frames = d ∧ R.locals = 64 * d) (hd : 1 ≤ d) {N : Nat} {a0 : Nat} {out : (Int32 × zm_S)} {S : zm_S} (h : zf_X9_latch_J19 N a0 S = some out) : zw p l e R s m args below meth c (vx_MQ below (zm_Qc zk_E V (zo_i out)) (zm_XC zk_E V zo_x) args s mc ms (fun q => V.2.2.2.1 ≤ q)) 3 zk_E V mc ms 19 [(0, .ref a0)] [] S rc rs := by
  unfold zf_X9_latch_J19 at h
  refine zw_aload_n hX dX9_latch_19 rfl ?_
  refine zw_iconst (v := (0 : Int32)) hX dX9_latch_20 (by decide) ?_
  obtain ⟨v1, g, h⟩ := zb_some h
  refine zw_xi hX dX9_latch_21 g ?_
  obtain rfl := Option.some.inj h
  exact zw_iret hX hr dX9_latch_22 rfl ⟨rfl, rfl⟩
set_option maxHeartbeats 4000000 in
set_option maxRecDepth 100000 in
theorem zt_X9_latch {l : Launch} {V : zm_V} {N : Nat} {S : zm_S} {out : (Int32 × zm_S)} {d : Nat} {a0 : Nat} {i1 : Int32} {i2 : Int32} (hd : 1 ≤ d) (h : zf_X9_latch N a0 i1 i2 S = some out) : zm_Met l zk_E V yX9_latch (.code yX9_latch cX9_latch 3 (some .int)) d [.ref a0, .int i1, .int i2] S 0 0 (zo_i out) zo_x := by
  refine zm_of (by decide +kernel) (Nat.le_of_ble_eq_true rfl) ?_
  intro p e R s m args below meth c hRR hX hr hxt
  have hR : R.frames = d ∧ R.locals = 64 * d := by rw [hRR]; exact ⟨rfl, rfl⟩
  have hX : zm_X p R s m args meth c RX9 "latch" cX9_latch 3 zk_E V 0 0 := hX
  unfold zf_X9_latch at h
  refine zw_sub (lv' := [(0, .ref a0), (1, .int i1), (2, .int i2)]) (List.forall_mem_cons.mpr ⟨rfl, (List.forall_mem_cons.mpr ⟨rfl, (List.forall_mem_cons.mpr ⟨rfl, zs_nil⟩)⟩)⟩) ?_
  refine zw_iload_n hX dX9_latch_0 rfl ?_
  refine zw_if_eq (tgt := 11) hX dX9_latch_1 (by decide) (fun c1 => ?_) (fun c1 => ?_)
  · rw [if_pos c1] at h
    refine zw_iload_n hX dX9_latch_11 rfl ?_
    refine zw_if_eq (tgt := 19) hX dX9_latch_12 (by decide) (fun c12 => ?_) (fun c12 => ?_)
    · rw [if_pos c12] at h
      refine zw_sub (lv' := [(0, .ref a0)]) (List.forall_mem_cons.mpr ⟨rfl, zs_nil⟩) ?_
      exact zt_X9_latch_J19 hX hr hR hd h
    · rw [if_neg c12] at h
      refine zw_aload_n hX dX9_latch_15 rfl ?_
      refine zw_iconst (v := (0 : Int32)) hX dX9_latch_16 (by decide) ?_
      refine zw_iconst (v := (0 : Int32)) hX dX9_latch_17 (by decide) ?_
      obtain ⟨S2, g, h⟩ := zb_some h
      refine zw_si hX dX9_latch_18 g ?_
      refine zw_sub (lv' := [(0, .ref a0)]) (List.forall_mem_cons.mpr ⟨rfl, zs_nil⟩) ?_
      exact zt_X9_latch_J19 hX hr hR hd h
  · rw [if_neg c1] at h
    refine zw_aload_n hX dX9_latch_4 rfl ?_
    refine zw_iconst (v := (0 : Int32)) hX dX9_latch_5 (by decide) ?_
    refine zw_iconst (v := (1 : Int32)) hX dX9_latch_6 (by decide) ?_
    obtain ⟨S3, g, h⟩ := zb_some h
    refine zw_si hX dX9_latch_7 g ?_
    refine zw_goto (tgt := 19) hX dX9_latch_8 (by decide) ?_
    refine zw_sub (lv' := [(0, .ref a0)]) (List.forall_mem_cons.mpr ⟨rfl, zs_nil⟩) ?_
    exact zt_X9_latch_J19 hX hr hR hd h
set_option maxHeartbeats 4000000 in
set_option maxRecDepth 100000 in
theorem zt_X9_isInSpan {l : Launch} {V : zm_V} {N : Nat} {S : zm_S} {out : (Int32 × zm_S)} {d : Nat} {i0 : Int32} {i1 : Int32} {i2 : Int32} (hd : 1 ≤ d) (h : zf_X9_isInSpan N i0 i1 i2 S = some out) : zm_Met l zk_E V yX9_isInSpan (.code yX9_isInSpan cX9_isInSpan 3 (some .boolean)) d [.int i0, .int i1, .int i2] S 0 0 (zo_i out) zo_x := by
  refine zm_of (by decide +kernel) (Nat.le_of_ble_eq_true rfl) ?_
  intro p e R s m args below meth c hRR hX hr hxt
  have hR : R.frames = d ∧ R.locals = 64 * d := by rw [hRR]; exact ⟨rfl, rfl⟩
  have hX : zm_X p R s m args meth c RX9 "isInSpan" cX9_isInSpan 3 zk_E V 0 0 := hX
  unfold zf_X9_isInSpan at h
  refine zw_sub (lv' := [(0, .int i0), (1, .int i1), (2, .int i2)]) (List.forall_mem_cons.mpr ⟨rfl, (List.forall_mem_cons.mpr ⟨rfl, (List.forall_mem_cons.mpr ⟨rfl, zs_nil⟩)⟩)⟩) ?_
  refine zw_iload_n hX dX9_isInSpan_0 rfl ?_
  refine zw_iload_n hX dX9_isInSpan_1 rfl ?_
  refine zw_icmp_gt (tgt := 23) hX dX9_isInSpan_2 (by decide) (fun c2 => ?_) (fun c2 => ?_)
  · rw [if_pos c2] at h
    refine zw_iload_n hX dX9_isInSpan_23 rfl ?_
    refine zw_iload_n hX dX9_isInSpan_24 rfl ?_
    refine zw_icmp_ge (tgt := 33) hX dX9_isInSpan_25 (by decide) (fun c25 => ?_) (fun c25 => ?_)
    · rw [if_pos c25] at h
      refine zw_iconst (v := (1 : Int32)) hX dX9_isInSpan_33 (by decide) ?_
      refine zw_goto (tgt := 38) hX dX9_isInSpan_34 (by decide) ?_
      obtain rfl := Option.some.inj h
      exact zw_iret hX hr dX9_isInSpan_38 rfl ⟨rfl, rfl⟩
    · rw [if_neg c25] at h
      refine zw_iload_n hX dX9_isInSpan_28 rfl ?_
      refine zw_iload_n hX dX9_isInSpan_29 rfl ?_
      refine zw_icmp_ge (tgt := 37) hX dX9_isInSpan_30 (by decide) (fun c30 => ?_) (fun c30 => ?_)
      · rw [if_pos c30] at h
        refine zw_iconst (v := (0 : Int32)) hX dX9_isInSpan_37 (by decide) ?_
        obtain rfl := Option.some.inj h
        exact zw_iret hX hr dX9_isInSpan_38 rfl ⟨rfl, rfl⟩
      · rw [if_neg c30] at h
        refine zw_iconst (v := (1 : Int32)) hX dX9_isInSpan_33 (by decide) ?_
        refine zw_goto (tgt := 38) hX dX9_isInSpan_34 (by decide) ?_
        obtain rfl := Option.some.inj h
        exact zw_iret hX hr dX9_isInSpan_38 rfl ⟨rfl, rfl⟩
  · rw [if_neg c2] at h
    refine zw_iload_n hX dX9_isInSpan_5 rfl ?_
    refine zw_iload_n hX dX9_isInSpan_6 rfl ?_
    refine zw_icmp_gt (tgt := 19) hX dX9_isInSpan_7 (by decide) (fun c7 => ?_) (fun c7 => ?_)
    · rw [if_pos c7] at h
      refine zw_iconst (v := (0 : Int32)) hX dX9_isInSpan_19 (by decide) ?_
      refine zw_goto (tgt := 38) hX dX9_isInSpan_20 (by decide) ?_
      obtain rfl := Option.some.inj h
      exact zw_iret hX hr dX9_isInSpan_38 rfl ⟨rfl, rfl⟩
    · rw [if_neg c7] at h
      refine zw_iload_n hX dX9_isInSpan_10 rfl ?_
      refine zw_iload_n hX dX9_isInSpan_11 rfl ?_
      refine zw_icmp_ge (tgt := 19) hX dX9_isInSpan_12 (by decide) (fun c12 => ?_) (fun c12 => ?_)
      · rw [if_pos c12] at h
        refine zw_iconst (v := (0 : Int32)) hX dX9_isInSpan_19 (by decide) ?_
        refine zw_goto (tgt := 38) hX dX9_isInSpan_20 (by decide) ?_
        obtain rfl := Option.some.inj h
        exact zw_iret hX hr dX9_isInSpan_38 rfl ⟨rfl, rfl⟩
      · rw [if_neg c12] at h
        refine zw_iconst (v := (1 : Int32)) hX dX9_isInSpan_15 (by decide) ?_
        refine zw_goto (tgt := 38) hX dX9_isInSpan_16 (by decide) ?_
        obtain rfl := Option.some.inj h
        exact zw_iret hX hr dX9_isInSpan_38 rfl ⟨rfl, rfl⟩
set_option maxHeartbeats 4000000 in
set_option maxRecDepth 100000 in
theorem zt_X9_pulse_J14 {p : Program} {l : Launch} {e : Env} {R : Room} {s : State} {m : MethodId} {args : Array Value} {below : List Frame} {meth : Method} {c : Code} {V : zm_V} {mc ms d rc rs : Nat} (hX : zm_X p R s m args meth c RX9 "pulse" cX9_pulse 3 zk_E V mc ms) (hr : meth.sig.returnType = (some .int)) (hR : R.frames = d ∧ R.locals = 64 * d) (hd : 1 ≤ d) {N : Nat} {a0 : Nat} {i1 : Int32} {out : (Int32 × zm_S)} {S : zm_S} (h : zf_X9_pulse_J14 N a0 i1 S = some out) : zw p l e R s m args below meth c (vx_MQ below (zm_Qc zk_E V (zo_i out)) (zm_XC zk_E V zo_x) args s mc ms (fun q => V.2.2.2.1 ≤ q)) 3 zk_E V mc ms 14 [(0, .ref a0), (1, .int i1)] [] S rc rs := by
  unfold zf_X9_pulse_J14 at h
  refine zw_aload_n hX dX9_pulse_14 rfl ?_
  refine zw_iconst (v := (1 : Int32)) hX dX9_pulse_15 (by decide) ?_
  refine zw_iload_n hX dX9_pulse_16 rfl ?_
  obtain ⟨S1, g, h⟩ := zb_some h
  refine zw_si hX dX9_pulse_17 g ?_
  refine zw_aload_n hX dX9_pulse_18 rfl ?_
  refine zw_iconst (v := (0 : Int32)) hX dX9_pulse_19 (by decide) ?_
  obtain ⟨v2, g, h⟩ := zb_some h
  refine zw_xi hX dX9_pulse_20 g ?_
  refine zw_if_le (tgt := 33) hX dX9_pulse_21 (by decide) (fun c21 => ?_) (fun c21 => ?_)
  · rw [if_pos c21] at h
    refine zw_iconst (v := (0 : Int32)) hX dX9_pulse_33 (by decide) ?_
    obtain rfl := Option.some.inj h
    exact zw_iret hX hr dX9_pulse_34 rfl ⟨rfl, rfl⟩
  · rw [if_neg c21] at h
    refine zw_aload_n hX dX9_pulse_24 rfl ?_
    refine zw_iconst (v := (0 : Int32)) hX dX9_pulse_25 (by decide) ?_
    refine zw_dup2 hX dX9_pulse_26 rfl rfl ?_
    obtain ⟨v3, g, h⟩ := zb_some h
    refine zw_xi hX dX9_pulse_27 g ?_
    refine zw_iconst (v := (1 : Int32)) hX dX9_pulse_28 (by decide) ?_
    refine zw_isub hX dX9_pulse_29 ?_
    obtain ⟨S4, g, h⟩ := zb_some h
    refine zw_si hX dX9_pulse_30 g ?_
    refine zw_iconst (v := (1 : Int32)) hX dX9_pulse_31 (by decide) ?_
    obtain rfl := Option.some.inj h
    exact zw_iret hX hr dX9_pulse_32 rfl ⟨rfl, rfl⟩
set_option maxHeartbeats 4000000 in
set_option maxRecDepth 100000 in
theorem zt_X9_pulse {l : Launch} {V : zm_V} {N : Nat} {S : zm_S} {out : (Int32 × zm_S)} {d : Nat} {a0 : Nat} {i1 : Int32} {i2 : Int32} (hd : 1 ≤ d) (h : zf_X9_pulse N a0 i1 i2 S = some out) : zm_Met l zk_E V yX9_pulse (.code yX9_pulse cX9_pulse 3 (some .int)) d [.ref a0, .int i1, .int i2] S 0 0 (zo_i out) zo_x := by
  refine zm_of (by decide +kernel) (Nat.le_of_ble_eq_true rfl) ?_
  intro p e R s m args below meth c hRR hX hr hxt
  have hR : R.frames = d ∧ R.locals = 64 * d := by rw [hRR]; exact ⟨rfl, rfl⟩
  have hX : zm_X p R s m args meth c RX9 "pulse" cX9_pulse 3 zk_E V 0 0 := hX
  unfold zf_X9_pulse at h
  refine zw_sub (lv' := [(0, .ref a0), (1, .int i1), (2, .int i2)]) (List.forall_mem_cons.mpr ⟨rfl, (List.forall_mem_cons.mpr ⟨rfl, (List.forall_mem_cons.mpr ⟨rfl, zs_nil⟩)⟩)⟩) ?_
  refine zw_iload_n hX dX9_pulse_0 rfl ?_
  refine zw_if_eq (tgt := 14) hX dX9_pulse_1 (by decide) (fun c1 => ?_) (fun c1 => ?_)
  · rw [if_pos c1] at h
    refine zw_sub (lv' := [(0, .ref a0), (1, .int i1)]) (List.forall_mem_cons.mpr ⟨rfl, (List.forall_mem_cons.mpr ⟨rfl, zs_nil⟩)⟩) ?_
    exact zt_X9_pulse_J14 hX hr hR hd h
  · rw [if_neg c1] at h
    refine zw_aload_n hX dX9_pulse_4 rfl ?_
    refine zw_iconst (v := (1 : Int32)) hX dX9_pulse_5 (by decide) ?_
    obtain ⟨v5, g, h⟩ := zb_some h
    refine zw_xi hX dX9_pulse_6 g ?_
    refine zw_if_ne (tgt := 14) hX dX9_pulse_7 (by decide) (fun c7 => ?_) (fun c7 => ?_)
    · rw [if_neg c7] at h
      refine zw_sub (lv' := [(0, .ref a0), (1, .int i1)]) (List.forall_mem_cons.mpr ⟨rfl, (List.forall_mem_cons.mpr ⟨rfl, zs_nil⟩)⟩) ?_
      exact zt_X9_pulse_J14 hX hr hR hd h
    · rw [if_pos c7] at h
      refine zw_aload_n hX dX9_pulse_10 rfl ?_
      refine zw_iconst (v := (0 : Int32)) hX dX9_pulse_11 (by decide) ?_
      refine zw_iload_n hX dX9_pulse_12 rfl ?_
      obtain ⟨S6, g, h⟩ := zb_some h
      refine zw_si hX dX9_pulse_13 g ?_
      refine zw_sub (lv' := [(0, .ref a0), (1, .int i1)]) (List.forall_mem_cons.mpr ⟨rfl, (List.forall_mem_cons.mpr ⟨rfl, zs_nil⟩)⟩) ?_
      exact zt_X9_pulse_J14 hX hr hR hd h
set_option maxHeartbeats 4000000 in
set_option maxRecDepth 100000 in
theorem zt_X9_limit {l : Launch} {V : zm_V} {N : Nat} {S : zm_S} {out : (Int32 × zm_S)} {d : Nat} {i0 : Int32} {i1 : Int32} {i2 : Int32} (hd : 1 ≤ d) (h : zf_X9_limit N i0 i1 i2 S = some out) : zm_Met l zk_E V yX9_limit (.code yX9_limit cX9_limit 3 (some .int)) d [.int i0, .int i1, .int i2] S 0 0 (zo_i out) zo_x := by
  refine zm_of (by decide +kernel) (Nat.le_of_ble_eq_true rfl) ?_
  intro p e R s m args below meth c hRR hX hr hxt
  have hR : R.frames = d ∧ R.locals = 64 * d := by rw [hRR]; exact ⟨rfl, rfl⟩
  have hX : zm_X p R s m args meth c RX9 "limit" cX9_limit 3 zk_E V 0 0 := hX
  unfold zf_X9_limit at h
  refine zw_sub (lv' := [(0, .int i0), (1, .int i1), (2, .int i2)]) (List.forall_mem_cons.mpr ⟨rfl, (List.forall_mem_cons.mpr ⟨rfl, (List.forall_mem_cons.mpr ⟨rfl, zs_nil⟩)⟩)⟩) ?_
  refine zw_iload_n hX dX9_limit_0 rfl ?_
  refine zw_iload_n hX dX9_limit_1 rfl ?_
  refine zw_icmp_ge (tgt := 7) hX dX9_limit_2 (by decide) (fun c2 => ?_) (fun c2 => ?_)
  · rw [if_pos c2] at h
    refine zw_iload_n hX dX9_limit_7 rfl ?_
    refine zw_iload_n hX dX9_limit_8 rfl ?_
    refine zw_icmp_le (tgt := 16) hX dX9_limit_9 (by decide) (fun c9 => ?_) (fun c9 => ?_)
    · rw [if_pos c9] at h
      refine zw_iload_n hX dX9_limit_16 rfl ?_
      obtain rfl := Option.some.inj h
      exact zw_iret hX hr dX9_limit_17 rfl ⟨rfl, rfl⟩
    · rw [if_neg c9] at h
      refine zw_iload_n hX dX9_limit_12 rfl ?_
      refine zw_goto (tgt := 17) hX dX9_limit_13 (by decide) ?_
      obtain rfl := Option.some.inj h
      exact zw_iret hX hr dX9_limit_17 rfl ⟨rfl, rfl⟩
  · rw [if_neg c2] at h
    refine zw_iload_n hX dX9_limit_5 rfl ?_
    obtain rfl := Option.some.inj h
    exact zw_iret hX hr dX9_limit_6 rfl ⟨rfl, rfl⟩
set_option maxHeartbeats 4000000 in
set_option maxRecDepth 100000 in
theorem zt_X9_since_J13 {p : Program} {l : Launch} {e : Env} {R : Room} {s : State} {m : MethodId} {args : Array Value} {below : List Frame} {meth : Method} {c : Code} {V : zm_V} {mc ms d rc rs : Nat} (hX : zm_X p R s m args meth c RX9 "since" cX9_since 4 zk_E V mc ms) (hr : meth.sig.returnType = (some .int)) (hR : R.frames = d ∧ R.locals = 64 * d) (hd : 2 ≤ d) {N : Nat} {a0 : Nat} {i2 : Int32} {t0 : Int32} {out : (Int32 × zm_S)} {S : zm_S} (h : zf_X9_since_J13 N a0 i2 t0 S = some out) : zw p l e R s m args below meth c (vx_MQ below (zm_Qc zk_E V (zo_i out)) (zm_XC zk_E V zo_x) args s mc ms (fun q => V.2.2.2.1 ≤ q)) 4 zk_E V mc ms 13 [(0, .ref a0), (2, .int i2)] [.int t0] S rc rs := by
  unfold zf_X9_since_J13 at h
  refine zw_istore_n hX dX9_since_13 (by decide) ?_
  refine zw_aload_n hX dX9_since_14 rfl ?_
  refine zw_iconst (v := (0 : Int32)) hX dX9_since_15 (by decide) ?_
  refine zw_iload_n hX dX9_since_16 rfl ?_
  refine zw_iload_n hX dX9_since_17 rfl ?_
  refine zw_mmin hX zl_X9_132 dX9_since_18 (Nat.le_of_ble_eq_true rfl) ⟨by omega, by omega⟩ ?_
  obtain ⟨S1, g, h⟩ := zb_some h
  refine zw_si hX dX9_since_21 g ?_
  refine zw_aload_n hX dX9_since_22 rfl ?_
  refine zw_iconst (v := (0 : Int32)) hX dX9_since_23 (by decide) ?_
  obtain ⟨v2, g, h⟩ := zb_some h
  refine zw_xi hX dX9_since_24 g ?_
  obtain rfl := Option.some.inj h
  exact zw_iret hX hr dX9_since_25 rfl ⟨rfl, rfl⟩
set_option maxHeartbeats 4000000 in
set_option maxRecDepth 100000 in
theorem zt_X9_since {l : Launch} {V : zm_V} {N : Nat} {S : zm_S} {out : (Int32 × zm_S)} {d : Nat} {a0 : Nat} {i1 : Int32} {i2 : Int32} (hd : 2 ≤ d) (h : zf_X9_since N a0 i1 i2 S = some out) : zm_Met l zk_E V yX9_since (.code yX9_since cX9_since 4 (some .int)) d [.ref a0, .int i1, .int i2] S 0 0 (zo_i out) zo_x := by
  refine zm_of (by decide +kernel) (Nat.le_of_ble_eq_true rfl) ?_
  intro p e R s m args below meth c hRR hX hr hxt
  have hR : R.frames = d ∧ R.locals = 64 * d := by rw [hRR]; exact ⟨rfl, rfl⟩
  have hX : zm_X p R s m args meth c RX9 "since" cX9_since 4 zk_E V 0 0 := hX
  unfold zf_X9_since at h
  refine zw_sub (lv' := [(0, .ref a0), (1, .int i1), (2, .int i2)]) (List.forall_mem_cons.mpr ⟨rfl, (List.forall_mem_cons.mpr ⟨rfl, (List.forall_mem_cons.mpr ⟨rfl, zs_nil⟩)⟩)⟩) ?_
  refine zw_iload_n hX dX9_since_0 rfl ?_
  refine zw_if_eq (tgt := 12) hX dX9_since_1 (by decide) (fun c1 => ?_) (fun c1 => ?_)
  · rw [if_pos c1] at h
    refine zw_iconst (v := (0 : Int32)) hX dX9_since_12 (by decide) ?_
    refine zw_sub (lv' := [(0, .ref a0), (2, .int i2)]) (List.forall_mem_cons.mpr ⟨rfl, (List.forall_mem_cons.mpr ⟨rfl, zs_nil⟩)⟩) ?_
    exact zt_X9_since_J13 hX hr hR hd h
  · rw [if_neg c1] at h
    refine zw_aload_n hX dX9_since_4 rfl ?_
    refine zw_iconst (v := (0 : Int32)) hX dX9_since_5 (by decide) ?_
    obtain ⟨v3, g, h⟩ := zb_some h
    refine zw_xi hX dX9_since_6 g ?_
    refine zw_iconst (v := (1 : Int32)) hX dX9_since_7 (by decide) ?_
    refine zw_iadd hX dX9_since_8 ?_
    refine zw_goto (tgt := 13) hX dX9_since_9 (by decide) ?_
    refine zw_sub (lv' := [(0, .ref a0), (2, .int i2)]) (List.forall_mem_cons.mpr ⟨rfl, (List.forall_mem_cons.mpr ⟨rfl, zs_nil⟩)⟩) ?_
    exact zt_X9_since_J13 hX hr hR hd h
set_option maxHeartbeats 4000000 in
set_option maxRecDepth 100000 in
theorem zt_X9_reckonKept_J274 {p : Program} {l : Launch} {e : Env} {R : Room} {s : State} {m : MethodId} {args : Array Value} {below : List Frame} {meth : Method} {c : Code} {V : zm_V} {mc ms d rc rs : Nat} (hX : zm_X p R s m args meth c RX9 "reckonKept" cX9_reckonKept 5 zk_E V mc ms) (hr : meth.sig.returnType = (some .int)) (hR : R.frames = d ∧ R.locals = 64 * d) (hd : 3 ≤ d) {N : Nat} {a0 : Nat} {i1 : Int32} {i2 : Int32} {out : (Int32 × zm_S)} {S : zm_S} (h : zf_X9_reckonKept_J274 N a0 i1 i2 S = some out) : zw p l e R s m args below meth c (vx_MQ below (zm_Qc zk_E V (zo_i out)) (zm_XC zk_E V zo_x) args s mc ms (fun q => V.2.2.2.1 ≤ q)) 5 zk_E V mc ms 274 [(0, .ref a0), (1, .int i1), (2, .int i2)] [] S rc rs := by
  unfold zf_X9_reckonKept_J274 at h
  refine zw_aload_n hX dX9_reckonKept_274 rfl ?_
  obtain ⟨b3, g, h⟩ := zb_some h
  refine zw_getr hX zl_X9_32 dX9_reckonKept_275 g ?_
  refine zw_iload_n hX dX9_reckonKept_278 rfl ?_
  obtain ⟨b4, g, h⟩ := zb_some h
  refine zw_xr hX dX9_reckonKept_279 g ?_
  refine zw_iload_n hX dX9_reckonKept_280 rfl ?_
  refine zw_aload_n hX dX9_reckonKept_281 rfl ?_
  obtain ⟨b5, g, h⟩ := zb_some h
  refine zw_getr hX zl_X9_15 dX9_reckonKept_282 g ?_
  refine zw_iload_n hX dX9_reckonKept_285 rfl ?_
  obtain ⟨v6, g, h⟩ := zb_some h
  refine zw_xi hX dX9_reckonKept_286 g ?_
  obtain ⟨r8, g, h⟩ := zb_some h
  refine zc_Si (as := [.ref b4, .int i2, .int v6]) hX (zt_X9_since (d := d - 1) (by omega) g) zl_X9_161 dX9_reckonKept_287 ⟨rfl, rfl, Nat.le_of_ble_eq_true rfl⟩ ⟨by omega, by omega⟩ ?_
  obtain rfl := Option.some.inj h
  exact zw_iret hX hr dX9_reckonKept_290 rfl ⟨rfl, rfl⟩
set_option maxHeartbeats 4000000 in
set_option maxRecDepth 100000 in
theorem zt_X9_reckonKept_J116 {p : Program} {l : Launch} {e : Env} {R : Room} {s : State} {m : MethodId} {args : Array Value} {below : List Frame} {meth : Method} {c : Code} {V : zm_V} {mc ms d rc rs : Nat} (hX : zm_X p R s m args meth c RX9 "reckonKept" cX9_reckonKept 5 zk_E V mc ms) (hr : meth.sig.returnType = (some .int)) (hR : R.frames = d ∧ R.locals = 64 * d) (hd : 3 ≤ d) {N : Nat} {a0 : Nat} {i1 : Int32} {out : (Int32 × zm_S)} {S : zm_S} (h : zf_X9_reckonKept_J116 N a0 i1 S = some out) : zw p l e R s m args below meth c (vx_MQ below (zm_Qc zk_E V (zo_i out)) (zm_XC zk_E V zo_x) args s mc ms (fun q => V.2.2.2.1 ≤ q)) 5 zk_E V mc ms 116 [(0, .ref a0), (1, .int i1)] [] S rc rs := by
  unfold zf_X9_reckonKept_J116 at h
  refine zw_aload_n hX dX9_reckonKept_116 rfl ?_
  obtain ⟨b9, g, h⟩ := zb_some h
  refine zw_getr hX zl_X9_15 dX9_reckonKept_117 g ?_
  refine zw_iload_n hX dX9_reckonKept_120 rfl ?_
  obtain ⟨v10, g, h⟩ := zb_some h
  refine zw_xi hX dX9_reckonKept_121 g ?_
  obtain rfl := Option.some.inj h
  exact zw_iret hX hr dX9_reckonKept_122 rfl ⟨rfl, rfl⟩
set_option maxHeartbeats 4000000 in
set_option maxRecDepth 100000 in
theorem zt_X9_reckonKept_J123 {p : Program} {l : Launch} {e : Env} {R : Room} {s : State} {m : MethodId} {args : Array Value} {below : List Frame} {meth : Method} {c : Code} {V : zm_V} {mc ms d rc rs : Nat} (hX : zm_X p R s m args meth c RX9 "reckonKept" cX9_reckonKept 5 zk_E V mc ms) (hr : meth.sig.returnType = (some .int)) (hR : R.frames = d ∧ R.locals = 64 * d) (hd : 3 ≤ d) {N : Nat} {a0 : Nat} {i1 : Int32} {i2 : Int32} {out : (Int32 × zm_S)} {S : zm_S} (h : zf_X9_reckonKept_J123 N a0 i1 i2 S = some out) : zw p l e R s m args below meth c (vx_MQ below (zm_Qc zk_E V (zo_i out)) (zm_XC zk_E V zo_x) args s mc ms (fun q => V.2.2.2.1 ≤ q)) 5 zk_E V mc ms 123 [(0, .ref a0), (1, .int i1), (2, .int i2)] [] S rc rs := by
  unfold zf_X9_reckonKept_J123 at h
  refine zw_aload_n hX dX9_reckonKept_123 rfl ?_
  obtain ⟨b11, g, h⟩ := zb_some h
  refine zw_getr hX zl_X9_29 dX9_reckonKept_124 g ?_
  refine zw_iload_n hX dX9_reckonKept_127 rfl ?_
  obtain ⟨v12, g, h⟩ := zb_some h
  refine zw_xi hX dX9_reckonKept_128 g ?_
  refine zw_iload_n hX dX9_reckonKept_129 rfl ?_
  refine zw_aload_n hX dX9_reckonKept_130 rfl ?_
  obtain ⟨b13, g, h⟩ := zb_some h
  refine zw_getr hX zl_X9_15 dX9_reckonKept_131 g ?_
  refine zw_iload_n hX dX9_reckonKept_134 rfl ?_
  obtain ⟨v14, g, h⟩ := zb_some h
  refine zw_xi hX dX9_reckonKept_135 g ?_
  obtain ⟨r16, g, h⟩ := zb_some h
  refine zc_Si (as := [.int v12, .int i2, .int v14]) hX (zt_X9_ramp (d := d - 1) (by omega) g) zl_X9_140 dX9_reckonKept_136 ⟨rfl, rfl, Nat.le_of_ble_eq_true rfl⟩ ⟨by omega, by omega⟩ ?_
  obtain rfl := Option.some.inj h
  exact zw_iret hX hr dX9_reckonKept_139 rfl ⟨rfl, rfl⟩
set_option maxHeartbeats 4000000 in
set_option maxRecDepth 100000 in
theorem zt_X9_reckonKept_J140 {p : Program} {l : Launch} {e : Env} {R : Room} {s : State} {m : MethodId} {args : Array Value} {below : List Frame} {meth : Method} {c : Code} {V : zm_V} {mc ms d rc rs : Nat} (hX : zm_X p R s m args meth c RX9 "reckonKept" cX9_reckonKept 5 zk_E V mc ms) (hr : meth.sig.returnType = (some .int)) (hR : R.frames = d ∧ R.locals = 64 * d) (hd : 3 ≤ d) {N : Nat} {a0 : Nat} {i1 : Int32} {i2 : Int32} {i3 : Int32} {out : (Int32 × zm_S)} {S : zm_S} (h : zf_X9_reckonKept_J140 N a0 i1 i2 i3 S = some out) : zw p l e R s m args below meth c (vx_MQ below (zm_Qc zk_E V (zo_i out)) (zm_XC zk_E V zo_x) args s mc ms (fun q => V.2.2.2.1 ≤ q)) 5 zk_E V mc ms 140 [(0, .ref a0), (1, .int i1), (2, .int i2), (3, .int i3)] [] S rc rs := by
  unfold zf_X9_reckonKept_J140 at h
  refine zw_aload_n hX dX9_reckonKept_140 rfl ?_
  obtain ⟨b17, g, h⟩ := zb_some h
  refine zw_getr hX zl_X9_32 dX9_reckonKept_141 g ?_
  refine zw_iload_n hX dX9_reckonKept_144 rfl ?_
  obtain ⟨b18, g, h⟩ := zb_some h
  refine zw_xr hX dX9_reckonKept_145 g ?_
  refine zw_iload_n hX dX9_reckonKept_146 rfl ?_
  refine zw_iload_n hX dX9_reckonKept_147 rfl ?_
  obtain ⟨r20, g, h⟩ := zb_some h
  refine zc_Si (as := [.ref b18, .int i2, .int i3]) hX (zt_X9_countUp (d := d - 1) (by omega) g) zl_X9_144 dX9_reckonKept_148 ⟨rfl, rfl, Nat.le_of_ble_eq_true rfl⟩ ⟨by omega, by omega⟩ ?_
  obtain rfl := Option.some.inj h
  exact zw_iret hX hr dX9_reckonKept_151 rfl ⟨rfl, rfl⟩
set_option maxHeartbeats 4000000 in
set_option maxRecDepth 100000 in
theorem zt_X9_reckonKept_J152 {p : Program} {l : Launch} {e : Env} {R : Room} {s : State} {m : MethodId} {args : Array Value} {below : List Frame} {meth : Method} {c : Code} {V : zm_V} {mc ms d rc rs : Nat} (hX : zm_X p R s m args meth c RX9 "reckonKept" cX9_reckonKept 5 zk_E V mc ms) (hr : meth.sig.returnType = (some .int)) (hR : R.frames = d ∧ R.locals = 64 * d) (hd : 3 ≤ d) {N : Nat} {a0 : Nat} {i1 : Int32} {i2 : Int32} {i3 : Int32} {out : (Int32 × zm_S)} {S : zm_S} (h : zf_X9_reckonKept_J152 N a0 i1 i2 i3 S = some out) : zw p l e R s m args below meth c (vx_MQ below (zm_Qc zk_E V (zo_i out)) (zm_XC zk_E V zo_x) args s mc ms (fun q => V.2.2.2.1 ≤ q)) 5 zk_E V mc ms 152 [(0, .ref a0), (1, .int i1), (2, .int i2), (3, .int i3)] [] S rc rs := by
  unfold zf_X9_reckonKept_J152 at h
  refine zw_aload_n hX dX9_reckonKept_152 rfl ?_
  obtain ⟨b21, g, h⟩ := zb_some h
  refine zw_getr hX zl_X9_32 dX9_reckonKept_153 g ?_
  refine zw_iload_n hX dX9_reckonKept_156 rfl ?_
  obtain ⟨b22, g, h⟩ := zb_some h
  refine zw_xr hX dX9_reckonKept_157 g ?_
  refine zw_iload_n hX dX9_reckonKept_158 rfl ?_
  refine zw_iload_n hX dX9_reckonKept_159 rfl ?_
  obtain ⟨r24, g, h⟩ := zb_some h
  refine zc_Si (as := [.ref b22, .int i2, .int i3]) hX (zt_X9_latch (d := d - 1) (by omega) g) zl_X9_148 dX9_reckonKept_160 ⟨rfl, rfl, Nat.le_of_ble_eq_true rfl⟩ ⟨by omega, by omega⟩ ?_
  obtain rfl := Option.some.inj h
  exact zw_iret hX hr dX9_reckonKept_163 rfl ⟨rfl, rfl⟩
set_option maxHeartbeats 4000000 in
set_option maxRecDepth 100000 in
theorem zt_X9_reckonKept_J164 {p : Program} {l : Launch} {e : Env} {R : Room} {s : State} {m : MethodId} {args : Array Value} {below : List Frame} {meth : Method} {c : Code} {V : zm_V} {mc ms d rc rs : Nat} (hX : zm_X p R s m args meth c RX9 "reckonKept" cX9_reckonKept 5 zk_E V mc ms) (hr : meth.sig.returnType = (some .int)) (hR : R.frames = d ∧ R.locals = 64 * d) (hd : 3 ≤ d) {N : Nat} {a0 : Nat} {i1 : Int32} {i4 : Int32} {out : (Int32 × zm_S)} {S : zm_S} (h : zf_X9_reckonKept_J164 N a0 i1 i4 S = some out) : zw p l e R s m args below meth c (vx_MQ below (zm_Qc zk_E V (zo_i out)) (zm_XC zk_E V zo_x) args s mc ms (fun q => V.2.2.2.1 ≤ q)) 5 zk_E V mc ms 164 [(0, .ref a0), (1, .int i1), (4, .int i4)] [] S rc rs := by
  unfold zf_X9_reckonKept_J164 at h
  refine zw_iload hX dX9_reckonKept_164 rfl ?_
  refine zw_aload_n hX dX9_reckonKept_166 rfl ?_
  obtain ⟨b25, g, h⟩ := zb_some h
  refine zw_getr hX zl_X9_15 dX9_reckonKept_167 g ?_
  refine zw_iload_n hX dX9_reckonKept_170 rfl ?_
  obtain ⟨v26, g, h⟩ := zb_some h
  refine zw_xi hX dX9_reckonKept_171 g ?_
  refine zw_aload_n hX dX9_reckonKept_172 rfl ?_
  obtain ⟨b27, g, h⟩ := zb_some h
  refine zw_getr hX zl_X9_18 dX9_reckonKept_173 g ?_
  refine zw_iload_n hX dX9_reckonKept_176 rfl ?_
  obtain ⟨v28, g, h⟩ := zb_some h
  refine zw_xi hX dX9_reckonKept_177 g ?_
  obtain ⟨r30, g, h⟩ := zb_some h
  refine zc_Si (as := [.int i4, .int v26, .int v28]) hX (zt_X9_isInSpan (d := d - 1) (by omega) g) zl_X9_151 dX9_reckonKept_178 ⟨rfl, rfl, Nat.le_of_ble_eq_true rfl⟩ ⟨by omega, by omega⟩ ?_
  refine zw_if_eq (tgt := 188) hX dX9_reckonKept_181 (by decide) (fun c181 => ?_) (fun c181 => ?_)
  · rw [if_pos c181] at h
    refine zw_iconst (v := (0 : Int32)) hX dX9_reckonKept_188 (by decide) ?_
    obtain rfl := Option.some.inj h
    exact zw_iret hX hr dX9_reckonKept_189 rfl ⟨rfl, rfl⟩
  · rw [if_neg c181] at h
    refine zw_iconst (v := (1 : Int32)) hX dX9_reckonKept_184 (by decide) ?_
    refine zw_goto (tgt := 189) hX dX9_reckonKept_185 (by decide) ?_
    obtain rfl := Option.some.inj h
    exact zw_iret hX hr dX9_reckonKept_189 rfl ⟨rfl, rfl⟩
set_option maxHeartbeats 4000000 in
set_option maxRecDepth 100000 in
theorem zt_X9_reckonKept_J190 {p : Program} {l : Launch} {e : Env} {R : Room} {s : State} {m : MethodId} {args : Array Value} {below : List Frame} {meth : Method} {c : Code} {V : zm_V} {mc ms d rc rs : Nat} (hX : zm_X p R s m args meth c RX9 "reckonKept" cX9_reckonKept 5 zk_E V mc ms) (hr : meth.sig.returnType = (some .int)) (hR : R.frames = d ∧ R.locals = 64 * d) (hd : 3 ≤ d) {N : Nat} {a0 : Nat} {i1 : Int32} {i2 : Int32} {out : (Int32 × zm_S)} {S : zm_S} (h : zf_X9_reckonKept_J190 N a0 i1 i2 S = some out) : zw p l e R s m args below meth c (vx_MQ below (zm_Qc zk_E V (zo_i out)) (zm_XC zk_E V zo_x) args s mc ms (fun q => V.2.2.2.1 ≤ q)) 5 zk_E V mc ms 190 [(0, .ref a0), (1, .int i1), (2, .int i2)] [] S rc rs := by
  unfold zf_X9_reckonKept_J190 at h
  refine zw_aload_n hX dX9_reckonKept_190 rfl ?_
  obtain ⟨b31, g, h⟩ := zb_some h
  refine zw_getr hX zl_X9_32 dX9_reckonKept_191 g ?_
  refine zw_iload_n hX dX9_reckonKept_194 rfl ?_
  obtain ⟨b32, g, h⟩ := zb_some h
  refine zw_xr hX dX9_reckonKept_195 g ?_
  refine zw_iload_n hX dX9_reckonKept_196 rfl ?_
  refine zw_aload_n hX dX9_reckonKept_197 rfl ?_
  obtain ⟨b33, g, h⟩ := zb_some h
  refine zw_getr hX zl_X9_15 dX9_reckonKept_198 g ?_
  refine zw_iload_n hX dX9_reckonKept_201 rfl ?_
  obtain ⟨v34, g, h⟩ := zb_some h
  refine zw_xi hX dX9_reckonKept_202 g ?_
  obtain ⟨r36, g, h⟩ := zb_some h
  refine zc_Si (as := [.ref b32, .int i2, .int v34]) hX (zt_X9_pulse (d := d - 1) (by omega) g) zl_X9_155 dX9_reckonKept_203 ⟨rfl, rfl, Nat.le_of_ble_eq_true rfl⟩ ⟨by omega, by omega⟩ ?_
  obtain rfl := Option.some.inj h
  exact zw_iret hX hr dX9_reckonKept_206 rfl ⟨rfl, rfl⟩
set_option maxHeartbeats 4000000 in
set_option maxRecDepth 100000 in
theorem zt_X9_reckonKept_J207 {p : Program} {l : Launch} {e : Env} {R : Room} {s : State} {m : MethodId} {args : Array Value} {below : List Frame} {meth : Method} {c : Code} {V : zm_V} {mc ms d rc rs : Nat} (hX : zm_X p R s m args meth c RX9 "reckonKept" cX9_reckonKept 5 zk_E V mc ms) (hr : meth.sig.returnType = (some .int)) (hR : R.frames = d ∧ R.locals = 64 * d) (hd : 3 ≤ d) {N : Nat} {a0 : Nat} {i1 : Int32} {i2 : Int32} {out : (Int32 × zm_S)} {S : zm_S} (h : zf_X9_reckonKept_J207 N a0 i1 i2 S = some out) : zw p l e R s m args below meth c (vx_MQ below (zm_Qc zk_E V (zo_i out)) (zm_XC zk_E V zo_x) args s mc ms (fun q => V.2.2.2.1 ≤ q)) 5 zk_E V mc ms 207 [(0, .ref a0), (1, .int i1), (2, .int i2)] [] S rc rs := by
  unfold zf_X9_reckonKept_J207 at h
  refine zw_iload_n hX dX9_reckonKept_207 rfl ?_
  refine zw_aload_n hX dX9_reckonKept_208 rfl ?_
  obtain ⟨b37, g, h⟩ := zb_some h
  refine zw_getr hX zl_X9_15 dX9_reckonKept_209 g ?_
  refine zw_iload_n hX dX9_reckonKept_212 rfl ?_
  obtain ⟨v38, g, h⟩ := zb_some h
  refine zw_xi hX dX9_reckonKept_213 g ?_
  refine zw_aload_n hX dX9_reckonKept_214 rfl ?_
  obtain ⟨b39, g, h⟩ := zb_some h
  refine zw_getr hX zl_X9_18 dX9_reckonKept_215 g ?_
  refine zw_iload_n hX dX9_reckonKept_218 rfl ?_
  obtain ⟨v40, g, h⟩ := zb_some h
  refine zw_xi hX dX9_reckonKept_219 g ?_
  obtain ⟨r42, g, h⟩ := zb_some h
  refine zc_Si (as := [.int i2, .int v38, .int v40]) hX (zt_X9_limit (d := d - 1) (by omega) g) zl_X9_158 dX9_reckonKept_220 ⟨rfl, rfl, Nat.le_of_ble_eq_true rfl⟩ ⟨by omega, by omega⟩ ?_
  obtain rfl := Option.some.inj h
  exact zw_iret hX hr dX9_reckonKept_223 rfl ⟨rfl, rfl⟩
set_option maxHeartbeats 4000000 in
set_option maxRecDepth 100000 in
theorem zt_X9_reckonKept_J224 {p : Program} {l : Launch} {e : Env} {R : Room} {s : State} {m : MethodId} {args : Array Value} {below : List Frame} {meth : Method} {c : Code} {V : zm_V} {mc ms d rc rs : Nat} (hX : zm_X p R s m args meth c RX9 "reckonKept" cX9_reckonKept 5 zk_E V mc ms) (hr : meth.sig.returnType = (some .int)) (hR : R.frames = d ∧ R.locals = 64 * d) (hd : 3 ≤ d) {N : Nat} {a0 : Nat} {i1 : Int32} {i2 : Int32} {i3 : Int32} {out : (Int32 × zm_S)} {S : zm_S} (h : zf_X9_reckonKept_J224 N a0 i1 i2 i3 S = some out) : zw p l e R s m args below meth c (vx_MQ below (zm_Qc zk_E V (zo_i out)) (zm_XC zk_E V zo_x) args s mc ms (fun q => V.2.2.2.1 ≤ q)) 5 zk_E V mc ms 224 [(0, .ref a0), (1, .int i1), (2, .int i2), (3, .int i3)] [] S rc rs := by
  unfold zf_X9_reckonKept_J224 at h
  refine zw_iload_n hX dX9_reckonKept_224 rfl ?_
  refine zw_if_eq (tgt := 237) hX dX9_reckonKept_225 (by decide) (fun c225 => ?_) (fun c225 => ?_)
  · rw [if_pos c225] at h
    refine zw_iload_n hX dX9_reckonKept_237 rfl ?_
    obtain rfl := Option.some.inj h
    exact zw_iret hX hr dX9_reckonKept_238 rfl ⟨rfl, rfl⟩
  · rw [if_neg c225] at h
    refine zw_aload_n hX dX9_reckonKept_228 rfl ?_
    obtain ⟨b43, g, h⟩ := zb_some h
    refine zw_getr hX zl_X9_29 dX9_reckonKept_229 g ?_
    refine zw_iload_n hX dX9_reckonKept_232 rfl ?_
    obtain ⟨v44, g, h⟩ := zb_some h
    refine zw_xi hX dX9_reckonKept_233 g ?_
    refine zw_goto (tgt := 238) hX dX9_reckonKept_234 (by decide) ?_
    obtain rfl := Option.some.inj h
    exact zw_iret hX hr dX9_reckonKept_238 rfl ⟨rfl, rfl⟩
set_option maxHeartbeats 4000000 in
set_option maxRecDepth 100000 in
theorem zt_X9_reckonKept_J264 {p : Program} {l : Launch} {e : Env} {R : Room} {s : State} {m : MethodId} {args : Array Value} {below : List Frame} {meth : Method} {c : Code} {V : zm_V} {mc ms d rc rs : Nat} (hX : zm_X p R s m args meth c RX9 "reckonKept" cX9_reckonKept 5 zk_E V mc ms) (hr : meth.sig.returnType = (some .int)) (hR : R.frames = d ∧ R.locals = 64 * d) (hd : 3 ≤ d) {N : Nat} {a0 : Nat} {i1 : Int32} {t0 : Nat} {t1 : Int32} {t2 : Int32} {out : (Int32 × zm_S)} {S : zm_S} (h : zf_X9_reckonKept_J264 N a0 i1 t0 t1 t2 S = some out) : zw p l e R s m args below meth c (vx_MQ below (zm_Qc zk_E V (zo_i out)) (zm_XC zk_E V zo_x) args s mc ms (fun q => V.2.2.2.1 ≤ q)) 5 zk_E V mc ms 264 [(0, .ref a0), (1, .int i1)] [.int t2, .int t1, .ref t0] S rc rs := by
  unfold zf_X9_reckonKept_J264 at h
  obtain ⟨S50, g, h⟩ := zb_some h
  refine zw_si hX dX9_reckonKept_264 g ?_
  refine zw_aload_n hX dX9_reckonKept_265 rfl ?_
  obtain ⟨b51, g, h⟩ := zb_some h
  refine zw_getr hX zl_X9_32 dX9_reckonKept_266 g ?_
  refine zw_iload_n hX dX9_reckonKept_269 rfl ?_
  obtain ⟨b52, g, h⟩ := zb_some h
  refine zw_xr hX dX9_reckonKept_270 g ?_
  refine zw_iconst (v := (0 : Int32)) hX dX9_reckonKept_271 (by decide) ?_
  obtain ⟨v53, g, h⟩ := zb_some h
  refine zw_xi hX dX9_reckonKept_272 g ?_
  obtain rfl := Option.some.inj h
  exact zw_iret hX hr dX9_reckonKept_273 rfl ⟨rfl, rfl⟩
set_option maxHeartbeats 4000000 in
set_option maxRecDepth 100000 in
theorem zt_X9_reckonKept_J239 {p : Program} {l : Launch} {e : Env} {R : Room} {s : State} {m : MethodId} {args : Array Value} {below : List Frame} {meth : Method} {c : Code} {V : zm_V} {mc ms d rc rs : Nat} (hX : zm_X p R s m args meth c RX9 "reckonKept" cX9_reckonKept 5 zk_E V mc ms) (hr : meth.sig.returnType = (some .int)) (hR : R.frames = d ∧ R.locals = 64 * d) (hd : 3 ≤ d) {N : Nat} {a0 : Nat} {i1 : Int32} {i2 : Int32} {i3 : Int32} {out : (Int32 × zm_S)} {S : zm_S} (h : zf_X9_reckonKept_J239 N a0 i1 i2 i3 S = some out) : zw p l e R s m args below meth c (vx_MQ below (zm_Qc zk_E V (zo_i out)) (zm_XC zk_E V zo_x) args s mc ms (fun q => V.2.2.2.1 ≤ q)) 5 zk_E V mc ms 239 [(0, .ref a0), (1, .int i1), (2, .int i2), (3, .int i3)] [] S rc rs := by
  unfold zf_X9_reckonKept_J239 at h
  refine zw_aload_n hX dX9_reckonKept_239 rfl ?_
  obtain ⟨b45, g, h⟩ := zb_some h
  refine zw_getr hX zl_X9_32 dX9_reckonKept_240 g ?_
  refine zw_iload_n hX dX9_reckonKept_243 rfl ?_
  obtain ⟨b46, g, h⟩ := zb_some h
  refine zw_xr hX dX9_reckonKept_244 g ?_
  refine zw_iconst (v := (0 : Int32)) hX dX9_reckonKept_245 (by decide) ?_
  refine zw_iload_n hX dX9_reckonKept_246 rfl ?_
  refine zw_if_eq (tgt := 254) hX dX9_reckonKept_247 (by decide) (fun c247 => ?_) (fun c247 => ?_)
  · rw [if_pos c247] at h
    refine zw_aload_n hX dX9_reckonKept_254 rfl ?_
    obtain ⟨b47, g, h⟩ := zb_some h
    refine zw_getr hX zl_X9_32 dX9_reckonKept_255 g ?_
    refine zw_iload_n hX dX9_reckonKept_258 rfl ?_
    obtain ⟨b48, g, h⟩ := zb_some h
    refine zw_xr hX dX9_reckonKept_259 g ?_
    refine zw_iconst (v := (0 : Int32)) hX dX9_reckonKept_260 (by decide) ?_
    obtain ⟨v49, g, h⟩ := zb_some h
    refine zw_xi hX dX9_reckonKept_261 g ?_
    refine zw_iload_n hX dX9_reckonKept_262 rfl ?_
    refine zw_iadd hX dX9_reckonKept_263 ?_
    refine zw_sub (lv' := [(0, .ref a0), (1, .int i1)]) (List.forall_mem_cons.mpr ⟨rfl, (List.forall_mem_cons.mpr ⟨rfl, zs_nil⟩)⟩) ?_
    exact zt_X9_reckonKept_J264 hX hr hR hd h
  · rw [if_neg c247] at h
    refine zw_iconst (v := (0 : Int32)) hX dX9_reckonKept_250 (by decide) ?_
    refine zw_goto (tgt := 264) hX dX9_reckonKept_251 (by decide) ?_
    refine zw_sub (lv' := [(0, .ref a0), (1, .int i1)]) (List.forall_mem_cons.mpr ⟨rfl, (List.forall_mem_cons.mpr ⟨rfl, zs_nil⟩)⟩) ?_
    exact zt_X9_reckonKept_J264 hX hr hR hd h
set_option maxHeartbeats 4000000 in
set_option maxRecDepth 100000 in
theorem zt_X9_reckonKept {l : Launch} {V : zm_V} {N : Nat} {S : zm_S} {out : (Int32 × zm_S)} {d : Nat} {a0 : Nat} {i1 : Int32} {i2 : Int32} {i3 : Int32} {i4 : Int32} (hd : 3 ≤ d) (h : zf_X9_reckonKept N a0 i1 i2 i3 i4 S = some out) : zm_Met l zk_E V yX9_reckonKept (.code yX9_reckonKept cX9_reckonKept 5 (some .int)) d [.ref a0, .int i1, .int i2, .int i3, .int i4] S 0 0 (zo_i out) zo_x := by
  refine zm_of (by decide +kernel) (Nat.le_of_ble_eq_true rfl) ?_
  intro p e R s m args below meth c hRR hX hr hxt
  have hR : R.frames = d ∧ R.locals = 64 * d := by rw [hRR]; exact ⟨rfl, rfl⟩
  have hX : zm_X p R s m args meth c RX9 "reckonKept" cX9_reckonKept 5 zk_E V 0 0 := hX
  unfold zf_X9_reckonKept at h
  refine zw_sub (lv' := [(0, .ref a0), (1, .int i1), (2, .int i2), (3, .int i3), (4, .int i4)]) (List.forall_mem_cons.mpr ⟨rfl, (List.forall_mem_cons.mpr ⟨rfl, (List.forall_mem_cons.mpr ⟨rfl, (List.forall_mem_cons.mpr ⟨rfl, (List.forall_mem_cons.mpr ⟨rfl, zs_nil⟩)⟩)⟩)⟩)⟩) ?_
  refine zw_aload_n hX dX9_reckonKept_0 rfl ?_
  obtain ⟨b1, g, h⟩ := zb_some h
  refine zw_getr hX zl_X9_11 dX9_reckonKept_1 g ?_
  refine zw_iload_n hX dX9_reckonKept_4 rfl ?_
  obtain ⟨v2, g, h⟩ := zb_some h
  refine zw_xi hX dX9_reckonKept_5 g ?_
  by_cases c6_0 : (v2).toInt = 1
  · rw [if_pos c6_0] at h
    refine zw_tableIn (off := 110) (tgt := 116) hX dX9_reckonKept_6 (by rw [c6_0]; decide) (by rw [c6_0]; decide) (by rw [c6_0]; decide) (by decide) ?_
    refine zw_sub (lv' := [(0, .ref a0), (1, .int i1)]) (List.forall_mem_cons.mpr ⟨rfl, (List.forall_mem_cons.mpr ⟨rfl, zs_nil⟩)⟩) ?_
    exact zt_X9_reckonKept_J116 hX hr hR hd h
  rw [if_neg c6_0] at h
  by_cases c6_1 : (v2).toInt = 2
  · rw [if_pos c6_1] at h
    refine zw_tableIn (off := 268) (tgt := 274) hX dX9_reckonKept_6 (by rw [c6_1]; decide) (by rw [c6_1]; decide) (by rw [c6_1]; decide) (by decide) ?_
    refine zw_sub (lv' := [(0, .ref a0), (1, .int i1), (2, .int i2)]) (List.forall_mem_cons.mpr ⟨rfl, (List.forall_mem_cons.mpr ⟨rfl, (List.forall_mem_cons.mpr ⟨rfl, zs_nil⟩)⟩)⟩) ?_
    exact zt_X9_reckonKept_J274 hX hr hR hd h
  rw [if_neg c6_1] at h
  by_cases c6_2 : (v2).toInt = 3
  · rw [if_pos c6_2] at h
    refine zw_tableIn (off := 268) (tgt := 274) hX dX9_reckonKept_6 (by rw [c6_2]; decide) (by rw [c6_2]; decide) (by rw [c6_2]; decide) (by decide) ?_
    refine zw_sub (lv' := [(0, .ref a0), (1, .int i1), (2, .int i2)]) (List.forall_mem_cons.mpr ⟨rfl, (List.forall_mem_cons.mpr ⟨rfl, (List.forall_mem_cons.mpr ⟨rfl, zs_nil⟩)⟩)⟩) ?_
    exact zt_X9_reckonKept_J274 hX hr hR hd h
  rw [if_neg c6_2] at h
  by_cases c6_3 : (v2).toInt = 4
  · rw [if_pos c6_3] at h
    refine zw_tableIn (off := 268) (tgt := 274) hX dX9_reckonKept_6 (by rw [c6_3]; decide) (by rw [c6_3]; decide) (by rw [c6_3]; decide) (by decide) ?_
    refine zw_sub (lv' := [(0, .ref a0), (1, .int i1), (2, .int i2)]) (List.forall_mem_cons.mpr ⟨rfl, (List.forall_mem_cons.mpr ⟨rfl, (List.forall_mem_cons.mpr ⟨rfl, zs_nil⟩)⟩)⟩) ?_
    exact zt_X9_reckonKept_J274 hX hr hR hd h
  rw [if_neg c6_3] at h
  by_cases c6_4 : (v2).toInt = 5
  · rw [if_pos c6_4] at h
    refine zw_tableIn (off := 268) (tgt := 274) hX dX9_reckonKept_6 (by rw [c6_4]; decide) (by rw [c6_4]; decide) (by rw [c6_4]; decide) (by decide) ?_
    refine zw_sub (lv' := [(0, .ref a0), (1, .int i1), (2, .int i2)]) (List.forall_mem_cons.mpr ⟨rfl, (List.forall_mem_cons.mpr ⟨rfl, (List.forall_mem_cons.mpr ⟨rfl, zs_nil⟩)⟩)⟩) ?_
    exact zt_X9_reckonKept_J274 hX hr hR hd h
  rw [if_neg c6_4] at h
  by_cases c6_5 : (v2).toInt = 6
  · rw [if_pos c6_5] at h
    refine zw_tableIn (off := 268) (tgt := 274) hX dX9_reckonKept_6 (by rw [c6_5]; decide) (by rw [c6_5]; decide) (by rw [c6_5]; decide) (by decide) ?_
    refine zw_sub (lv' := [(0, .ref a0), (1, .int i1), (2, .int i2)]) (List.forall_mem_cons.mpr ⟨rfl, (List.forall_mem_cons.mpr ⟨rfl, (List.forall_mem_cons.mpr ⟨rfl, zs_nil⟩)⟩)⟩) ?_
    exact zt_X9_reckonKept_J274 hX hr hR hd h
  rw [if_neg c6_5] at h
  by_cases c6_6 : (v2).toInt = 7
  · rw [if_pos c6_6] at h
    refine zw_tableIn (off := 268) (tgt := 274) hX dX9_reckonKept_6 (by rw [c6_6]; decide) (by rw [c6_6]; decide) (by rw [c6_6]; decide) (by decide) ?_
    refine zw_sub (lv' := [(0, .ref a0), (1, .int i1), (2, .int i2)]) (List.forall_mem_cons.mpr ⟨rfl, (List.forall_mem_cons.mpr ⟨rfl, (List.forall_mem_cons.mpr ⟨rfl, zs_nil⟩)⟩)⟩) ?_
    exact zt_X9_reckonKept_J274 hX hr hR hd h
  rw [if_neg c6_6] at h
  by_cases c6_7 : (v2).toInt = 8
  · rw [if_pos c6_7] at h
    refine zw_tableIn (off := 268) (tgt := 274) hX dX9_reckonKept_6 (by rw [c6_7]; decide) (by rw [c6_7]; decide) (by rw [c6_7]; decide) (by decide) ?_
    refine zw_sub (lv' := [(0, .ref a0), (1, .int i1), (2, .int i2)]) (List.forall_mem_cons.mpr ⟨rfl, (List.forall_mem_cons.mpr ⟨rfl, (List.forall_mem_cons.mpr ⟨rfl, zs_nil⟩)⟩)⟩) ?_
    exact zt_X9_reckonKept_J274 hX hr hR hd h
  rw [if_neg c6_7] at h
  by_cases c6_8 : (v2).toInt = 9
  · rw [if_pos c6_8] at h
    refine zw_tableIn (off := 268) (tgt := 274) hX dX9_reckonKept_6 (by rw [c6_8]; decide) (by rw [c6_8]; decide) (by rw [c6_8]; decide) (by decide) ?_
    refine zw_sub (lv' := [(0, .ref a0), (1, .int i1), (2, .int i2)]) (List.forall_mem_cons.mpr ⟨rfl, (List.forall_mem_cons.mpr ⟨rfl, (List.forall_mem_cons.mpr ⟨rfl, zs_nil⟩)⟩)⟩) ?_
    exact zt_X9_reckonKept_J274 hX hr hR hd h
  rw [if_neg c6_8] at h
  by_cases c6_9 : (v2).toInt = 10
  · rw [if_pos c6_9] at h
    refine zw_tableIn (off := 268) (tgt := 274) hX dX9_reckonKept_6 (by rw [c6_9]; decide) (by rw [c6_9]; decide) (by rw [c6_9]; decide) (by decide) ?_
    refine zw_sub (lv' := [(0, .ref a0), (1, .int i1), (2, .int i2)]) (List.forall_mem_cons.mpr ⟨rfl, (List.forall_mem_cons.mpr ⟨rfl, (List.forall_mem_cons.mpr ⟨rfl, zs_nil⟩)⟩)⟩) ?_
    exact zt_X9_reckonKept_J274 hX hr hR hd h
  rw [if_neg c6_9] at h
  by_cases c6_10 : (v2).toInt = 11
  · rw [if_pos c6_10] at h
    refine zw_tableIn (off := 268) (tgt := 274) hX dX9_reckonKept_6 (by rw [c6_10]; decide) (by rw [c6_10]; decide) (by rw [c6_10]; decide) (by decide) ?_
    refine zw_sub (lv' := [(0, .ref a0), (1, .int i1), (2, .int i2)]) (List.forall_mem_cons.mpr ⟨rfl, (List.forall_mem_cons.mpr ⟨rfl, (List.forall_mem_cons.mpr ⟨rfl, zs_nil⟩)⟩)⟩) ?_
    exact zt_X9_reckonKept_J274 hX hr hR hd h
  rw [if_neg c6_10] at h
  by_cases c6_11 : (v2).toInt = 12
  · rw [if_pos c6_11] at h
    refine zw_tableIn (off := 268) (tgt := 274) hX dX9_reckonKept_6 (by rw [c6_11]; decide) (by rw [c6_11]; decide) (by rw [c6_11]; decide) (by decide) ?_
    refine zw_sub (lv' := [(0, .ref a0), (1, .int i1), (2, .int i2)]) (List.forall_mem_cons.mpr ⟨rfl, (List.forall_mem_cons.mpr ⟨rfl, (List.forall_mem_cons.mpr ⟨rfl, zs_nil⟩)⟩)⟩) ?_
    exact zt_X9_reckonKept_J274 hX hr hR hd h
  rw [if_neg c6_11] at h
  by_cases c6_12 : (v2).toInt = 13
  · rw [if_pos c6_12] at h
    refine zw_tableIn (off := 268) (tgt := 274) hX dX9_reckonKept_6 (by rw [c6_12]; decide) (by rw [c6_12]; decide) (by rw [c6_12]; decide) (by decide) ?_
    refine zw_sub (lv' := [(0, .ref a0), (1, .int i1), (2, .int i2)]) (List.forall_mem_cons.mpr ⟨rfl, (List.forall_mem_cons.mpr ⟨rfl, (List.forall_mem_cons.mpr ⟨rfl, zs_nil⟩)⟩)⟩) ?_
    exact zt_X9_reckonKept_J274 hX hr hR hd h
  rw [if_neg c6_12] at h
  by_cases c6_13 : (v2).toInt = 14
  · rw [if_pos c6_13] at h
    refine zw_tableIn (off := 268) (tgt := 274) hX dX9_reckonKept_6 (by rw [c6_13]; decide) (by rw [c6_13]; decide) (by rw [c6_13]; decide) (by decide) ?_
    refine zw_sub (lv' := [(0, .ref a0), (1, .int i1), (2, .int i2)]) (List.forall_mem_cons.mpr ⟨rfl, (List.forall_mem_cons.mpr ⟨rfl, (List.forall_mem_cons.mpr ⟨rfl, zs_nil⟩)⟩)⟩) ?_
    exact zt_X9_reckonKept_J274 hX hr hR hd h
  rw [if_neg c6_13] at h
  by_cases c6_14 : (v2).toInt = 15
  · rw [if_pos c6_14] at h
    refine zw_tableIn (off := 268) (tgt := 274) hX dX9_reckonKept_6 (by rw [c6_14]; decide) (by rw [c6_14]; decide) (by rw [c6_14]; decide) (by decide) ?_
    refine zw_sub (lv' := [(0, .ref a0), (1, .int i1), (2, .int i2)]) (List.forall_mem_cons.mpr ⟨rfl, (List.forall_mem_cons.mpr ⟨rfl, (List.forall_mem_cons.mpr ⟨rfl, zs_nil⟩)⟩)⟩) ?_
    exact zt_X9_reckonKept_J274 hX hr hR hd h
  rw [if_neg c6_14] at h
  by_cases c6_15 : (v2).toInt = 16
  · rw [if_pos c6_15] at h
    refine zw_tableIn (off := 268) (tgt := 274) hX dX9_reckonKept_6 (by rw [c6_15]; decide) (by rw [c6_15]; decide) (by rw [c6_15]; decide) (by decide) ?_
    refine zw_sub (lv' := [(0, .ref a0), (1, .int i1), (2, .int i2)]) (List.forall_mem_cons.mpr ⟨rfl, (List.forall_mem_cons.mpr ⟨rfl, (List.forall_mem_cons.mpr ⟨rfl, zs_nil⟩)⟩)⟩) ?_
    exact zt_X9_reckonKept_J274 hX hr hR hd h
  rw [if_neg c6_15] at h
  by_cases c6_16 : (v2).toInt = 17
  · rw [if_pos c6_16] at h
    refine zw_tableIn (off := 117) (tgt := 123) hX dX9_reckonKept_6 (by rw [c6_16]; decide) (by rw [c6_16]; decide) (by rw [c6_16]; decide) (by decide) ?_
    refine zw_sub (lv' := [(0, .ref a0), (1, .int i1), (2, .int i2)]) (List.forall_mem_cons.mpr ⟨rfl, (List.forall_mem_cons.mpr ⟨rfl, (List.forall_mem_cons.mpr ⟨rfl, zs_nil⟩)⟩)⟩) ?_
    exact zt_X9_reckonKept_J123 hX hr hR hd h
  rw [if_neg c6_16] at h
  by_cases c6_17 : (v2).toInt = 18
  · rw [if_pos c6_17] at h
    refine zw_tableIn (off := 134) (tgt := 140) hX dX9_reckonKept_6 (by rw [c6_17]; decide) (by rw [c6_17]; decide) (by rw [c6_17]; decide) (by decide) ?_
    refine zw_sub (lv' := [(0, .ref a0), (1, .int i1), (2, .int i2), (3, .int i3)]) (List.forall_mem_cons.mpr ⟨rfl, (List.forall_mem_cons.mpr ⟨rfl, (List.forall_mem_cons.mpr ⟨rfl, (List.forall_mem_cons.mpr ⟨rfl, zs_nil⟩)⟩)⟩)⟩) ?_
    exact zt_X9_reckonKept_J140 hX hr hR hd h
  rw [if_neg c6_17] at h
  by_cases c6_18 : (v2).toInt = 19
  · rw [if_pos c6_18] at h
    refine zw_tableIn (off := 146) (tgt := 152) hX dX9_reckonKept_6 (by rw [c6_18]; decide) (by rw [c6_18]; decide) (by rw [c6_18]; decide) (by decide) ?_
    refine zw_sub (lv' := [(0, .ref a0), (1, .int i1), (2, .int i2), (3, .int i3)]) (List.forall_mem_cons.mpr ⟨rfl, (List.forall_mem_cons.mpr ⟨rfl, (List.forall_mem_cons.mpr ⟨rfl, (List.forall_mem_cons.mpr ⟨rfl, zs_nil⟩)⟩)⟩)⟩) ?_
    exact zt_X9_reckonKept_J152 hX hr hR hd h
  rw [if_neg c6_18] at h
  by_cases c6_19 : (v2).toInt = 20
  · rw [if_pos c6_19] at h
    refine zw_tableIn (off := 158) (tgt := 164) hX dX9_reckonKept_6 (by rw [c6_19]; decide) (by rw [c6_19]; decide) (by rw [c6_19]; decide) (by decide) ?_
    refine zw_sub (lv' := [(0, .ref a0), (1, .int i1), (4, .int i4)]) (List.forall_mem_cons.mpr ⟨rfl, (List.forall_mem_cons.mpr ⟨rfl, (List.forall_mem_cons.mpr ⟨rfl, zs_nil⟩)⟩)⟩) ?_
    exact zt_X9_reckonKept_J164 hX hr hR hd h
  rw [if_neg c6_19] at h
  by_cases c6_20 : (v2).toInt = 21
  · rw [if_pos c6_20] at h
    refine zw_tableIn (off := 184) (tgt := 190) hX dX9_reckonKept_6 (by rw [c6_20]; decide) (by rw [c6_20]; decide) (by rw [c6_20]; decide) (by decide) ?_
    refine zw_sub (lv' := [(0, .ref a0), (1, .int i1), (2, .int i2)]) (List.forall_mem_cons.mpr ⟨rfl, (List.forall_mem_cons.mpr ⟨rfl, (List.forall_mem_cons.mpr ⟨rfl, zs_nil⟩)⟩)⟩) ?_
    exact zt_X9_reckonKept_J190 hX hr hR hd h
  rw [if_neg c6_20] at h
  by_cases c6_21 : (v2).toInt = 22
  · rw [if_pos c6_21] at h
    refine zw_tableIn (off := 201) (tgt := 207) hX dX9_reckonKept_6 (by rw [c6_21]; decide) (by rw [c6_21]; decide) (by rw [c6_21]; decide) (by decide) ?_
    refine zw_sub (lv' := [(0, .ref a0), (1, .int i1), (2, .int i2)]) (List.forall_mem_cons.mpr ⟨rfl, (List.forall_mem_cons.mpr ⟨rfl, (List.forall_mem_cons.mpr ⟨rfl, zs_nil⟩)⟩)⟩) ?_
    exact zt_X9_reckonKept_J207 hX hr hR hd h
  rw [if_neg c6_21] at h
  by_cases c6_22 : (v2).toInt = 23
  · rw [if_pos c6_22] at h
    refine zw_tableIn (off := 218) (tgt := 224) hX dX9_reckonKept_6 (by rw [c6_22]; decide) (by rw [c6_22]; decide) (by rw [c6_22]; decide) (by decide) ?_
    refine zw_sub (lv' := [(0, .ref a0), (1, .int i1), (2, .int i2), (3, .int i3)]) (List.forall_mem_cons.mpr ⟨rfl, (List.forall_mem_cons.mpr ⟨rfl, (List.forall_mem_cons.mpr ⟨rfl, (List.forall_mem_cons.mpr ⟨rfl, zs_nil⟩)⟩)⟩)⟩) ?_
    exact zt_X9_reckonKept_J224 hX hr hR hd h
  rw [if_neg c6_22] at h
  by_cases c6_23 : (v2).toInt = 24
  · rw [if_pos c6_23] at h
    refine zw_tableIn (off := 233) (tgt := 239) hX dX9_reckonKept_6 (by rw [c6_23]; decide) (by rw [c6_23]; decide) (by rw [c6_23]; decide) (by decide) ?_
    refine zw_sub (lv' := [(0, .ref a0), (1, .int i1), (2, .int i2), (3, .int i3)]) (List.forall_mem_cons.mpr ⟨rfl, (List.forall_mem_cons.mpr ⟨rfl, (List.forall_mem_cons.mpr ⟨rfl, (List.forall_mem_cons.mpr ⟨rfl, zs_nil⟩)⟩)⟩)⟩) ?_
    exact zt_X9_reckonKept_J239 hX hr hR hd h
  rw [if_neg c6_23] at h
  refine zw_tableOut (tgt := 274) hX dX9_reckonKept_6 (by omega) (by decide) ?_
  refine zw_sub (lv' := [(0, .ref a0), (1, .int i1), (2, .int i2)]) (List.forall_mem_cons.mpr ⟨rfl, (List.forall_mem_cons.mpr ⟨rfl, (List.forall_mem_cons.mpr ⟨rfl, zs_nil⟩)⟩)⟩) ?_
  exact zt_X9_reckonKept_J274 hX hr hR hd h
set_option maxHeartbeats 4000000 in
set_option maxRecDepth 100000 in
theorem zt_X9_reckon_J149 {p : Program} {l : Launch} {e : Env} {R : Room} {s : State} {m : MethodId} {args : Array Value} {below : List Frame} {meth : Method} {c : Code} {V : zm_V} {mc ms d rc rs : Nat} (hX : zm_X p R s m args meth c RX9 "reckon" cX9_reckon 7 zk_E V mc ms) (hr : meth.sig.returnType = (some .int)) (hR : R.frames = d ∧ R.locals = 64 * d) (hd : 4 ≤ d) {N : Nat} {a0 : Nat} {out : (Int32 × zm_S)} {S : zm_S} (h : zf_X9_reckon_J149 N a0 S = some out) : zw p l e R s m args below meth c (vx_MQ below (zm_Qc zk_E V (zo_i out)) (zm_XC zk_E V zo_x) args s mc ms (fun q => V.2.2.2.1 ≤ q)) 7 zk_E V mc ms 149 [(0, .ref a0)] [] S rc rs := by
  unfold zf_X9_reckon_J149 at h
  refine zw_aload_n hX dX9_reckon_149 rfl ?_
  refine zw_iconst (v := (2 : Int32)) hX dX9_reckon_150 (by decide) ?_
  obtain ⟨_, gi, h⟩ := zb_some h
  obtain ⟨r12, g, h⟩ := zb_some h
  refine zc_Vi (as := [.int (2 : Int32)]) hX gi (zt_X9_fail (d := d - 1) (by omega) g) zl_X9_118 rfl dX9_reckon_151 ⟨rfl, rfl, Nat.le_of_ble_eq_true rfl⟩ ⟨by omega, by omega⟩ ?_
  obtain rfl := Option.some.inj h
  exact zw_iret hX hr dX9_reckon_154 rfl ⟨rfl, rfl⟩
set_option maxHeartbeats 4000000 in
set_option maxRecDepth 100000 in
theorem zt_X9_reckon_J113 {p : Program} {l : Launch} {e : Env} {R : Room} {s : State} {m : MethodId} {args : Array Value} {below : List Frame} {meth : Method} {c : Code} {V : zm_V} {mc ms d rc rs : Nat} (hX : zm_X p R s m args meth c RX9 "reckon" cX9_reckon 7 zk_E V mc ms) (hr : meth.sig.returnType = (some .int)) (hR : R.frames = d ∧ R.locals = 64 * d) (hd : 4 ≤ d) {N : Nat} {a0 : Nat} {out : (Int32 × zm_S)} {S : zm_S} (h : zf_X9_reckon_J113 N a0 S = some out) : zw p l e R s m args below meth c (vx_MQ below (zm_Qc zk_E V (zo_i out)) (zm_XC zk_E V zo_x) args s mc ms (fun q => V.2.2.2.1 ≤ q)) 7 zk_E V mc ms 113 [(0, .ref a0)] [] S rc rs := by
  unfold zf_X9_reckon_J113 at h
  refine zw_aload_n hX dX9_reckon_113 rfl ?_
  refine zw_iconst (v := (2 : Int32)) hX dX9_reckon_114 (by decide) ?_
  obtain ⟨_, gi, h⟩ := zb_some h
  obtain ⟨r19, g, h⟩ := zb_some h
  refine zc_Vi (as := [.int (2 : Int32)]) hX gi (zt_X9_fail (d := d - 1) (by omega) g) zl_X9_118 rfl dX9_reckon_115 ⟨rfl, rfl, Nat.le_of_ble_eq_true rfl⟩ ⟨by omega, by omega⟩ ?_
  obtain rfl := Option.some.inj h
  exact zw_iret hX hr dX9_reckon_118 rfl ⟨rfl, rfl⟩
set_option maxHeartbeats 4000000 in
set_option maxRecDepth 100000 in
theorem zt_X9_reckon_J79 {p : Program} {l : Launch} {e : Env} {R : Room} {s : State} {m : MethodId} {args : Array Value} {below : List Frame} {meth : Method} {c : Code} {V : zm_V} {mc ms d rc rs : Nat} (hX : zm_X p R s m args meth c RX9 "reckon" cX9_reckon 7 zk_E V mc ms) (hr : meth.sig.returnType = (some .int)) (hR : R.frames = d ∧ R.locals = 64 * d) (hd : 4 ≤ d) {N : Nat} {a0 : Nat} {i1 : Int32} {i2 : Int32} {i3 : Int32} {i4 : Int32} {i5 : Int32} {out : (Int32 × zm_S)} {S : zm_S} (h : zf_X9_reckon_J79 N a0 i1 i2 i3 i4 i5 S = some out) : zw p l e R s m args below meth c (vx_MQ below (zm_Qc zk_E V (zo_i out)) (zm_XC zk_E V zo_x) args s mc ms (fun q => V.2.2.2.1 ≤ q)) 7 zk_E V mc ms 79 [(0, .ref a0), (1, .int i1), (2, .int i2), (3, .int i3), (4, .int i4), (5, .int i5)] [] S rc rs := by
  unfold zf_X9_reckon_J79 at h
  refine zw_iload_n hX dX9_reckon_79 rfl ?_
  refine zw_if_ne (tgt := 119) hX dX9_reckon_80 (by decide) (fun c80 => ?_) (fun c80 => ?_)
  · rw [if_neg c80] at h
    refine zw_iload_n hX dX9_reckon_119 rfl ?_
    refine zw_bipush (v := (15 : Int32)) hX dX9_reckon_120 (by decide) ?_
    refine zw_icmp_ne (tgt := 155) hX dX9_reckon_122 (by decide) (fun c122 => ?_) (fun c122 => ?_)
    · rw [if_neg c122] at h
      refine zw_aload_n hX dX9_reckon_155 rfl ?_
      refine zw_iload_n hX dX9_reckon_156 rfl ?_
      refine zw_iload hX dX9_reckon_157 rfl ?_
      refine zw_iload hX dX9_reckon_159 rfl ?_
      refine zw_iload_n hX dX9_reckon_161 rfl ?_
      obtain ⟨_, gi, h⟩ := zb_some h
      obtain ⟨r10, g, h⟩ := zb_some h
      refine zc_Vi (as := [.int i1, .int i4, .int i5, .int i2]) hX gi (zt_X9_reckonKept (d := d - 1) (by omega) g) zl_X9_129 rfl dX9_reckon_162 ⟨rfl, rfl, Nat.le_of_ble_eq_true rfl⟩ ⟨by omega, by omega⟩ ?_
      obtain rfl := Option.some.inj h
      exact zw_iret hX hr dX9_reckon_165 rfl ⟨rfl, rfl⟩
    · rw [if_pos c122] at h
      refine zw_iload hX dX9_reckon_125 rfl ?_
      refine zw_if_lt (tgt := 149) hX dX9_reckon_127 (by decide) (fun c127 => ?_) (fun c127 => ?_)
      · rw [if_pos c127] at h
        refine zw_sub (lv' := [(0, .ref a0)]) (List.forall_mem_cons.mpr ⟨rfl, zs_nil⟩) ?_
        exact zt_X9_reckon_J149 hX hr hR hd h
      · rw [if_neg c127] at h
        refine zw_iload hX dX9_reckon_130 rfl ?_
        refine zw_bipush (v := (8 : Int32)) hX dX9_reckon_132 (by decide) ?_
        refine zw_icmp_ge (tgt := 149) hX dX9_reckon_134 (by decide) (fun c134 => ?_) (fun c134 => ?_)
        · rw [if_pos c134] at h
          refine zw_sub (lv' := [(0, .ref a0)]) (List.forall_mem_cons.mpr ⟨rfl, zs_nil⟩) ?_
          exact zt_X9_reckon_J149 hX hr hR hd h
        · rw [if_neg c134] at h
          refine zw_aload_n hX dX9_reckon_137 rfl ?_
          obtain ⟨b13, g, h⟩ := zb_some h
          refine zw_getr hX zl_X9_35 dX9_reckon_138 g ?_
          refine zw_iload_n hX dX9_reckon_141 rfl ?_
          obtain ⟨b14, g, h⟩ := zb_some h
          refine zw_xr hX dX9_reckon_142 g ?_
          refine zw_iload hX dX9_reckon_143 rfl ?_
          obtain ⟨v15, g, h⟩ := zb_some h
          refine zw_xi hX dX9_reckon_145 g ?_
          refine zw_goto (tgt := 154) hX dX9_reckon_146 (by decide) ?_
          obtain rfl := Option.some.inj h
          exact zw_iret hX hr dX9_reckon_154 rfl ⟨rfl, rfl⟩
  · rw [if_pos c80] at h
    refine zw_aload_n hX dX9_reckon_83 rfl ?_
    obtain ⟨b16, g, h⟩ := zb_some h
    refine zw_getr hX zl_X9_15 dX9_reckon_84 g ?_
    refine zw_iload_n hX dX9_reckon_87 rfl ?_
    obtain ⟨v17, g, h⟩ := zb_some h
    refine zw_xi hX dX9_reckon_88 g ?_
    refine zw_istore hX dX9_reckon_89 (by decide) ?_
    refine zw_iload hX dX9_reckon_91 rfl ?_
    refine zw_if_lt (tgt := 113) hX dX9_reckon_93 (by decide) (fun c93 => ?_) (fun c93 => ?_)
    · rw [if_pos c93] at h
      refine zw_sub (lv' := [(0, .ref a0)]) (List.forall_mem_cons.mpr ⟨rfl, zs_nil⟩) ?_
      exact zt_X9_reckon_J113 hX hr hR hd h
    · rw [if_neg c93] at h
      refine zw_iload hX dX9_reckon_96 rfl ?_
      refine zw_bipush (v := (10 : Int32)) hX dX9_reckon_98 (by decide) ?_
      refine zw_icmp_ge (tgt := 113) hX dX9_reckon_100 (by decide) (fun c100 => ?_) (fun c100 => ?_)
      · rw [if_pos c100] at h
        refine zw_sub (lv' := [(0, .ref a0)]) (List.forall_mem_cons.mpr ⟨rfl, zs_nil⟩) ?_
        exact zt_X9_reckon_J113 hX hr hR hd h
      · rw [if_neg c100] at h
        refine zw_aload_n hX dX9_reckon_103 rfl ?_
        obtain ⟨b20, g, h⟩ := zb_some h
        refine zw_getr hX zl_X9_48 dX9_reckon_104 g ?_
        refine zw_iload hX dX9_reckon_107 rfl ?_
        obtain ⟨v21, g, h⟩ := zb_some h
        refine zw_xi hX dX9_reckon_109 g ?_
        refine zw_goto (tgt := 118) hX dX9_reckon_110 (by decide) ?_
        obtain rfl := Option.some.inj h
        exact zw_iret hX hr dX9_reckon_118 rfl ⟨rfl, rfl⟩
set_option maxHeartbeats 4000000 in
set_option maxRecDepth 100000 in
theorem zt_X9_reckon {l : Launch} {V : zm_V} {N : Nat} {S : zm_S} {out : (Int32 × zm_S)} {d : Nat} {a0 : Nat} {i1 : Int32} {i2 : Int32} (hd : 4 ≤ d) (h : zf_X9_reckon N a0 i1 i2 S = some out) : zm_Met l zk_E V yX9_reckon (.code yX9_reckon cX9_reckon 7 (some .int)) d [.ref a0, .int i1, .int i2] S 0 0 (zo_i out) zo_x := by
  refine zm_of (by decide +kernel) (Nat.le_of_ble_eq_true rfl) ?_
  intro p e R s m args below meth c hRR hX hr hxt
  have hR : R.frames = d ∧ R.locals = 64 * d := by rw [hRR]; exact ⟨rfl, rfl⟩
  have hX : zm_X p R s m args meth c RX9 "reckon" cX9_reckon 7 zk_E V 0 0 := hX
  unfold zf_X9_reckon at h
  refine zw_sub (lv' := [(0, .ref a0), (1, .int i1), (2, .int i2)]) (List.forall_mem_cons.mpr ⟨rfl, (List.forall_mem_cons.mpr ⟨rfl, (List.forall_mem_cons.mpr ⟨rfl, zs_nil⟩)⟩)⟩) ?_
  refine zw_aload_n hX dX9_reckon_0 rfl ?_
  obtain ⟨b1, g, h⟩ := zb_some h
  refine zw_getr hX zl_X9_11 dX9_reckon_1 g ?_
  refine zw_iload_n hX dX9_reckon_4 rfl ?_
  obtain ⟨v2, g, h⟩ := zb_some h
  refine zw_xi hX dX9_reckon_5 g ?_
  refine zw_istore_n hX dX9_reckon_6 (by decide) ?_
  refine zw_iload_n hX dX9_reckon_7 rfl ?_
  refine zw_bipush (v := (16 : Int32)) hX dX9_reckon_8 (by decide) ?_
  refine zw_icmp_ne (tgt := 22) hX dX9_reckon_10 (by decide) (fun c10 => ?_) (fun c10 => ?_)
  · rw [if_neg c10] at h
    refine zw_aload_n hX dX9_reckon_22 rfl ?_
    refine zw_iload_n hX dX9_reckon_23 rfl ?_
    obtain ⟨_, gi, h⟩ := zb_some h
    obtain ⟨r4, g, h⟩ := zb_some h
    refine zc_Vi (as := [.int i1]) hX gi (zt_X9_lacksInput (d := d - 1) (by omega) g) zl_X9_115 rfl dX9_reckon_24 ⟨rfl, rfl, Nat.le_of_ble_eq_true rfl⟩ ⟨by omega, by omega⟩ ?_
    refine zw_if_eq (tgt := 36) hX dX9_reckon_27 (by decide) (fun c27 => ?_) (fun c27 => ?_)
    · rw [if_pos c27] at h
      refine zw_aload_n hX dX9_reckon_36 rfl ?_
      refine zw_iload_n hX dX9_reckon_37 rfl ?_
      refine zw_iconst (v := (0 : Int32)) hX dX9_reckon_38 (by decide) ?_
      obtain ⟨_, gi, h⟩ := zb_some h
      obtain ⟨r6, g, h⟩ := zb_some h
      refine zc_Vi (as := [.int i1, .int (0 : Int32)]) hX gi (zt_X9_inputOf (d := d - 1) (by omega) g) zl_X9_122 rfl dX9_reckon_39 ⟨rfl, rfl, Nat.le_of_ble_eq_true rfl⟩ ⟨by omega, by omega⟩ ?_
      refine zw_istore hX dX9_reckon_42 (by decide) ?_
      refine zw_aload_n hX dX9_reckon_44 rfl ?_
      refine zw_iload_n hX dX9_reckon_45 rfl ?_
      refine zw_iconst (v := (1 : Int32)) hX dX9_reckon_46 (by decide) ?_
      obtain ⟨_, gi, h⟩ := zb_some h
      obtain ⟨r8, g, h⟩ := zb_some h
      refine zc_Vi (as := [.int i1, .int (1 : Int32)]) hX gi (zt_X9_inputOf (d := d - 1) (by omega) g) zl_X9_122 rfl dX9_reckon_47 ⟨rfl, rfl, Nat.le_of_ble_eq_true rfl⟩ ⟨by omega, by omega⟩ ?_
      refine zw_istore hX dX9_reckon_50 (by decide) ?_
      refine zw_iload_n hX dX9_reckon_52 rfl ?_
      refine zw_iconst (v := (2 : Int32)) hX dX9_reckon_53 (by decide) ?_
      refine zw_icmp_lt (tgt := 79) hX dX9_reckon_54 (by decide) (fun c54 => ?_) (fun c54 => ?_)
      · rw [if_pos c54] at h
        refine zw_sub (lv' := [(0, .ref a0), (1, .int i1), (2, .int i2), (3, .int v2), (4, .int r6.1), (5, .int r8.1)]) (List.forall_mem_cons.mpr ⟨rfl, (List.forall_mem_cons.mpr ⟨rfl, (List.forall_mem_cons.mpr ⟨rfl, (List.forall_mem_cons.mpr ⟨rfl, (List.forall_mem_cons.mpr ⟨rfl, (List.forall_mem_cons.mpr ⟨rfl, zs_nil⟩)⟩)⟩)⟩)⟩)⟩) ?_
        exact zt_X9_reckon_J79 hX hr hR hd h
      · rw [if_neg c54] at h
        refine zw_iload_n hX dX9_reckon_57 rfl ?_
        refine zw_bipush (v := (14 : Int32)) hX dX9_reckon_58 (by decide) ?_
        refine zw_icmp_gt (tgt := 79) hX dX9_reckon_60 (by decide) (fun c60 => ?_) (fun c60 => ?_)
        · rw [if_pos c60] at h
          refine zw_sub (lv' := [(0, .ref a0), (1, .int i1), (2, .int i2), (3, .int v2), (4, .int r6.1), (5, .int r8.1)]) (List.forall_mem_cons.mpr ⟨rfl, (List.forall_mem_cons.mpr ⟨rfl, (List.forall_mem_cons.mpr ⟨rfl, (List.forall_mem_cons.mpr ⟨rfl, (List.forall_mem_cons.mpr ⟨rfl, (List.forall_mem_cons.mpr ⟨rfl, zs_nil⟩)⟩)⟩)⟩)⟩)⟩) ?_
          exact zt_X9_reckon_J79 hX hr hR hd h
        · rw [if_neg c60] at h
          refine zw_aload_n hX dX9_reckon_63 rfl ?_
          refine zw_iload_n hX dX9_reckon_64 rfl ?_
          refine zw_iload hX dX9_reckon_65 rfl ?_
          refine zw_iload hX dX9_reckon_67 rfl ?_
          refine zw_aload_n hX dX9_reckon_69 rfl ?_
          refine zw_iload_n hX dX9_reckon_70 rfl ?_
          refine zw_iconst (v := (2 : Int32)) hX dX9_reckon_71 (by decide) ?_
          obtain ⟨_, gi, h⟩ := zb_some h
          obtain ⟨r23, g, h⟩ := zb_some h
          refine zc_Vi (as := [.int i1, .int (2 : Int32)]) hX gi (zt_X9_inputOf (d := d - 1) (by omega) g) zl_X9_122 rfl dX9_reckon_72 ⟨rfl, rfl, Nat.le_of_ble_eq_true rfl⟩ ⟨by omega, by omega⟩ ?_
          obtain ⟨_, gi, h⟩ := zb_some h
          obtain ⟨r25, g, h⟩ := zb_some h
          refine zc_Vi (as := [.int v2, .int r6.1, .int r8.1, .int r23.1]) hX gi (zt_X9_reckonPlain (d := d - 1) (by omega) g) zl_X9_125 rfl dX9_reckon_75 ⟨rfl, rfl, Nat.le_of_ble_eq_true rfl⟩ ⟨by omega, by omega⟩ ?_
          obtain rfl := Option.some.inj h
          exact zw_iret hX hr dX9_reckon_78 rfl ⟨rfl, rfl⟩
    · rw [if_neg c27] at h
      refine zw_aload_n hX dX9_reckon_30 rfl ?_
      refine zw_iconst (v := (3 : Int32)) hX dX9_reckon_31 (by decide) ?_
      obtain ⟨_, gi, h⟩ := zb_some h
      obtain ⟨r27, g, h⟩ := zb_some h
      refine zc_Vi (as := [.int (3 : Int32)]) hX gi (zt_X9_fail (d := d - 1) (by omega) g) zl_X9_118 rfl dX9_reckon_32 ⟨rfl, rfl, Nat.le_of_ble_eq_true rfl⟩ ⟨by omega, by omega⟩ ?_
      obtain rfl := Option.some.inj h
      exact zw_iret hX hr dX9_reckon_35 rfl ⟨rfl, rfl⟩
  · rw [if_pos c10] at h
    refine zw_aload_n hX dX9_reckon_13 rfl ?_
    obtain ⟨b28, g, h⟩ := zb_some h
    refine zw_getr hX zl_X9_32 dX9_reckon_14 g ?_
    refine zw_iload_n hX dX9_reckon_17 rfl ?_
    obtain ⟨b29, g, h⟩ := zb_some h
    refine zw_xr hX dX9_reckon_18 g ?_
    refine zw_iconst (v := (0 : Int32)) hX dX9_reckon_19 (by decide) ?_
    obtain ⟨v30, g, h⟩ := zb_some h
    refine zw_xi hX dX9_reckon_20 g ?_
    obtain rfl := Option.some.inj h
    exact zw_iret hX hr dX9_reckon_21 rfl ⟨rfl, rfl⟩
set_option maxHeartbeats 4000000 in
set_option maxRecDepth 100000 in
theorem zt_X9_countFailure {l : Launch} {V : zm_V} {N : Nat} {S : zm_S} {out : (Unit × zm_S)} {d : Nat} {a0 : Nat} {i1 : Int32} (hd : 1 ≤ d) (h : zf_X9_countFailure N a0 i1 S = some out) : zm_Met l zk_E V yX9_countFailure (.code yX9_countFailure cX9_countFailure 2 none) d [.ref a0, .int i1] S 0 0 (zo_v out) zo_x := by
  refine zm_of (by decide +kernel) (Nat.le_of_ble_eq_true rfl) ?_
  intro p e R s m args below meth c hRR hX hr hxt
  have hR : R.frames = d ∧ R.locals = 64 * d := by rw [hRR]; exact ⟨rfl, rfl⟩
  have hX : zm_X p R s m args meth c RX9 "countFailure" cX9_countFailure 2 zk_E V 0 0 := hX
  unfold zf_X9_countFailure at h
  refine zw_sub (lv' := [(0, .ref a0), (1, .int i1)]) (List.forall_mem_cons.mpr ⟨rfl, (List.forall_mem_cons.mpr ⟨rfl, zs_nil⟩)⟩) ?_
  refine zw_aload_n hX dX9_countFailure_0 rfl ?_
  obtain ⟨b1, g, h⟩ := zb_some h
  refine zw_getr hX zl_X9_57 dX9_countFailure_1 g ?_
  refine zw_iload_n hX dX9_countFailure_4 rfl ?_
  refine zw_dup2 hX dX9_countFailure_5 rfl rfl ?_
  obtain ⟨v2, g, h⟩ := zb_some h
  refine zw_xi hX dX9_countFailure_6 g ?_
  refine zw_iconst (v := (1 : Int32)) hX dX9_countFailure_7 (by decide) ?_
  refine zw_iadd hX dX9_countFailure_8 ?_
  obtain ⟨S3, g, h⟩ := zb_some h
  refine zw_si hX dX9_countFailure_9 g ?_
  refine zw_aload_n hX dX9_countFailure_10 rfl ?_
  obtain ⟨b4, g, h⟩ := zb_some h
  refine zw_getr hX zl_X9_57 dX9_countFailure_11 g ?_
  refine zw_iconst (v := (0 : Int32)) hX dX9_countFailure_14 (by decide) ?_
  refine zw_dup2 hX dX9_countFailure_15 rfl rfl ?_
  obtain ⟨v5, g, h⟩ := zb_some h
  refine zw_xi hX dX9_countFailure_16 g ?_
  refine zw_iconst (v := (1 : Int32)) hX dX9_countFailure_17 (by decide) ?_
  refine zw_iadd hX dX9_countFailure_18 ?_
  obtain ⟨S6, g, h⟩ := zb_some h
  refine zw_si hX dX9_countFailure_19 g ?_
  obtain rfl := Option.some.inj h
  exact zw_vret hX hr dX9_countFailure_20 ⟨rfl, rfl⟩
set_option maxHeartbeats 4000000 in
set_option maxRecDepth 100000 in
theorem zt_X9_reckonBlock_J34 {p : Program} {l : Launch} {e : Env} {R : Room} {s : State} {m : MethodId} {args : Array Value} {below : List Frame} {meth : Method} {c : Code} {V : zm_V} {mc ms d rc rs : Nat} (hX : zm_X p R s m args meth c RX9 "reckonBlock" cX9_reckonBlock 4 zk_E V mc ms) (hr : meth.sig.returnType = none) (hR : R.frames = d ∧ R.locals = 64 * d) (hd : 5 ≤ d) {N : Nat} {a0 : Nat} {i1 : Int32} {i3 : Int32} {out : (Unit × zm_S)} {S : zm_S} (h : zf_X9_reckonBlock_J34 N a0 i1 i3 S = some out) : zw p l e R s m args below meth c (vx_MQ below (zm_Qc zk_E V (zo_v out)) (zm_XC zk_E V zo_x) args s mc ms (fun q => V.2.2.2.1 ≤ q)) 4 zk_E V mc ms 34 [(0, .ref a0), (1, .int i1), (3, .int i3)] [] S rc rs := by
  unfold zf_X9_reckonBlock_J34 at h
  refine zw_aload_n hX dX9_reckonBlock_34 rfl ?_
  obtain ⟨b5, g, h⟩ := zb_some h
  refine zw_getr hX zl_X9_29 dX9_reckonBlock_35 g ?_
  refine zw_iload_n hX dX9_reckonBlock_38 rfl ?_
  refine zw_aload_n hX dX9_reckonBlock_39 rfl ?_
  obtain ⟨b6, g, h⟩ := zb_some h
  refine zw_getr hX zl_X9_38 dX9_reckonBlock_40 g ?_
  refine zw_iload_n hX dX9_reckonBlock_43 rfl ?_
  obtain ⟨v7, g, h⟩ := zb_some h
  refine zw_xz hX dX9_reckonBlock_44 g ?_
  refine zw_if_eq (tgt := 57) hX dX9_reckonBlock_45 (by decide) (fun c45 => ?_) (fun c45 => ?_)
  · rw [if_pos c45] at h
    refine zw_iload_n hX dX9_reckonBlock_57 rfl ?_
    obtain ⟨S8, g, h⟩ := zb_some h
    refine zw_si hX dX9_reckonBlock_58 g ?_
    obtain rfl := Option.some.inj h
    exact zw_vret hX hr dX9_reckonBlock_59 ⟨rfl, rfl⟩
  · rw [if_neg c45] at h
    refine zw_aload_n hX dX9_reckonBlock_48 rfl ?_
    obtain ⟨b9, g, h⟩ := zb_some h
    refine zw_getr hX zl_X9_42 dX9_reckonBlock_49 g ?_
    refine zw_iload_n hX dX9_reckonBlock_52 rfl ?_
    obtain ⟨v10, g, h⟩ := zb_some h
    refine zw_xi hX dX9_reckonBlock_53 g ?_
    refine zw_goto (tgt := 58) hX dX9_reckonBlock_54 (by decide) ?_
    obtain ⟨S11, g, h⟩ := zb_some h
    refine zw_si hX dX9_reckonBlock_58 g ?_
    obtain rfl := Option.some.inj h
    exact zw_vret hX hr dX9_reckonBlock_59 ⟨rfl, rfl⟩
set_option maxHeartbeats 4000000 in
set_option maxRecDepth 100000 in
theorem zt_X9_reckonBlock {l : Launch} {V : zm_V} {N : Nat} {S : zm_S} {out : (Unit × zm_S)} {d : Nat} {a0 : Nat} {i1 : Int32} {i2 : Int32} (hd : 5 ≤ d) (h : zf_X9_reckonBlock N a0 i1 i2 S = some out) : zm_Met l zk_E V yX9_reckonBlock (.code yX9_reckonBlock cX9_reckonBlock 4 none) d [.ref a0, .int i1, .int i2] S 0 0 (zo_v out) zo_x := by
  refine zm_of (by decide +kernel) (Nat.le_of_ble_eq_true rfl) ?_
  intro p e R s m args below meth c hRR hX hr hxt
  have hR : R.frames = d ∧ R.locals = 64 * d := by rw [hRR]; exact ⟨rfl, rfl⟩
  have hX : zm_X p R s m args meth c RX9 "reckonBlock" cX9_reckonBlock 4 zk_E V 0 0 := hX
  unfold zf_X9_reckonBlock at h
  refine zw_sub (lv' := [(0, .ref a0), (1, .int i1), (2, .int i2)]) (List.forall_mem_cons.mpr ⟨rfl, (List.forall_mem_cons.mpr ⟨rfl, (List.forall_mem_cons.mpr ⟨rfl, zs_nil⟩)⟩)⟩) ?_
  refine zw_aload_n hX dX9_reckonBlock_0 rfl ?_
  refine zw_iconst (v := (0 : Int32)) hX dX9_reckonBlock_1 (by decide) ?_
  obtain ⟨S1, g, h⟩ := zb_some h
  refine zw_putv hX zl_X9_105 zt_9_19 dX9_reckonBlock_2 rfl rfl g ?_
  refine zw_aload_n hX dX9_reckonBlock_5 rfl ?_
  refine zw_iload_n hX dX9_reckonBlock_6 rfl ?_
  refine zw_iload_n hX dX9_reckonBlock_7 rfl ?_
  obtain ⟨_, gi, h⟩ := zb_some h
  obtain ⟨r3, g, h⟩ := zb_some h
  refine zc_Vi (as := [.int i1, .int i2]) hX gi (zt_X9_reckon (d := d - 1) (by omega) g) zl_X9_108 rfl dX9_reckonBlock_8 ⟨rfl, rfl, Nat.le_of_ble_eq_true rfl⟩ ⟨by omega, by omega⟩ ?_
  refine zw_istore_n hX dX9_reckonBlock_11 (by decide) ?_
  refine zw_aload_n hX dX9_reckonBlock_12 rfl ?_
  obtain ⟨v4, g, h⟩ := zb_some h
  refine zw_geti hX zl_X9_105 dX9_reckonBlock_13 g ?_
  refine zw_if_eq (tgt := 34) hX dX9_reckonBlock_16 (by decide) (fun c16 => ?_) (fun c16 => ?_)
  · rw [if_pos c16] at h
    refine zw_sub (lv' := [(0, .ref a0), (1, .int i1), (3, .int r3.1)]) (List.forall_mem_cons.mpr ⟨rfl, (List.forall_mem_cons.mpr ⟨rfl, (List.forall_mem_cons.mpr ⟨rfl, zs_nil⟩)⟩)⟩) ?_
    exact zt_X9_reckonBlock_J34 hX hr hR hd h
  · rw [if_neg c16] at h
    refine zw_aload_n hX dX9_reckonBlock_19 rfl ?_
    refine zw_aload_n hX dX9_reckonBlock_20 rfl ?_
    obtain ⟨v12, g, h⟩ := zb_some h
    refine zw_geti hX zl_X9_105 dX9_reckonBlock_21 g ?_
    obtain ⟨_, gi, h⟩ := zb_some h
    obtain ⟨r14, g, h⟩ := zb_some h
    refine zc_Vv (as := [.int v12]) hX gi (zt_X9_countFailure (d := d - 1) (by omega) g) zl_X9_112 rfl dX9_reckonBlock_24 ⟨rfl, rfl, Nat.le_of_ble_eq_true rfl⟩ ⟨by omega, by omega⟩ ?_
    refine zw_aload_n hX dX9_reckonBlock_27 rfl ?_
    obtain ⟨b15, g, h⟩ := zb_some h
    refine zw_getr hX zl_X9_21 dX9_reckonBlock_28 g ?_
    refine zw_iload_n hX dX9_reckonBlock_31 rfl ?_
    obtain ⟨v16, g, h⟩ := zb_some h
    refine zw_xi hX dX9_reckonBlock_32 g ?_
    refine zw_istore_n hX dX9_reckonBlock_33 (by decide) ?_
    refine zw_sub (lv' := [(0, .ref a0), (1, .int i1), (3, .int v16)]) (List.forall_mem_cons.mpr ⟨rfl, (List.forall_mem_cons.mpr ⟨rfl, (List.forall_mem_cons.mpr ⟨rfl, zs_nil⟩)⟩)⟩) ?_
    exact zt_X9_reckonBlock_J34 hX hr hR hd h
set_option maxHeartbeats 4000000 in
set_option maxRecDepth 100000 in
theorem zt_X9_takeDelayed {l : Launch} {V : zm_V} {N : Nat} {S : zm_S} {out : (Unit × zm_S)} {d : Nat} {a0 : Nat} {i1 : Int32} (hd : 2 ≤ d) (h : zf_X9_takeDelayed N a0 i1 S = some out) : zm_Met l zk_E V yX9_takeDelayed (.code yX9_takeDelayed cX9_takeDelayed 3 none) d [.ref a0, .int i1] S 0 0 (zo_v out) zo_x := by
  refine zm_of (by decide +kernel) (Nat.le_of_ble_eq_true rfl) ?_
  intro p e R s m args below meth c hRR hX hr hxt
  have hR : R.frames = d ∧ R.locals = 64 * d := by rw [hRR]; exact ⟨rfl, rfl⟩
  have hX : zm_X p R s m args meth c RX9 "takeDelayed" cX9_takeDelayed 3 zk_E V 0 0 := hX
  unfold zf_X9_takeDelayed at h
  refine zw_sub (lv' := [(0, .ref a0), (1, .int i1)]) (List.forall_mem_cons.mpr ⟨rfl, (List.forall_mem_cons.mpr ⟨rfl, zs_nil⟩)⟩) ?_
  refine zw_aload_n hX dX9_takeDelayed_0 rfl ?_
  obtain ⟨b1, g, h⟩ := zb_some h
  refine zw_getr hX zl_X9_26 dX9_takeDelayed_1 g ?_
  refine zw_iload_n hX dX9_takeDelayed_4 rfl ?_
  obtain ⟨b2, g, h⟩ := zb_some h
  refine zw_xr hX dX9_takeDelayed_5 g ?_
  refine zw_iconst (v := (0 : Int32)) hX dX9_takeDelayed_6 (by decide) ?_
  obtain ⟨v3, g, h⟩ := zb_some h
  refine zw_xi hX dX9_takeDelayed_7 g ?_
  refine zw_istore_n hX dX9_takeDelayed_8 (by decide) ?_
  refine zw_iload_n hX dX9_takeDelayed_9 rfl ?_
  refine zw_iconst (v := (-1 : Int32)) hX dX9_takeDelayed_10 (by decide) ?_
  refine zw_icmp_eq (tgt := 29) hX dX9_takeDelayed_11 (by decide) (fun c11 => ?_) (fun c11 => ?_)
  · rw [if_pos c11] at h
    refine zw_aload_n hX dX9_takeDelayed_29 rfl ?_
    refine zw_iconst (v := (3 : Int32)) hX dX9_takeDelayed_30 (by decide) ?_
    obtain ⟨_, gi, h⟩ := zb_some h
    obtain ⟨r5, g, h⟩ := zb_some h
    refine zc_Vv (as := [.int (3 : Int32)]) hX gi (zt_X9_countFailure (d := d - 1) (by omega) g) zl_X9_112 rfl dX9_takeDelayed_31 ⟨rfl, rfl, Nat.le_of_ble_eq_true rfl⟩ ⟨by omega, by omega⟩ ?_
    refine zw_aload_n hX dX9_takeDelayed_34 rfl ?_
    obtain ⟨b6, g, h⟩ := zb_some h
    refine zw_getr hX zl_X9_38 dX9_takeDelayed_35 g ?_
    refine zw_iload_n hX dX9_takeDelayed_38 rfl ?_
    obtain ⟨v7, g, h⟩ := zb_some h
    refine zw_xz hX dX9_takeDelayed_39 g ?_
    refine zw_if_ne (tgt := 55) hX dX9_takeDelayed_40 (by decide) (fun c40 => ?_) (fun c40 => ?_)
    · rw [if_neg c40] at h
      obtain rfl := Option.some.inj h
      exact zw_vret hX hr dX9_takeDelayed_55 ⟨rfl, rfl⟩
    · rw [if_pos c40] at h
      refine zw_aload_n hX dX9_takeDelayed_43 rfl ?_
      obtain ⟨b8, g, h⟩ := zb_some h
      refine zw_getr hX zl_X9_29 dX9_takeDelayed_44 g ?_
      refine zw_iload_n hX dX9_takeDelayed_47 rfl ?_
      refine zw_aload_n hX dX9_takeDelayed_48 rfl ?_
      obtain ⟨b9, g, h⟩ := zb_some h
      refine zw_getr hX zl_X9_21 dX9_takeDelayed_49 g ?_
      refine zw_iload_n hX dX9_takeDelayed_52 rfl ?_
      obtain ⟨v10, g, h⟩ := zb_some h
      refine zw_xi hX dX9_takeDelayed_53 g ?_
      obtain ⟨S11, g, h⟩ := zb_some h
      refine zw_si hX dX9_takeDelayed_54 g ?_
      obtain rfl := Option.some.inj h
      exact zw_vret hX hr dX9_takeDelayed_55 ⟨rfl, rfl⟩
  · rw [if_neg c11] at h
    refine zw_aload_n hX dX9_takeDelayed_14 rfl ?_
    obtain ⟨b12, g, h⟩ := zb_some h
    refine zw_getr hX zl_X9_32 dX9_takeDelayed_15 g ?_
    refine zw_iload_n hX dX9_takeDelayed_18 rfl ?_
    obtain ⟨b13, g, h⟩ := zb_some h
    refine zw_xr hX dX9_takeDelayed_19 g ?_
    refine zw_iconst (v := (0 : Int32)) hX dX9_takeDelayed_20 (by decide) ?_
    refine zw_aload_n hX dX9_takeDelayed_21 rfl ?_
    obtain ⟨b14, g, h⟩ := zb_some h
    refine zw_getr hX zl_X9_29 dX9_takeDelayed_22 g ?_
    refine zw_iload_n hX dX9_takeDelayed_25 rfl ?_
    obtain ⟨v15, g, h⟩ := zb_some h
    refine zw_xi hX dX9_takeDelayed_26 g ?_
    obtain ⟨S16, g, h⟩ := zb_some h
    refine zw_si hX dX9_takeDelayed_27 g ?_
    obtain rfl := Option.some.inj h
    exact zw_vret hX hr dX9_takeDelayed_28 ⟨rfl, rfl⟩
set_option maxHeartbeats 4000000 in
set_option maxRecDepth 100000 in
theorem zt_X9_reckonBlocks_L25 {p : Program} {l : Launch} {e : Env} {R : Room} {s : State} {m : MethodId} {args : Array Value} {below : List Frame} {meth : Method} {c : Code} {V : zm_V} {mc ms d rc rs : Nat} (hX : zm_X p R s m args meth c RX9 "reckonBlocks" cX9_reckonBlocks 3 zk_E V mc ms) (hr : meth.sig.returnType = none) (hR : R.frames = d ∧ R.locals = 64 * d) (hd : 6 ≤ d) {N : Nat} {res : (Unit × zm_S) ⊕ ((Unit) × zm_S)} {out : (Unit × zm_S)} (a0 : Nat) (i1 : Int32) (hf : ∀ o, res = .inl o → o = out) (hk : ∀ (S' : zm_S), res = .inr ((), S') → zw p l e R s m args below meth c (vx_MQ below (zm_Qc zk_E V (zo_v out)) (zm_XC zk_E V zo_x) args s mc ms (fun q => V.2.2.2.1 ≤ q)) 3 zk_E V mc ms 50 [(0, .ref a0)] [] S' rc rs) : ∀ (n : Nat) (i2 : Int32) (S : zm_S), zf_X9_reckonBlocks_L25 N n a0 i1 i2 S = some res → zw p l e R s m args below meth c (vx_MQ below (zm_Qc zk_E V (zo_v out)) (zm_XC zk_E V zo_x) args s mc ms (fun q => V.2.2.2.1 ≤ q)) 3 zk_E V mc ms 25 [(0, .ref a0), (1, .int i1), (2, .int i2)] [] S rc rs := by
  intro n
  induction n with
  | zero => intro i2 S h; cases h
  | succ n ih =>
    intro i2 S h
    rw [zf_X9_reckonBlocks_L25] at h
    refine zw_iload_n hX dX9_reckonBlocks_25 rfl ?_
    refine zw_aload_n hX dX9_reckonBlocks_26 rfl ?_
    obtain ⟨v6, g, h⟩ := zb_some h
    refine zw_geti hX zl_X9_60 dX9_reckonBlocks_27 g ?_
    refine zw_icmp_ge (tgt := 50) hX dX9_reckonBlocks_30 (by decide) (fun c30 => ?_) (fun c30 => ?_)
    · rw [if_pos c30] at h
      refine zw_sub (lv' := [(0, .ref a0)]) (List.forall_mem_cons.mpr ⟨rfl, zs_nil⟩) ?_
      exact hk  _ (Option.some.inj h).symm
    · rw [if_neg c30] at h
      refine zw_aload_n hX dX9_reckonBlocks_33 rfl ?_
      refine zw_aload_n hX dX9_reckonBlocks_34 rfl ?_
      obtain ⟨b7, g, h⟩ := zb_some h
      refine zw_getr hX zl_X9_51 dX9_reckonBlocks_35 g ?_
      refine zw_iload_n hX dX9_reckonBlocks_38 rfl ?_
      obtain ⟨v8, g, h⟩ := zb_some h
      refine zw_xi hX dX9_reckonBlocks_39 g ?_
      refine zw_iload_n hX dX9_reckonBlocks_40 rfl ?_
      obtain ⟨_, gi, h⟩ := zb_some h
      obtain ⟨r10, g, h⟩ := zb_some h
      refine zc_Vv (as := [.int v8, .int i1]) hX gi (zt_X9_reckonBlock (d := d - 1) (by omega) g) zl_X9_98 rfl dX9_reckonBlocks_41 ⟨rfl, rfl, Nat.le_of_ble_eq_true rfl⟩ ⟨by omega, by omega⟩ ?_
      refine zw_iinc (v := (i2 + (1 : Int32))) hX dX9_reckonBlocks_44 rfl rfl (by decide) ?_
      refine zw_goto (tgt := 25) hX dX9_reckonBlocks_47 (by decide) ?_
      refine zw_sub (lv' := [(0, .ref a0), (1, .int i1), (2, .int (i2 + (1 : Int32)))]) (List.forall_mem_cons.mpr ⟨rfl, (List.forall_mem_cons.mpr ⟨rfl, (List.forall_mem_cons.mpr ⟨rfl, zs_nil⟩)⟩)⟩) ?_
      exact ih _ _ h
set_option maxHeartbeats 4000000 in
set_option maxRecDepth 100000 in
theorem zt_X9_reckonBlocks_L52 {p : Program} {l : Launch} {e : Env} {R : Room} {s : State} {m : MethodId} {args : Array Value} {below : List Frame} {meth : Method} {c : Code} {V : zm_V} {mc ms d rc rs : Nat} (hX : zm_X p R s m args meth c RX9 "reckonBlocks" cX9_reckonBlocks 3 zk_E V mc ms) (hr : meth.sig.returnType = none) (hR : R.frames = d ∧ R.locals = 64 * d) (hd : 6 ≤ d) {N : Nat} {res : (Unit × zm_S) ⊕ ((Unit) × zm_S)} {out : (Unit × zm_S)} (a0 : Nat) (hf : ∀ o, res = .inl o → o = out) (hk : ∀ (S' : zm_S), res = .inr ((), S') → zw p l e R s m args below meth c (vx_MQ below (zm_Qc zk_E V (zo_v out)) (zm_XC zk_E V zo_x) args s mc ms (fun q => V.2.2.2.1 ≤ q)) 3 zk_E V mc ms 82 [(0, .ref a0)] [] S' rc rs) : ∀ (n : Nat) (i2 : Int32) (S : zm_S), zf_X9_reckonBlocks_L52 N n a0 i2 S = some res → zw p l e R s m args below meth c (vx_MQ below (zm_Qc zk_E V (zo_v out)) (zm_XC zk_E V zo_x) args s mc ms (fun q => V.2.2.2.1 ≤ q)) 3 zk_E V mc ms 52 [(0, .ref a0), (2, .int i2)] [] S rc rs := by
  intro n
  induction n with
  | zero => intro i2 S h; cases h
  | succ n ih =>
    intro i2 S h
    rw [zf_X9_reckonBlocks_L52] at h
    refine zw_iload_n hX dX9_reckonBlocks_52 rfl ?_
    refine zw_aload_n hX dX9_reckonBlocks_53 rfl ?_
    obtain ⟨v12, g, h⟩ := zb_some h
    refine zw_geti hX zl_X9_60 dX9_reckonBlocks_54 g ?_
    refine zw_icmp_ge (tgt := 82) hX dX9_reckonBlocks_57 (by decide) (fun c57 => ?_) (fun c57 => ?_)
    · rw [if_pos c57] at h
      refine zw_sub (lv' := [(0, .ref a0)]) (List.forall_mem_cons.mpr ⟨rfl, zs_nil⟩) ?_
      exact hk  _ (Option.some.inj h).symm
    · rw [if_neg c57] at h
      refine zw_aload_n hX dX9_reckonBlocks_60 rfl ?_
      obtain ⟨b13, g, h⟩ := zb_some h
      refine zw_getr hX zl_X9_11 dX9_reckonBlocks_61 g ?_
      refine zw_iload_n hX dX9_reckonBlocks_64 rfl ?_
      obtain ⟨v14, g, h⟩ := zb_some h
      refine zw_xi hX dX9_reckonBlocks_65 g ?_
      refine zw_bipush (v := (16 : Int32)) hX dX9_reckonBlocks_66 (by decide) ?_
      refine zw_icmp_ne (tgt := 76) hX dX9_reckonBlocks_68 (by decide) (fun c68 => ?_) (fun c68 => ?_)
      · rw [if_neg c68] at h
        refine zw_iinc (v := (i2 + (1 : Int32))) hX dX9_reckonBlocks_76 rfl rfl (by decide) ?_
        refine zw_goto (tgt := 52) hX dX9_reckonBlocks_79 (by decide) ?_
        refine zw_sub (lv' := [(0, .ref a0), (2, .int (i2 + (1 : Int32)))]) (List.forall_mem_cons.mpr ⟨rfl, (List.forall_mem_cons.mpr ⟨rfl, zs_nil⟩)⟩) ?_
        exact ih _ _ h
      · rw [if_pos c68] at h
        refine zw_aload_n hX dX9_reckonBlocks_71 rfl ?_
        refine zw_iload_n hX dX9_reckonBlocks_72 rfl ?_
        obtain ⟨_, gi, h⟩ := zb_some h
        obtain ⟨r16, g, h⟩ := zb_some h
        refine zc_Vv (as := [.int i2]) hX gi (zt_X9_takeDelayed (d := d - 1) (by omega) g) zl_X9_101 rfl dX9_reckonBlocks_73 ⟨rfl, rfl, Nat.le_of_ble_eq_true rfl⟩ ⟨by omega, by omega⟩ ?_
        refine zw_iinc (v := (i2 + (1 : Int32))) hX dX9_reckonBlocks_76 rfl rfl (by decide) ?_
        refine zw_goto (tgt := 52) hX dX9_reckonBlocks_79 (by decide) ?_
        refine zw_sub (lv' := [(0, .ref a0), (2, .int (i2 + (1 : Int32)))]) (List.forall_mem_cons.mpr ⟨rfl, (List.forall_mem_cons.mpr ⟨rfl, zs_nil⟩)⟩) ?_
        exact ih _ _ h
set_option maxHeartbeats 4000000 in
set_option maxRecDepth 100000 in
theorem zt_X9_reckonBlocks {l : Launch} {V : zm_V} {N : Nat} {S : zm_S} {out : (Unit × zm_S)} {d : Nat} {a0 : Nat} {i1 : Int32} (hd : 6 ≤ d) (h : zf_X9_reckonBlocks N a0 i1 S = some out) : zm_Met l zk_E V yX9_reckonBlocks (.code yX9_reckonBlocks cX9_reckonBlocks 3 none) d [.ref a0, .int i1] S 0 0 (zo_v out) zo_x := by
  refine zm_of (by decide +kernel) (Nat.le_of_ble_eq_true rfl) ?_
  intro p e R s m args below meth c hRR hX hr hxt
  have hR : R.frames = d ∧ R.locals = 64 * d := by rw [hRR]; exact ⟨rfl, rfl⟩
  have hX : zm_X p R s m args meth c RX9 "reckonBlocks" cX9_reckonBlocks 3 zk_E V 0 0 := hX
  unfold zf_X9_reckonBlocks at h
  refine zw_sub (lv' := [(0, .ref a0), (1, .int i1)]) (List.forall_mem_cons.mpr ⟨rfl, (List.forall_mem_cons.mpr ⟨rfl, zs_nil⟩)⟩) ?_
  refine zw_aload_n hX dX9_reckonBlocks_0 rfl ?_
  obtain ⟨_, gi, h⟩ := zb_some h
  obtain ⟨r2, g, h⟩ := zb_some h
  refine zc_Vv (as := []) hX gi (zt_X9_sortBlocks (d := d - 1) (by omega) g) zl_X9_74 rfl dX9_reckonBlocks_1 ⟨rfl, rfl, Nat.le_of_ble_eq_true rfl⟩ ⟨by omega, by omega⟩ ?_
  refine zw_aload_n hX dX9_reckonBlocks_4 rfl ?_
  obtain ⟨v3, g, h⟩ := zb_some h
  refine zw_geti hX zl_X9_95 dX9_reckonBlocks_5 g ?_
  refine zw_if_ne (tgt := 22) hX dX9_reckonBlocks_8 (by decide) (fun c8 => ?_) (fun c8 => ?_)
  · rw [if_neg c8] at h
    obtain rfl := Option.some.inj h
    exact zw_vret hX hr dX9_reckonBlocks_22 ⟨rfl, rfl⟩
  · rw [if_pos c8] at h
    refine zw_aload_n hX dX9_reckonBlocks_11 rfl ?_
    obtain ⟨v4, g, h⟩ := zb_some h
    refine zw_geti hX zl_X9_77 dX9_reckonBlocks_12 g ?_
    refine zw_aload_n hX dX9_reckonBlocks_15 rfl ?_
    obtain ⟨v5, g, h⟩ := zb_some h
    refine zw_geti hX zl_X9_60 dX9_reckonBlocks_16 g ?_
    refine zw_icmp_ge (tgt := 23) hX dX9_reckonBlocks_19 (by decide) (fun c19 => ?_) (fun c19 => ?_)
    · rw [if_pos c19] at h
      refine zw_iconst (v := (0 : Int32)) hX dX9_reckonBlocks_23 (by decide) ?_
      refine zw_istore_n hX dX9_reckonBlocks_24 (by decide) ?_
      obtain ⟨r, g, h⟩ := zb_some h
      refine zw_sub (lv' := [(0, .ref a0), (1, .int i1), (2, .int (0 : Int32))]) (List.forall_mem_cons.mpr ⟨rfl, (List.forall_mem_cons.mpr ⟨rfl, (List.forall_mem_cons.mpr ⟨rfl, zs_nil⟩)⟩)⟩) ?_
      refine zt_X9_reckonBlocks_L25 hX hr hR hd (res := r) (out := out) a0 i1 ?_ ?_ N _ _ g
      · intro o ho
        subst ho
        exact Option.some.inj h
      · intro  S11 hx
        subst hx
        try dsimp only at h
        refine zw_iconst (v := (0 : Int32)) hX dX9_reckonBlocks_50 (by decide) ?_
        refine zw_istore_n hX dX9_reckonBlocks_51 (by decide) ?_
        obtain ⟨r, g, h⟩ := zb_some h
        refine zw_sub (lv' := [(0, .ref a0), (2, .int (0 : Int32))]) (List.forall_mem_cons.mpr ⟨rfl, (List.forall_mem_cons.mpr ⟨rfl, zs_nil⟩)⟩) ?_
        refine zt_X9_reckonBlocks_L52 hX hr hR hd (res := r) (out := out) a0 ?_ ?_ N _ _ g
        · intro o ho
          subst ho
          exact Option.some.inj h
        · intro  S17 hx
          subst hx
          try dsimp only at h
          refine zw_aload_n hX dX9_reckonBlocks_82 rfl ?_
          refine zw_aload_n hX dX9_reckonBlocks_83 rfl ?_
          obtain ⟨b18, g, h⟩ := zb_some h
          refine zw_getr hX zl_X9_57 dX9_reckonBlocks_84 g ?_
          refine zw_iconst (v := (0 : Int32)) hX dX9_reckonBlocks_87 (by decide) ?_
          obtain ⟨v19, g, h⟩ := zb_some h
          refine zw_xi hX dX9_reckonBlocks_88 g ?_
          refine zw_sipush (v := (20000 : Int32)) hX dX9_reckonBlocks_89 (by decide) ?_
          refine zw_icmp_lt (tgt := 99) hX dX9_reckonBlocks_92 (by decide) (fun c92 => ?_) (fun c92 => ?_)
          · rw [if_pos c92] at h
            refine zw_iconst (v := (0 : Int32)) hX dX9_reckonBlocks_99 (by decide) ?_
            obtain ⟨S20, g, h⟩ := zb_some h
            refine zw_putv hX zl_X9_95 zt_9_18 dX9_reckonBlocks_100 rfl (by decide) g ?_
            obtain rfl := Option.some.inj h
            exact zw_vret hX hr dX9_reckonBlocks_103 ⟨rfl, rfl⟩
          · rw [if_neg c92] at h
            refine zw_iconst (v := (1 : Int32)) hX dX9_reckonBlocks_95 (by decide) ?_
            refine zw_goto (tgt := 100) hX dX9_reckonBlocks_96 (by decide) ?_
            obtain ⟨S21, g, h⟩ := zb_some h
            refine zw_putv hX zl_X9_95 zt_9_18 dX9_reckonBlocks_100 rfl (by decide) g ?_
            obtain rfl := Option.some.inj h
            exact zw_vret hX hr dX9_reckonBlocks_103 ⟨rfl, rfl⟩
    · rw [if_neg c19] at h
      obtain rfl := Option.some.inj h
      exact zw_vret hX hr dX9_reckonBlocks_22 ⟨rfl, rfl⟩
set_option maxHeartbeats 4000000 in
set_option maxRecDepth 100000 in
theorem zt_X10_init {l : Launch} {V : zm_V} {N : Nat} {S : zm_S} {out : (Unit × zm_S)} {d : Nat} {a0 : Nat} {a1 : Nat} {a2 : Nat} (hd : 2 ≤ d) (h : zf_X10_init N a0 a1 a2 S = some out) : zm_Met l zk_E V yX10_init (.code yX10_init cX10_init 3 none) d [.ref a0, .ref a1, .ref a2] S 67 2308 (zo_v out) zo_x := by
  refine zm_of (by decide +kernel) (Nat.le_of_ble_eq_true rfl) ?_
  intro p e R s m args below meth c hRR hX hr hxt
  have hR : R.frames = d ∧ R.locals = 64 * d := by rw [hRR]; exact ⟨rfl, rfl⟩
  have hX : zm_X p R s m args meth c RX10 "<init>" cX10_init 3 zk_E V 67 2308 := hX
  unfold zf_X10_init at h
  refine zw_sub (lv' := [(0, .ref a0), (1, .ref a1), (2, .ref a2)]) (List.forall_mem_cons.mpr ⟨rfl, (List.forall_mem_cons.mpr ⟨rfl, (List.forall_mem_cons.mpr ⟨rfl, zs_nil⟩)⟩)⟩) ?_
  refine zw_aload_n hX dX10_init_0 rfl ?_
  refine zw_objInit hX zl_X10_3.1 zl_X10_3.2.1 zl_X10_3.2.2 dX10_init_1 (by omega) (by show 0 + 12 ≤ R.locals; omega) ?_
  refine zw_aload_n hX dX10_init_4 rfl ?_
  refine zw_sipush (v := (576 : Int32)) hX dX10_init_5 (by decide) ?_
  obtain ⟨S1, g, h⟩ := zb_some h
  refine zw_nb (b := 576) hX zk_ab dX10_init_8 (by omega) (by omega) (by decide) g ?_
  obtain ⟨S2, g, h⟩ := zb_some h
  refine zw_putvF hX zl_X10_11 zt_10_2 dX10_init_10 rfl rfl g ?_
  refine zw_aload_n hX dX10_init_13 rfl ?_
  refine zw_bipush (v := (40 : Int32)) hX dX10_init_14 (by decide) ?_
  obtain ⟨S3, g, h⟩ := zb_some h
  refine zw_ni (b := 40) hX zk_ai dX10_init_16 (by omega) (by omega) (by decide) g ?_
  obtain ⟨S4, g, h⟩ := zb_some h
  refine zw_putvF hX zl_X10_17 zt_10_3 dX10_init_18 rfl rfl g ?_
  refine zw_aload_n hX dX10_init_21 rfl ?_
  refine zw_sipush (v := (576 : Int32)) hX dX10_init_22 (by decide) ?_
  obtain ⟨S5, g, h⟩ := zb_some h
  refine zw_ni (b := 576) hX zk_ai dX10_init_25 (by omega) (by omega) (by decide) g ?_
  obtain ⟨S6, g, h⟩ := zb_some h
  refine zw_putvF hX zl_X10_21 zt_10_5 dX10_init_27 rfl rfl g ?_
  refine zw_aload_n hX dX10_init_30 rfl ?_
  refine zw_sipush (v := (576 : Int32)) hX dX10_init_31 (by decide) ?_
  obtain ⟨S7, g, h⟩ := zb_some h
  refine zw_ni (b := 576) hX zk_ai dX10_init_34 (by omega) (by omega) (by decide) g ?_
  obtain ⟨S8, g, h⟩ := zb_some h
  refine zw_putvF hX zl_X10_24 zt_10_6 dX10_init_36 rfl rfl g ?_
  refine zw_aload_n hX dX10_init_39 rfl ?_
  refine zw_bipush (v := (40 : Int32)) hX dX10_init_40 (by decide) ?_
  refine zw_bipush (v := (8 : Int32)) hX dX10_init_42 (by decide) ?_
  obtain ⟨S9, g, h⟩ := zb_some h
  refine zw_mnao (N := 40) (K := 8) (t1 := 4) (t2 := 0) (ty := .int) hX rfl rfl zl_X10_27 (by decide +kernel) (Or.inl rfl) zk_ai dX10_init_44 (fun _ _ => rfl) (by decide) (by decide) rfl rfl (Nat.le_of_ble_eq_true rfl) (Nat.le_of_ble_eq_true rfl) (Nat.le_of_ble_eq_true rfl) rfl rfl (fun _ h => by cases h) (by omega) (by omega) g ?_
  obtain ⟨S10, g, h⟩ := zb_some h
  refine zw_putvF hX zl_X10_29 zt_10_8 dX10_init_48 rfl rfl g ?_
  refine zw_aload_n hX dX10_init_51 rfl ?_
  refine zw_bipush (v := (40 : Int32)) hX dX10_init_52 (by decide) ?_
  obtain ⟨S11, g, h⟩ := zb_some h
  refine zw_ni (b := 40) hX zk_ai dX10_init_54 (by omega) (by omega) (by decide) g ?_
  obtain ⟨S12, g, h⟩ := zb_some h
  refine zw_putvF hX zl_X10_32 zt_10_9 dX10_init_56 rfl rfl g ?_
  refine zw_aload_n hX dX10_init_59 rfl ?_
  refine zw_bipush (v := (20 : Int32)) hX dX10_init_60 (by decide) ?_
  refine zw_bipush (v := (6 : Int32)) hX dX10_init_62 (by decide) ?_
  obtain ⟨S13, g, h⟩ := zb_some h
  refine zw_mnao (N := 20) (K := 6) (t1 := 4) (t2 := 0) (ty := .int) hX rfl rfl zl_X10_27 (by decide +kernel) (Or.inl rfl) zk_ai dX10_init_64 (fun _ _ => rfl) (by decide) (by decide) rfl rfl (Nat.le_of_ble_eq_true rfl) (Nat.le_of_ble_eq_true rfl) (Nat.le_of_ble_eq_true rfl) rfl rfl (fun _ h => by cases h) (by omega) (by omega) g ?_
  obtain ⟨S14, g, h⟩ := zb_some h
  refine zw_putvF hX zl_X10_37 zt_10_10 dX10_init_68 rfl rfl g ?_
  refine zw_aload_n hX dX10_init_71 rfl ?_
  refine zw_aload_n hX dX10_init_72 rfl ?_
  obtain ⟨S15, g, h⟩ := zb_some h
  refine zw_putvF hX zl_X10_40 zt_10_0 dX10_init_73 rfl rfl g ?_
  refine zw_aload_n hX dX10_init_76 rfl ?_
  refine zw_aload_n hX dX10_init_77 rfl ?_
  obtain ⟨S16, g, h⟩ := zb_some h
  refine zw_putvF hX zl_X10_44 zt_10_1 dX10_init_78 rfl rfl g ?_
  obtain rfl := Option.some.inj h
  exact zw_vret hX hr dX10_init_81 ⟨rfl, rfl⟩
set_option maxHeartbeats 4000000 in
set_option maxRecDepth 100000 in
theorem zt_X10_isInSpace {l : Launch} {V : zm_V} {N : Nat} {S : zm_S} {out : (Int32 × zm_S)} {d : Nat} {a0 : Nat} {i1 : Int32} (hd : 1 ≤ d) (h : zf_X10_isInSpace N a0 i1 S = some out) : zm_Met l zk_E V yX10_isInSpace (.code yX10_isInSpace cX10_isInSpace 2 (some .boolean)) d [.ref a0, .int i1] S 0 0 (zo_i out) zo_x := by
  refine zm_of (by decide +kernel) (Nat.le_of_ble_eq_true rfl) ?_
  intro p e R s m args below meth c hRR hX hr hxt
  have hR : R.frames = d ∧ R.locals = 64 * d := by rw [hRR]; exact ⟨rfl, rfl⟩
  have hX : zm_X p R s m args meth c RX10 "isInSpace" cX10_isInSpace 2 zk_E V 0 0 := hX
  unfold zf_X10_isInSpace at h
  refine zw_sub (lv' := [(0, .ref a0), (1, .int i1)]) (List.forall_mem_cons.mpr ⟨rfl, (List.forall_mem_cons.mpr ⟨rfl, zs_nil⟩)⟩) ?_
  refine zw_iload_n hX dX10_isInSpace_0 rfl ?_
  refine zw_if_lt (tgt := 28) hX dX10_isInSpace_1 (by decide) (fun c1 => ?_) (fun c1 => ?_)
  · rw [if_pos c1] at h
    refine zw_iconst (v := (0 : Int32)) hX dX10_isInSpace_28 (by decide) ?_
    obtain rfl := Option.some.inj h
    exact zw_iret hX hr dX10_isInSpace_29 rfl ⟨rfl, rfl⟩
  · rw [if_neg c1] at h
    refine zw_iload_n hX dX10_isInSpace_4 rfl ?_
    refine zw_sipush (v := (576 : Int32)) hX dX10_isInSpace_5 (by decide) ?_
    refine zw_icmp_ge (tgt := 28) hX dX10_isInSpace_8 (by decide) (fun c8 => ?_) (fun c8 => ?_)
    · rw [if_pos c8] at h
      refine zw_iconst (v := (0 : Int32)) hX dX10_isInSpace_28 (by decide) ?_
      obtain rfl := Option.some.inj h
      exact zw_iret hX hr dX10_isInSpace_29 rfl ⟨rfl, rfl⟩
    · rw [if_neg c8] at h
      refine zw_aload_n hX dX10_isInSpace_11 rfl ?_
      obtain ⟨b1, g, h⟩ := zb_some h
      refine zw_getr hX zl_X10_44 dX10_isInSpace_12 g ?_
      obtain ⟨b2, g, h⟩ := zb_some h
      refine zw_getNr hX zl_X10_55 dX10_isInSpace_15 g ?_
      refine zw_iload_n hX dX10_isInSpace_18 rfl ?_
      obtain ⟨v3, g, h⟩ := zb_some h
      refine zw_xi hX dX10_isInSpace_19 g ?_
      refine zw_iconst (v := (-1 : Int32)) hX dX10_isInSpace_20 (by decide) ?_
      refine zw_icmp_eq (tgt := 28) hX dX10_isInSpace_21 (by decide) (fun c21 => ?_) (fun c21 => ?_)
      · rw [if_pos c21] at h
        refine zw_iconst (v := (0 : Int32)) hX dX10_isInSpace_28 (by decide) ?_
        obtain rfl := Option.some.inj h
        exact zw_iret hX hr dX10_isInSpace_29 rfl ⟨rfl, rfl⟩
      · rw [if_neg c21] at h
        refine zw_iconst (v := (1 : Int32)) hX dX10_isInSpace_24 (by decide) ?_
        refine zw_goto (tgt := 29) hX dX10_isInSpace_25 (by decide) ?_
        obtain rfl := Option.some.inj h
        exact zw_iret hX hr dX10_isInSpace_29 rfl ⟨rfl, rfl⟩
set_option maxHeartbeats 4000000 in
set_option maxRecDepth 100000 in
theorem zt_X10_canGo {l : Launch} {V : zm_V} {N : Nat} {S : zm_S} {out : (Int32 × zm_S)} {d : Nat} {a0 : Nat} {i1 : Int32} {i2 : Int32} (hd : 4 ≤ d) (h : zf_X10_canGo N a0 i1 i2 S = some out) : zm_Met l zk_E V yX10_canGo (.code yX10_canGo cX10_canGo 4 (some .boolean)) d [.ref a0, .int i1, .int i2] S 0 0 (zo_i out) zo_x := by
  refine zm_of (by decide +kernel) (Nat.le_of_ble_eq_true rfl) ?_
  intro p e R s m args below meth c hRR hX hr hxt
  have hR : R.frames = d ∧ R.locals = 64 * d := by rw [hRR]; exact ⟨rfl, rfl⟩
  have hX : zm_X p R s m args meth c RX10 "canGo" cX10_canGo 4 zk_E V 0 0 := hX
  unfold zf_X10_canGo at h
  refine zw_sub (lv' := [(0, .ref a0), (1, .int i1), (2, .int i2)]) (List.forall_mem_cons.mpr ⟨rfl, (List.forall_mem_cons.mpr ⟨rfl, (List.forall_mem_cons.mpr ⟨rfl, zs_nil⟩)⟩)⟩) ?_
  refine zw_aload_n hX dX10_canGo_0 rfl ?_
  obtain ⟨b1, g, h⟩ := zb_some h
  refine zw_getr hX zl_X10_44 dX10_canGo_1 g ?_
  refine zw_iload_n hX dX10_canGo_4 rfl ?_
  refine zw_iload_n hX dX10_canGo_5 rfl ?_
  obtain ⟨_, gi, h⟩ := zb_some h
  obtain ⟨r3, g, h⟩ := zb_some h
  refine zc_Vi (as := [.int i1, .int i2]) hX gi (zt_X2_wallBeside (d := d - 1) (by omega) g) zl_X10_58 rfl dX10_canGo_6 ⟨rfl, rfl, Nat.le_of_ble_eq_true rfl⟩ ⟨by omega, by omega⟩ ?_
  refine zw_istore_n hX dX10_canGo_9 (by decide) ?_
  refine zw_iload_n hX dX10_canGo_10 rfl ?_
  refine zw_iconst (v := (-1 : Int32)) hX dX10_canGo_11 (by decide) ?_
  refine zw_icmp_eq (tgt := 36) hX dX10_canGo_12 (by decide) (fun c12 => ?_) (fun c12 => ?_)
  · rw [if_pos c12] at h
    refine zw_iconst (v := (1 : Int32)) hX dX10_canGo_36 (by decide) ?_
    refine zw_goto (tgt := 41) hX dX10_canGo_37 (by decide) ?_
    obtain rfl := Option.some.inj h
    exact zw_iret hX hr dX10_canGo_41 rfl ⟨rfl, rfl⟩
  · rw [if_neg c12] at h
    refine zw_aload_n hX dX10_canGo_15 rfl ?_
    obtain ⟨b4, g, h⟩ := zb_some h
    refine zw_getr hX zl_X10_40 dX10_canGo_16 g ?_
    refine zw_iload_n hX dX10_canGo_19 rfl ?_
    refine zw_aload_n hX dX10_canGo_20 rfl ?_
    obtain ⟨b5, g, h⟩ := zb_some h
    refine zw_getr hX zl_X10_44 dX10_canGo_21 g ?_
    refine zw_iload_n hX dX10_canGo_24 rfl ?_
    refine zw_iload_n hX dX10_canGo_25 rfl ?_
    refine zw_iload_n hX dX10_canGo_26 rfl ?_
    obtain ⟨_, gi, h⟩ := zb_some h
    obtain ⟨r7, g, h⟩ := zb_some h
    refine zc_Vi (as := [.int i1, .int i2, .int r3.1]) hX gi (zt_X2_distanceBeside (d := d - 1) (by omega) g) zl_X10_62 rfl dX10_canGo_27 ⟨rfl, rfl, Nat.le_of_ble_eq_true rfl⟩ ⟨by omega, by omega⟩ ?_
    obtain ⟨_, gi, h⟩ := zb_some h
    obtain ⟨r9, g, h⟩ := zb_some h
    refine zc_Vi (as := [.int r3.1, .int r7.1]) hX gi (zt_X8_hasDoorAt (d := d - 1) (by omega) g) zl_X10_66 rfl dX10_canGo_30 ⟨rfl, rfl, Nat.le_of_ble_eq_true rfl⟩ ⟨by omega, by omega⟩ ?_
    refine zw_if_eq (tgt := 40) hX dX10_canGo_33 (by decide) (fun c33 => ?_) (fun c33 => ?_)
    · rw [if_pos c33] at h
      refine zw_iconst (v := (0 : Int32)) hX dX10_canGo_40 (by decide) ?_
      obtain rfl := Option.some.inj h
      exact zw_iret hX hr dX10_canGo_41 rfl ⟨rfl, rfl⟩
    · rw [if_neg c33] at h
      refine zw_iconst (v := (1 : Int32)) hX dX10_canGo_36 (by decide) ?_
      refine zw_goto (tgt := 41) hX dX10_canGo_37 (by decide) ?_
      obtain rfl := Option.some.inj h
      exact zw_iret hX hr dX10_canGo_41 rfl ⟨rfl, rfl⟩
set_option maxHeartbeats 4000000 in
set_option maxRecDepth 100000 in
theorem zt_X10_isBesideOutside_L2 {p : Program} {l : Launch} {e : Env} {R : Room} {s : State} {m : MethodId} {args : Array Value} {below : List Frame} {meth : Method} {c : Code} {V : zm_V} {mc ms d rc rs : Nat} (hX : zm_X p R s m args meth c RX10 "isBesideOutside" cX10_isBesideOutside 3 zk_E V mc ms) (hr : meth.sig.returnType = (some .boolean)) (hR : R.frames = d ∧ R.locals = 64 * d) (hd : 5 ≤ d) {N : Nat} {res : (Int32 × zm_S) ⊕ ((Unit) × zm_S)} {out : (Int32 × zm_S)} (a0 : Nat) (i1 : Int32) (hf : ∀ o, res = .inl o → o = out) (hk : ∀ (S' : zm_S), res = .inr ((), S') → zw p l e R s m args below meth c (vx_MQ below (zm_Qc zk_E V (zo_i out)) (zm_XC zk_E V zo_x) args s mc ms (fun q => V.2.2.2.1 ≤ q)) 3 zk_E V mc ms 40 [] [] S' rc rs) : ∀ (n : Nat) (i2 : Int32) (S : zm_S), zf_X10_isBesideOutside_L2 N n a0 i1 i2 S = some res → zw p l e R s m args below meth c (vx_MQ below (zm_Qc zk_E V (zo_i out)) (zm_XC zk_E V zo_x) args s mc ms (fun q => V.2.2.2.1 ≤ q)) 3 zk_E V mc ms 2 [(0, .ref a0), (1, .int i1), (2, .int i2)] [] S rc rs := by
  intro n
  induction n with
  | zero => intro i2 S h; cases h
  | succ n ih =>
    intro i2 S h
    rw [zf_X10_isBesideOutside_L2] at h
    refine zw_iload_n hX dX10_isBesideOutside_2 rfl ?_
    refine zw_iconst (v := (4 : Int32)) hX dX10_isBesideOutside_3 (by decide) ?_
    refine zw_icmp_ge (tgt := 40) hX dX10_isBesideOutside_4 (by decide) (fun c4 => ?_) (fun c4 => ?_)
    · rw [if_pos c4] at h
      refine zw_sub (lv' := []) zs_nil ?_
      exact hk  _ (Option.some.inj h).symm
    · rw [if_neg c4] at h
      refine zw_aload_n hX dX10_isBesideOutside_7 rfl ?_
      refine zw_aload_n hX dX10_isBesideOutside_8 rfl ?_
      obtain ⟨b1, g, h⟩ := zb_some h
      refine zw_getr hX zl_X10_44 dX10_isBesideOutside_9 g ?_
      refine zw_iload_n hX dX10_isBesideOutside_12 rfl ?_
      refine zw_iload_n hX dX10_isBesideOutside_13 rfl ?_
      obtain ⟨_, gi, h⟩ := zb_some h
      obtain ⟨r3, g, h⟩ := zb_some h
      refine zc_Vi (as := [.int i1, .int i2]) hX gi (zt_X2_cellBeside (d := d - 1) (by omega) g) zl_X10_77 rfl dX10_isBesideOutside_14 ⟨rfl, rfl, Nat.le_of_ble_eq_true rfl⟩ ⟨by omega, by omega⟩ ?_
      obtain ⟨_, gi, h⟩ := zb_some h
      obtain ⟨r5, g, h⟩ := zb_some h
      refine zc_Vi (as := [.int r3.1]) hX gi (zt_X10_isInSpace (d := d - 1) (by omega) g) zl_X10_70 rfl dX10_isBesideOutside_17 ⟨rfl, rfl, Nat.le_of_ble_eq_true rfl⟩ ⟨by omega, by omega⟩ ?_
      refine zw_if_ne (tgt := 34) hX dX10_isBesideOutside_20 (by decide) (fun c20 => ?_) (fun c20 => ?_)
      · rw [if_neg c20] at h
        refine zw_iinc (v := (i2 + (1 : Int32))) hX dX10_isBesideOutside_34 rfl rfl (by decide) ?_
        refine zw_goto (tgt := 2) hX dX10_isBesideOutside_37 (by decide) ?_
        refine zw_sub (lv' := [(0, .ref a0), (1, .int i1), (2, .int (i2 + (1 : Int32)))]) (List.forall_mem_cons.mpr ⟨rfl, (List.forall_mem_cons.mpr ⟨rfl, (List.forall_mem_cons.mpr ⟨rfl, zs_nil⟩)⟩)⟩) ?_
        exact ih _ _ h
      · rw [if_pos c20] at h
        refine zw_aload_n hX dX10_isBesideOutside_23 rfl ?_
        refine zw_iload_n hX dX10_isBesideOutside_24 rfl ?_
        refine zw_iload_n hX dX10_isBesideOutside_25 rfl ?_
        obtain ⟨_, gi, h⟩ := zb_some h
        obtain ⟨r7, g, h⟩ := zb_some h
        refine zc_Vi (as := [.int i1, .int i2]) hX gi (zt_X10_canGo (d := d - 1) (by omega) g) zl_X10_80 rfl dX10_isBesideOutside_26 ⟨rfl, rfl, Nat.le_of_ble_eq_true rfl⟩ ⟨by omega, by omega⟩ ?_
        refine zw_if_eq (tgt := 34) hX dX10_isBesideOutside_29 (by decide) (fun c29 => ?_) (fun c29 => ?_)
        · rw [if_pos c29] at h
          refine zw_iinc (v := (i2 + (1 : Int32))) hX dX10_isBesideOutside_34 rfl rfl (by decide) ?_
          refine zw_goto (tgt := 2) hX dX10_isBesideOutside_37 (by decide) ?_
          refine zw_sub (lv' := [(0, .ref a0), (1, .int i1), (2, .int (i2 + (1 : Int32)))]) (List.forall_mem_cons.mpr ⟨rfl, (List.forall_mem_cons.mpr ⟨rfl, (List.forall_mem_cons.mpr ⟨rfl, zs_nil⟩)⟩)⟩) ?_
          exact ih _ _ h
        · rw [if_neg c29] at h
          refine zw_iconst (v := (1 : Int32)) hX dX10_isBesideOutside_32 (by decide) ?_
          have hz := hf _ (Option.some.inj h).symm
          subst hz
          exact zw_iret hX hr dX10_isBesideOutside_33 rfl ⟨rfl, rfl⟩
set_option maxHeartbeats 4000000 in
set_option maxRecDepth 100000 in
theorem zt_X10_isBesideOutside {l : Launch} {V : zm_V} {N : Nat} {S : zm_S} {out : (Int32 × zm_S)} {d : Nat} {a0 : Nat} {i1 : Int32} (hd : 5 ≤ d) (h : zf_X10_isBesideOutside N a0 i1 S = some out) : zm_Met l zk_E V yX10_isBesideOutside (.code yX10_isBesideOutside cX10_isBesideOutside 3 (some .boolean)) d [.ref a0, .int i1] S 0 0 (zo_i out) zo_x := by
  refine zm_of (by decide +kernel) (Nat.le_of_ble_eq_true rfl) ?_
  intro p e R s m args below meth c hRR hX hr hxt
  have hR : R.frames = d ∧ R.locals = 64 * d := by rw [hRR]; exact ⟨rfl, rfl⟩
  have hX : zm_X p R s m args meth c RX10 "isBesideOutside" cX10_isBesideOutside 3 zk_E V 0 0 := hX
  unfold zf_X10_isBesideOutside at h
  refine zw_sub (lv' := [(0, .ref a0), (1, .int i1)]) (List.forall_mem_cons.mpr ⟨rfl, (List.forall_mem_cons.mpr ⟨rfl, zs_nil⟩)⟩) ?_
  refine zw_iconst (v := (0 : Int32)) hX dX10_isBesideOutside_0 (by decide) ?_
  refine zw_istore_n hX dX10_isBesideOutside_1 (by decide) ?_
  obtain ⟨r, g, h⟩ := zb_some h
  refine zw_sub (lv' := [(0, .ref a0), (1, .int i1), (2, .int (0 : Int32))]) (List.forall_mem_cons.mpr ⟨rfl, (List.forall_mem_cons.mpr ⟨rfl, (List.forall_mem_cons.mpr ⟨rfl, zs_nil⟩)⟩)⟩) ?_
  refine zt_X10_isBesideOutside_L2 hX hr hR hd (res := r) (out := out) a0 i1 ?_ ?_ N _ _ g
  · intro o ho
    subst ho
    exact Option.some.inj h
  · intro  S8 hx
    subst hx
    try dsimp only at h
    refine zw_iconst (v := (0 : Int32)) hX dX10_isBesideOutside_40 (by decide) ?_
    obtain rfl := Option.some.inj h
    exact zw_iret hX hr dX10_isBesideOutside_41 rfl ⟨rfl, rfl⟩
set_option maxHeartbeats 4000000 in
set_option maxRecDepth 100000 in
theorem zt_X10_numberCells_L4 {p : Program} {l : Launch} {e : Env} {R : Room} {s : State} {m : MethodId} {args : Array Value} {below : List Frame} {meth : Method} {c : Code} {V : zm_V} {mc ms d rc rs : Nat} (hX : zm_X p R s m args meth c RX10 "numberCells" cX10_numberCells 6 zk_E V mc ms) (hr : meth.sig.returnType = none) (hR : R.frames = d ∧ R.locals = 64 * d) (hd : 6 ≤ d) {N : Nat} {res : (Unit × zm_S) ⊕ ((Int32) × zm_S)} {out : (Unit × zm_S)} (a0 : Nat) (hf : ∀ o, res = .inl o → o = out) (hk : ∀ (x1 : Int32) (S' : zm_S), res = .inr (x1, S') → zw p l e R s m args below meth c (vx_MQ below (zm_Qc zk_E V (zo_v out)) (zm_XC zk_E V zo_x) args s mc ms (fun q => V.2.2.2.1 ≤ q)) 6 zk_E V mc ms 57 [(0, .ref a0), (1, .int x1)] [] S' rc rs) : ∀ (n : Nat) (i1 : Int32) (i2 : Int32) (S : zm_S), zf_X10_numberCells_L4 N n a0 i1 i2 S = some res → zw p l e R s m args below meth c (vx_MQ below (zm_Qc zk_E V (zo_v out)) (zm_XC zk_E V zo_x) args s mc ms (fun q => V.2.2.2.1 ≤ q)) 6 zk_E V mc ms 4 [(0, .ref a0), (1, .int i1), (2, .int i2)] [] S rc rs := by
  intro n
  induction n with
  | zero => intro i1 i2 S h; cases h
  | succ n ih =>
    intro i1 i2 S h
    rw [zf_X10_numberCells_L4] at h
    refine zw_iload_n hX dX10_numberCells_4 rfl ?_
    refine zw_sipush (v := (576 : Int32)) hX dX10_numberCells_5 (by decide) ?_
    refine zw_icmp_ge (tgt := 57) hX dX10_numberCells_8 (by decide) (fun c8 => ?_) (fun c8 => ?_)
    · rw [if_pos c8] at h
      refine zw_sub (lv' := [(0, .ref a0), (1, .int i1)]) (List.forall_mem_cons.mpr ⟨rfl, (List.forall_mem_cons.mpr ⟨rfl, zs_nil⟩)⟩) ?_
      exact hk _ _ (Option.some.inj h).symm
    · rw [if_neg c8] at h
      refine zw_aload_n hX dX10_numberCells_11 rfl ?_
      obtain ⟨b1, g, h⟩ := zb_some h
      refine zw_getr hX zl_X10_21 dX10_numberCells_12 g ?_
      refine zw_iload_n hX dX10_numberCells_15 rfl ?_
      refine zw_iconst (v := (-1 : Int32)) hX dX10_numberCells_16 (by decide) ?_
      obtain ⟨S2, g, h⟩ := zb_some h
      refine zw_si hX dX10_numberCells_17 g ?_
      refine zw_aload_n hX dX10_numberCells_18 rfl ?_
      refine zw_iload_n hX dX10_numberCells_19 rfl ?_
      obtain ⟨_, gi, h⟩ := zb_some h
      obtain ⟨r4, g, h⟩ := zb_some h
      refine zc_Vi (as := [.int i2]) hX gi (zt_X10_isInSpace (d := d - 1) (by omega) g) zl_X10_70 rfl dX10_numberCells_20 ⟨rfl, rfl, Nat.le_of_ble_eq_true rfl⟩ ⟨by omega, by omega⟩ ?_
      refine zw_if_eq (tgt := 51) hX dX10_numberCells_23 (by decide) (fun c23 => ?_) (fun c23 => ?_)
      · rw [if_pos c23] at h
        refine zw_iinc (v := (i2 + (1 : Int32))) hX dX10_numberCells_51 rfl rfl (by decide) ?_
        refine zw_goto (tgt := 4) hX dX10_numberCells_54 (by decide) ?_
        refine zw_sub (lv' := [(0, .ref a0), (1, .int i1), (2, .int (i2 + (1 : Int32)))]) (List.forall_mem_cons.mpr ⟨rfl, (List.forall_mem_cons.mpr ⟨rfl, (List.forall_mem_cons.mpr ⟨rfl, zs_nil⟩)⟩)⟩) ?_
        exact ih _ _ _ h
      · rw [if_neg c23] at h
        refine zw_aload_n hX dX10_numberCells_26 rfl ?_
        refine zw_iload_n hX dX10_numberCells_27 rfl ?_
        obtain ⟨_, gi, h⟩ := zb_some h
        obtain ⟨r6, g, h⟩ := zb_some h
        refine zc_Vi (as := [.int i2]) hX gi (zt_X10_isBesideOutside (d := d - 1) (by omega) g) zl_X10_74 rfl dX10_numberCells_28 ⟨rfl, rfl, Nat.le_of_ble_eq_true rfl⟩ ⟨by omega, by omega⟩ ?_
        refine zw_if_eq (tgt := 51) hX dX10_numberCells_31 (by decide) (fun c31 => ?_) (fun c31 => ?_)
        · rw [if_pos c31] at h
          refine zw_iinc (v := (i2 + (1 : Int32))) hX dX10_numberCells_51 rfl rfl (by decide) ?_
          refine zw_goto (tgt := 4) hX dX10_numberCells_54 (by decide) ?_
          refine zw_sub (lv' := [(0, .ref a0), (1, .int i1), (2, .int (i2 + (1 : Int32)))]) (List.forall_mem_cons.mpr ⟨rfl, (List.forall_mem_cons.mpr ⟨rfl, (List.forall_mem_cons.mpr ⟨rfl, zs_nil⟩)⟩)⟩) ?_
          exact ih _ _ _ h
        · rw [if_neg c31] at h
          refine zw_aload_n hX dX10_numberCells_34 rfl ?_
          obtain ⟨b7, g, h⟩ := zb_some h
          refine zw_getr hX zl_X10_21 dX10_numberCells_35 g ?_
          refine zw_iload_n hX dX10_numberCells_38 rfl ?_
          refine zw_iconst (v := (1 : Int32)) hX dX10_numberCells_39 (by decide) ?_
          obtain ⟨S8, g, h⟩ := zb_some h
          refine zw_si hX dX10_numberCells_40 g ?_
          refine zw_aload_n hX dX10_numberCells_41 rfl ?_
          obtain ⟨b9, g, h⟩ := zb_some h
          refine zw_getr hX zl_X10_24 dX10_numberCells_42 g ?_
          refine zw_iload_n hX dX10_numberCells_45 rfl ?_
          refine zw_iload_n hX dX10_numberCells_46 rfl ?_
          obtain ⟨S10, g, h⟩ := zb_some h
          refine zw_si hX dX10_numberCells_47 g ?_
          refine zw_iinc (v := (i1 + (1 : Int32))) hX dX10_numberCells_48 rfl rfl (by decide) ?_
          refine zw_iinc (v := (i2 + (1 : Int32))) hX dX10_numberCells_51 rfl rfl (by decide) ?_
          refine zw_goto (tgt := 4) hX dX10_numberCells_54 (by decide) ?_
          refine zw_sub (lv' := [(0, .ref a0), (1, .int (i1 + (1 : Int32))), (2, .int (i2 + (1 : Int32)))]) (List.forall_mem_cons.mpr ⟨rfl, (List.forall_mem_cons.mpr ⟨rfl, (List.forall_mem_cons.mpr ⟨rfl, zs_nil⟩)⟩)⟩) ?_
          exact ih _ _ _ h
set_option maxHeartbeats 4000000 in
set_option maxRecDepth 100000 in
theorem zt_X10_numberCells_J119 {p : Program} {l : Launch} {e : Env} {R : Room} {s : State} {m : MethodId} {args : Array Value} {below : List Frame} {meth : Method} {c : Code} {V : zm_V} {mc ms d rc rs : Nat} (hX : zm_X p R s m args meth c RX10 "numberCells" cX10_numberCells 6 zk_E V mc ms) (hr : meth.sig.returnType = none) (hR : R.frames = d ∧ R.locals = 64 * d) (hd : 6 ≤ d) {N : Nat} {k : Nat → Int32 → Int32 → Int32 → zm_S → Option ((Unit × zm_S) ⊕ ((Int32) × zm_S))} {a0 : Nat} {i1 : Int32} {i2 : Int32} {i3 : Int32} {i4 : Int32} {t0 : Int32} {res : (Unit × zm_S) ⊕ ((Int32) × zm_S)} {out : (Unit × zm_S)}   (hf : ∀ o, res = .inl o → o = out) (hk : ∀ (x1 : Int32) (S' : zm_S), res = .inr (x1, S') → zw p l e R s m args below meth c (vx_MQ below (zm_Qc zk_E V (zo_v out)) (zm_XC zk_E V zo_x) args s mc ms (fun q => V.2.2.2.1 ≤ q)) 6 zk_E V mc ms 177 [(0, .ref a0), (1, .int x1), (2, .int i2)] [] S' rc rs) (hrec : ∀ (i1' : Int32) (i3' : Int32) (S : zm_S), k a0 i1' i2 i3' S = some res → zw p l e R s m args below meth c (vx_MQ below (zm_Qc zk_E V (zo_v out)) (zm_XC zk_E V zo_x) args s mc ms (fun q => V.2.2.2.1 ≤ q)) 6 zk_E V mc ms 66 [(0, .ref a0), (1, .int i1'), (2, .int i2), (3, .int i3')] [] S rc rs) {S : zm_S} (h : zf_X10_numberCells_J119 N k a0 i1 i2 i3 i4 t0 S = some res) : zw p l e R s m args below meth c (vx_MQ below (zm_Qc zk_E V (zo_v out)) (zm_XC zk_E V zo_x) args s mc ms (fun q => V.2.2.2.1 ≤ q)) 6 zk_E V mc ms 119 [(0, .ref a0), (1, .int i1), (2, .int i2), (3, .int i3), (4, .int i4)] [.int t0] S rc rs := by
  unfold zf_X10_numberCells_J119 at h
  refine zw_istore hX dX10_numberCells_119 (by decide) ?_
  refine zw_iload hX dX10_numberCells_121 rfl ?_
  refine zw_if_eq (tgt := 171) hX dX10_numberCells_123 (by decide) (fun c123 => ?_) (fun c123 => ?_)
  · rw [if_pos c123] at h
    refine zw_iinc (v := (i3 + (1 : Int32))) hX dX10_numberCells_171 rfl rfl (by decide) ?_
    refine zw_goto (tgt := 66) hX dX10_numberCells_174 (by decide) ?_
    refine zw_sub (lv' := [(0, .ref a0), (1, .int i1), (2, .int i2), (3, .int (i3 + (1 : Int32)))]) (List.forall_mem_cons.mpr ⟨rfl, (List.forall_mem_cons.mpr ⟨rfl, (List.forall_mem_cons.mpr ⟨rfl, (List.forall_mem_cons.mpr ⟨rfl, zs_nil⟩)⟩)⟩)⟩) ?_
    exact hrec _ _ _ h
  · rw [if_neg c123] at h
    refine zw_aload_n hX dX10_numberCells_126 rfl ?_
    refine zw_aload_n hX dX10_numberCells_127 rfl ?_
    obtain ⟨b20, g, h⟩ := zb_some h
    refine zw_getr hX zl_X10_24 dX10_numberCells_128 g ?_
    refine zw_iload_n hX dX10_numberCells_131 rfl ?_
    obtain ⟨v21, g, h⟩ := zb_some h
    refine zw_xi hX dX10_numberCells_132 g ?_
    refine zw_iload_n hX dX10_numberCells_133 rfl ?_
    obtain ⟨_, gi, h⟩ := zb_some h
    obtain ⟨r23, g, h⟩ := zb_some h
    refine zc_Vi (as := [.int v21, .int i3]) hX gi (zt_X10_canGo (d := d - 1) (by omega) g) zl_X10_80 rfl dX10_numberCells_134 ⟨rfl, rfl, Nat.le_of_ble_eq_true rfl⟩ ⟨by omega, by omega⟩ ?_
    refine zw_if_eq (tgt := 171) hX dX10_numberCells_137 (by decide) (fun c137 => ?_) (fun c137 => ?_)
    · rw [if_pos c137] at h
      refine zw_iinc (v := (i3 + (1 : Int32))) hX dX10_numberCells_171 rfl rfl (by decide) ?_
      refine zw_goto (tgt := 66) hX dX10_numberCells_174 (by decide) ?_
      refine zw_sub (lv' := [(0, .ref a0), (1, .int i1), (2, .int i2), (3, .int (i3 + (1 : Int32)))]) (List.forall_mem_cons.mpr ⟨rfl, (List.forall_mem_cons.mpr ⟨rfl, (List.forall_mem_cons.mpr ⟨rfl, (List.forall_mem_cons.mpr ⟨rfl, zs_nil⟩)⟩)⟩)⟩) ?_
      exact hrec _ _ _ h
    · rw [if_neg c137] at h
      refine zw_aload_n hX dX10_numberCells_140 rfl ?_
      obtain ⟨b24, g, h⟩ := zb_some h
      refine zw_getr hX zl_X10_21 dX10_numberCells_141 g ?_
      refine zw_iload hX dX10_numberCells_144 rfl ?_
      refine zw_aload_n hX dX10_numberCells_146 rfl ?_
      obtain ⟨b25, g, h⟩ := zb_some h
      refine zw_getr hX zl_X10_21 dX10_numberCells_147 g ?_
      refine zw_aload_n hX dX10_numberCells_150 rfl ?_
      obtain ⟨b26, g, h⟩ := zb_some h
      refine zw_getr hX zl_X10_24 dX10_numberCells_151 g ?_
      refine zw_iload_n hX dX10_numberCells_154 rfl ?_
      obtain ⟨v27, g, h⟩ := zb_some h
      refine zw_xi hX dX10_numberCells_155 g ?_
      obtain ⟨v28, g, h⟩ := zb_some h
      refine zw_xi hX dX10_numberCells_156 g ?_
      refine zw_iconst (v := (1 : Int32)) hX dX10_numberCells_157 (by decide) ?_
      refine zw_iadd hX dX10_numberCells_158 ?_
      obtain ⟨S29, g, h⟩ := zb_some h
      refine zw_si hX dX10_numberCells_159 g ?_
      refine zw_aload_n hX dX10_numberCells_160 rfl ?_
      obtain ⟨b30, g, h⟩ := zb_some h
      refine zw_getr hX zl_X10_24 dX10_numberCells_161 g ?_
      refine zw_iload_n hX dX10_numberCells_164 rfl ?_
      refine zw_iload hX dX10_numberCells_165 rfl ?_
      obtain ⟨S31, g, h⟩ := zb_some h
      refine zw_si hX dX10_numberCells_167 g ?_
      refine zw_iinc (v := (i1 + (1 : Int32))) hX dX10_numberCells_168 rfl rfl (by decide) ?_
      refine zw_iinc (v := (i3 + (1 : Int32))) hX dX10_numberCells_171 rfl rfl (by decide) ?_
      refine zw_goto (tgt := 66) hX dX10_numberCells_174 (by decide) ?_
      refine zw_sub (lv' := [(0, .ref a0), (1, .int (i1 + (1 : Int32))), (2, .int i2), (3, .int (i3 + (1 : Int32)))]) (List.forall_mem_cons.mpr ⟨rfl, (List.forall_mem_cons.mpr ⟨rfl, (List.forall_mem_cons.mpr ⟨rfl, (List.forall_mem_cons.mpr ⟨rfl, zs_nil⟩)⟩)⟩)⟩) ?_
      exact hrec _ _ _ h
set_option maxHeartbeats 4000000 in
set_option maxRecDepth 100000 in
theorem zt_X10_numberCells_J118 {p : Program} {l : Launch} {e : Env} {R : Room} {s : State} {m : MethodId} {args : Array Value} {below : List Frame} {meth : Method} {c : Code} {V : zm_V} {mc ms d rc rs : Nat} (hX : zm_X p R s m args meth c RX10 "numberCells" cX10_numberCells 6 zk_E V mc ms) (hr : meth.sig.returnType = none) (hR : R.frames = d ∧ R.locals = 64 * d) (hd : 6 ≤ d) {N : Nat} {k : Nat → Int32 → Int32 → Int32 → zm_S → Option ((Unit × zm_S) ⊕ ((Int32) × zm_S))} {a0 : Nat} {i1 : Int32} {i2 : Int32} {i3 : Int32} {i4 : Int32} {res : (Unit × zm_S) ⊕ ((Int32) × zm_S)} {out : (Unit × zm_S)}   (hf : ∀ o, res = .inl o → o = out) (hk : ∀ (x1 : Int32) (S' : zm_S), res = .inr (x1, S') → zw p l e R s m args below meth c (vx_MQ below (zm_Qc zk_E V (zo_v out)) (zm_XC zk_E V zo_x) args s mc ms (fun q => V.2.2.2.1 ≤ q)) 6 zk_E V mc ms 177 [(0, .ref a0), (1, .int x1), (2, .int i2)] [] S' rc rs) (hrec : ∀ (i1' : Int32) (i3' : Int32) (S : zm_S), k a0 i1' i2 i3' S = some res → zw p l e R s m args below meth c (vx_MQ below (zm_Qc zk_E V (zo_v out)) (zm_XC zk_E V zo_x) args s mc ms (fun q => V.2.2.2.1 ≤ q)) 6 zk_E V mc ms 66 [(0, .ref a0), (1, .int i1'), (2, .int i2), (3, .int i3')] [] S rc rs) {S : zm_S} (h : zf_X10_numberCells_J118 N k a0 i1 i2 i3 i4 S = some res) : zw p l e R s m args below meth c (vx_MQ below (zm_Qc zk_E V (zo_v out)) (zm_XC zk_E V zo_x) args s mc ms (fun q => V.2.2.2.1 ≤ q)) 6 zk_E V mc ms 118 [(0, .ref a0), (1, .int i1), (2, .int i2), (3, .int i3), (4, .int i4)] [] S rc rs := by
  unfold zf_X10_numberCells_J118 at h
  refine zw_iconst (v := (0 : Int32)) hX dX10_numberCells_118 (by decide) ?_
  refine zw_sub (lv' := [(0, .ref a0), (1, .int i1), (2, .int i2), (3, .int i3), (4, .int i4)]) (List.forall_mem_cons.mpr ⟨rfl, (List.forall_mem_cons.mpr ⟨rfl, (List.forall_mem_cons.mpr ⟨rfl, (List.forall_mem_cons.mpr ⟨rfl, (List.forall_mem_cons.mpr ⟨rfl, zs_nil⟩)⟩)⟩)⟩)⟩) ?_
  exact zt_X10_numberCells_J119 hX hr hR hd hf hk hrec h
set_option maxHeartbeats 4000000 in
set_option maxRecDepth 100000 in
theorem zt_X10_numberCells_L66 {p : Program} {l : Launch} {e : Env} {R : Room} {s : State} {m : MethodId} {args : Array Value} {below : List Frame} {meth : Method} {c : Code} {V : zm_V} {mc ms d rc rs : Nat} (hX : zm_X p R s m args meth c RX10 "numberCells" cX10_numberCells 6 zk_E V mc ms) (hr : meth.sig.returnType = none) (hR : R.frames = d ∧ R.locals = 64 * d) (hd : 6 ≤ d) {N : Nat} {res : (Unit × zm_S) ⊕ ((Int32) × zm_S)} {out : (Unit × zm_S)} (a0 : Nat) (i2 : Int32) (hf : ∀ o, res = .inl o → o = out) (hk : ∀ (x1 : Int32) (S' : zm_S), res = .inr (x1, S') → zw p l e R s m args below meth c (vx_MQ below (zm_Qc zk_E V (zo_v out)) (zm_XC zk_E V zo_x) args s mc ms (fun q => V.2.2.2.1 ≤ q)) 6 zk_E V mc ms 177 [(0, .ref a0), (1, .int x1), (2, .int i2)] [] S' rc rs) : ∀ (n : Nat) (i1 : Int32) (i3 : Int32) (S : zm_S), zf_X10_numberCells_L66 N n a0 i1 i2 i3 S = some res → zw p l e R s m args below meth c (vx_MQ below (zm_Qc zk_E V (zo_v out)) (zm_XC zk_E V zo_x) args s mc ms (fun q => V.2.2.2.1 ≤ q)) 6 zk_E V mc ms 66 [(0, .ref a0), (1, .int i1), (2, .int i2), (3, .int i3)] [] S rc rs := by
  intro n
  induction n with
  | zero => intro i1 i3 S h; cases h
  | succ n ih =>
    intro i1 i3 S h
    rw [zf_X10_numberCells_L66] at h
    refine zw_iload_n hX dX10_numberCells_66 rfl ?_
    refine zw_iconst (v := (4 : Int32)) hX dX10_numberCells_67 (by decide) ?_
    refine zw_icmp_ge (tgt := 177) hX dX10_numberCells_68 (by decide) (fun c68 => ?_) (fun c68 => ?_)
    · rw [if_pos c68] at h
      refine zw_sub (lv' := [(0, .ref a0), (1, .int i1), (2, .int i2)]) (List.forall_mem_cons.mpr ⟨rfl, (List.forall_mem_cons.mpr ⟨rfl, (List.forall_mem_cons.mpr ⟨rfl, zs_nil⟩)⟩)⟩) ?_
      exact hk _ _ (Option.some.inj h).symm
    · rw [if_neg c68] at h
      refine zw_aload_n hX dX10_numberCells_71 rfl ?_
      obtain ⟨b13, g, h⟩ := zb_some h
      refine zw_getr hX zl_X10_44 dX10_numberCells_72 g ?_
      refine zw_aload_n hX dX10_numberCells_75 rfl ?_
      obtain ⟨b14, g, h⟩ := zb_some h
      refine zw_getr hX zl_X10_24 dX10_numberCells_76 g ?_
      refine zw_iload_n hX dX10_numberCells_79 rfl ?_
      obtain ⟨v15, g, h⟩ := zb_some h
      refine zw_xi hX dX10_numberCells_80 g ?_
      refine zw_iload_n hX dX10_numberCells_81 rfl ?_
      obtain ⟨_, gi, h⟩ := zb_some h
      obtain ⟨r17, g, h⟩ := zb_some h
      refine zc_Vi (as := [.int v15, .int i3]) hX gi (zt_X2_cellBeside (d := d - 1) (by omega) g) zl_X10_77 rfl dX10_numberCells_82 ⟨rfl, rfl, Nat.le_of_ble_eq_true rfl⟩ ⟨by omega, by omega⟩ ?_
      refine zw_istore hX dX10_numberCells_85 (by decide) ?_
      refine zw_aload_n hX dX10_numberCells_87 rfl ?_
      refine zw_iload hX dX10_numberCells_88 rfl ?_
      obtain ⟨_, gi, h⟩ := zb_some h
      obtain ⟨r19, g, h⟩ := zb_some h
      refine zc_Vi (as := [.int r17.1]) hX gi (zt_X10_isInSpace (d := d - 1) (by omega) g) zl_X10_70 rfl dX10_numberCells_90 ⟨rfl, rfl, Nat.le_of_ble_eq_true rfl⟩ ⟨by omega, by omega⟩ ?_
      refine zw_if_eq (tgt := 118) hX dX10_numberCells_93 (by decide) (fun c93 => ?_) (fun c93 => ?_)
      · rw [if_pos c93] at h
        refine zw_sub (lv' := [(0, .ref a0), (1, .int i1), (2, .int i2), (3, .int i3), (4, .int r17.1)]) (List.forall_mem_cons.mpr ⟨rfl, (List.forall_mem_cons.mpr ⟨rfl, (List.forall_mem_cons.mpr ⟨rfl, (List.forall_mem_cons.mpr ⟨rfl, (List.forall_mem_cons.mpr ⟨rfl, zs_nil⟩)⟩)⟩)⟩)⟩) ?_
        exact zt_X10_numberCells_J118 hX hr hR hd hf hk ih h
      · rw [if_neg c93] at h
        refine zw_aload_n hX dX10_numberCells_96 rfl ?_
        obtain ⟨b32, g, h⟩ := zb_some h
        refine zw_getr hX zl_X10_21 dX10_numberCells_97 g ?_
        refine zw_iload hX dX10_numberCells_100 rfl ?_
        obtain ⟨v33, g, h⟩ := zb_some h
        refine zw_xi hX dX10_numberCells_102 g ?_
        refine zw_iconst (v := (-1 : Int32)) hX dX10_numberCells_103 (by decide) ?_
        refine zw_icmp_ne (tgt := 118) hX dX10_numberCells_104 (by decide) (fun c104 => ?_) (fun c104 => ?_)
        · rw [if_neg c104] at h
          refine zw_sub (lv' := [(0, .ref a0), (1, .int i1), (2, .int i2), (3, .int i3), (4, .int r17.1)]) (List.forall_mem_cons.mpr ⟨rfl, (List.forall_mem_cons.mpr ⟨rfl, (List.forall_mem_cons.mpr ⟨rfl, (List.forall_mem_cons.mpr ⟨rfl, (List.forall_mem_cons.mpr ⟨rfl, zs_nil⟩)⟩)⟩)⟩)⟩) ?_
          exact zt_X10_numberCells_J118 hX hr hR hd hf hk ih h
        · rw [if_pos c104] at h
          refine zw_iload_n hX dX10_numberCells_107 rfl ?_
          refine zw_sipush (v := (576 : Int32)) hX dX10_numberCells_108 (by decide) ?_
          refine zw_icmp_ge (tgt := 118) hX dX10_numberCells_111 (by decide) (fun c111 => ?_) (fun c111 => ?_)
          · rw [if_pos c111] at h
            refine zw_sub (lv' := [(0, .ref a0), (1, .int i1), (2, .int i2), (3, .int i3), (4, .int r17.1)]) (List.forall_mem_cons.mpr ⟨rfl, (List.forall_mem_cons.mpr ⟨rfl, (List.forall_mem_cons.mpr ⟨rfl, (List.forall_mem_cons.mpr ⟨rfl, (List.forall_mem_cons.mpr ⟨rfl, zs_nil⟩)⟩)⟩)⟩)⟩) ?_
            exact zt_X10_numberCells_J118 hX hr hR hd hf hk ih h
          · rw [if_neg c111] at h
            refine zw_iconst (v := (1 : Int32)) hX dX10_numberCells_114 (by decide) ?_
            refine zw_goto (tgt := 119) hX dX10_numberCells_115 (by decide) ?_
            refine zw_sub (lv' := [(0, .ref a0), (1, .int i1), (2, .int i2), (3, .int i3), (4, .int r17.1)]) (List.forall_mem_cons.mpr ⟨rfl, (List.forall_mem_cons.mpr ⟨rfl, (List.forall_mem_cons.mpr ⟨rfl, (List.forall_mem_cons.mpr ⟨rfl, (List.forall_mem_cons.mpr ⟨rfl, zs_nil⟩)⟩)⟩)⟩)⟩) ?_
            exact zt_X10_numberCells_J119 hX hr hR hd hf hk ih h
set_option maxHeartbeats 4000000 in
set_option maxRecDepth 100000 in
theorem zt_X10_numberCells_L59 {p : Program} {l : Launch} {e : Env} {R : Room} {s : State} {m : MethodId} {args : Array Value} {below : List Frame} {meth : Method} {c : Code} {V : zm_V} {mc ms d rc rs : Nat} (hX : zm_X p R s m args meth c RX10 "numberCells" cX10_numberCells 6 zk_E V mc ms) (hr : meth.sig.returnType = none) (hR : R.frames = d ∧ R.locals = 64 * d) (hd : 6 ≤ d) {N : Nat} {res : (Unit × zm_S) ⊕ ((Unit) × zm_S)} {out : (Unit × zm_S)} (a0 : Nat) (hf : ∀ o, res = .inl o → o = out) (hk : ∀ (S' : zm_S), res = .inr ((), S') → zw p l e R s m args below meth c (vx_MQ below (zm_Qc zk_E V (zo_v out)) (zm_XC zk_E V zo_x) args s mc ms (fun q => V.2.2.2.1 ≤ q)) 6 zk_E V mc ms 183 [] [] S' rc rs) : ∀ (n : Nat) (i1 : Int32) (i2 : Int32) (S : zm_S), zf_X10_numberCells_L59 N n a0 i1 i2 S = some res → zw p l e R s m args below meth c (vx_MQ below (zm_Qc zk_E V (zo_v out)) (zm_XC zk_E V zo_x) args s mc ms (fun q => V.2.2.2.1 ≤ q)) 6 zk_E V mc ms 59 [(0, .ref a0), (1, .int i1), (2, .int i2)] [] S rc rs := by
  intro n
  induction n with
  | zero => intro i1 i2 S h; cases h
  | succ n ih =>
    intro i1 i2 S h
    rw [zf_X10_numberCells_L59] at h
    refine zw_iload_n hX dX10_numberCells_59 rfl ?_
    refine zw_iload_n hX dX10_numberCells_60 rfl ?_
    refine zw_icmp_ge (tgt := 183) hX dX10_numberCells_61 (by decide) (fun c61 => ?_) (fun c61 => ?_)
    · rw [if_pos c61] at h
      refine zw_sub (lv' := []) zs_nil ?_
      exact hk  _ (Option.some.inj h).symm
    · rw [if_neg c61] at h
      refine zw_iconst (v := (0 : Int32)) hX dX10_numberCells_64 (by decide) ?_
      refine zw_istore_n hX dX10_numberCells_65 (by decide) ?_
      obtain ⟨r, g, h⟩ := zb_some h
      refine zw_sub (lv' := [(0, .ref a0), (1, .int i1), (2, .int i2), (3, .int (0 : Int32))]) (List.forall_mem_cons.mpr ⟨rfl, (List.forall_mem_cons.mpr ⟨rfl, (List.forall_mem_cons.mpr ⟨rfl, (List.forall_mem_cons.mpr ⟨rfl, zs_nil⟩)⟩)⟩)⟩) ?_
      refine zt_X10_numberCells_L66 hX hr hR hd (res := r) (out := out) a0 i2 ?_ ?_ N _ _ _ g
      · intro o ho
        subst ho
        exact hf _ (Option.some.inj h).symm
      · intro v35 S34 hx
        subst hx
        try dsimp only at h
        refine zw_iinc (v := (i2 + (1 : Int32))) hX dX10_numberCells_177 rfl rfl (by decide) ?_
        refine zw_goto (tgt := 59) hX dX10_numberCells_180 (by decide) ?_
        refine zw_sub (lv' := [(0, .ref a0), (1, .int v35), (2, .int (i2 + (1 : Int32)))]) (List.forall_mem_cons.mpr ⟨rfl, (List.forall_mem_cons.mpr ⟨rfl, (List.forall_mem_cons.mpr ⟨rfl, zs_nil⟩)⟩)⟩) ?_
        exact ih _ _ _ h
set_option maxHeartbeats 4000000 in
set_option maxRecDepth 100000 in
theorem zt_X10_numberCells {l : Launch} {V : zm_V} {N : Nat} {S : zm_S} {out : (Unit × zm_S)} {d : Nat} {a0 : Nat} (hd : 6 ≤ d) (h : zf_X10_numberCells N a0 S = some out) : zm_Met l zk_E V yX10_numberCells (.code yX10_numberCells cX10_numberCells 6 none) d [.ref a0] S 0 0 (zo_v out) zo_x := by
  refine zm_of (by decide +kernel) (Nat.le_of_ble_eq_true rfl) ?_
  intro p e R s m args below meth c hRR hX hr hxt
  have hR : R.frames = d ∧ R.locals = 64 * d := by rw [hRR]; exact ⟨rfl, rfl⟩
  have hX : zm_X p R s m args meth c RX10 "numberCells" cX10_numberCells 6 zk_E V 0 0 := hX
  unfold zf_X10_numberCells at h
  refine zw_sub (lv' := [(0, .ref a0)]) (List.forall_mem_cons.mpr ⟨rfl, zs_nil⟩) ?_
  refine zw_iconst (v := (0 : Int32)) hX dX10_numberCells_0 (by decide) ?_
  refine zw_istore_n hX dX10_numberCells_1 (by decide) ?_
  refine zw_iconst (v := (0 : Int32)) hX dX10_numberCells_2 (by decide) ?_
  refine zw_istore_n hX dX10_numberCells_3 (by decide) ?_
  obtain ⟨r, g, h⟩ := zb_some h
  refine zw_sub (lv' := [(0, .ref a0), (1, .int (0 : Int32)), (2, .int (0 : Int32))]) (List.forall_mem_cons.mpr ⟨rfl, (List.forall_mem_cons.mpr ⟨rfl, (List.forall_mem_cons.mpr ⟨rfl, zs_nil⟩)⟩)⟩) ?_
  refine zt_X10_numberCells_L4 hX hr hR hd (res := r) (out := out) a0 ?_ ?_ N _ _ _ g
  · intro o ho
    subst ho
    exact Option.some.inj h
  · intro v12 S11 hx
    subst hx
    try dsimp only at h
    refine zw_iconst (v := (0 : Int32)) hX dX10_numberCells_57 (by decide) ?_
    refine zw_istore_n hX dX10_numberCells_58 (by decide) ?_
    obtain ⟨r, g, h⟩ := zb_some h
    refine zw_sub (lv' := [(0, .ref a0), (1, .int v12), (2, .int (0 : Int32))]) (List.forall_mem_cons.mpr ⟨rfl, (List.forall_mem_cons.mpr ⟨rfl, (List.forall_mem_cons.mpr ⟨rfl, zs_nil⟩)⟩)⟩) ?_
    refine zt_X10_numberCells_L59 hX hr hR hd (res := r) (out := out) a0 ?_ ?_ N _ _ _ g
    · intro o ho
      subst ho
      exact Option.some.inj h
    · intro  S36 hx
      subst hx
      try dsimp only at h
      obtain rfl := Option.some.inj h
      exact zw_vret hX hr dX10_numberCells_183 ⟨rfl, rfl⟩
set_option maxHeartbeats 4000000 in
set_option maxRecDepth 100000 in
theorem zt_X10_addSmoke {l : Launch} {V : zm_V} {N : Nat} {S : zm_S} {out : (Int32 × zm_S)} {d : Nat} {a0 : Nat} {i1 : Int32} (hd : 1 ≤ d) (h : zf_X10_addSmoke N a0 i1 S = some out) : zm_Met l zk_E V yX10_addSmoke (.code yX10_addSmoke cX10_addSmoke 3 (some .boolean)) d [.ref a0, .int i1] S 0 0 (zo_i out) zo_x := by
  refine zm_of (by decide +kernel) (Nat.le_of_ble_eq_true rfl) ?_
  intro p e R s m args below meth c hRR hX hr hxt
  have hR : R.frames = d ∧ R.locals = 64 * d := by rw [hRR]; exact ⟨rfl, rfl⟩
  have hX : zm_X p R s m args meth c RX10 "addSmoke" cX10_addSmoke 3 zk_E V 0 0 := hX
  unfold zf_X10_addSmoke at h
  refine zw_sub (lv' := [(0, .ref a0), (1, .int i1)]) (List.forall_mem_cons.mpr ⟨rfl, (List.forall_mem_cons.mpr ⟨rfl, zs_nil⟩)⟩) ?_
  refine zw_aload_n hX dX10_addSmoke_0 rfl ?_
  obtain ⟨b1, g, h⟩ := zb_some h
  refine zw_getr hX zl_X10_11 dX10_addSmoke_1 g ?_
  refine zw_iload_n hX dX10_addSmoke_4 rfl ?_
  obtain ⟨v2, g, h⟩ := zb_some h
  refine zw_xz hX dX10_addSmoke_5 g ?_
  refine zw_if_eq (tgt := 11) hX dX10_addSmoke_6 (by decide) (fun c6 => ?_) (fun c6 => ?_)
  · rw [if_pos c6] at h
    refine zw_aload_n hX dX10_addSmoke_11 rfl ?_
    obtain ⟨b3, g, h⟩ := zb_some h
    refine zw_getr hX zl_X10_11 dX10_addSmoke_12 g ?_
    refine zw_iload_n hX dX10_addSmoke_15 rfl ?_
    refine zw_iconst (v := (1 : Int32)) hX dX10_addSmoke_16 (by decide) ?_
    obtain ⟨S4, g, h⟩ := zb_some h
    refine zw_sz hX dX10_addSmoke_17 g ?_
    refine zw_aload_n hX dX10_addSmoke_18 rfl ?_
    refine zw_dup hX dX10_addSmoke_19 rfl ?_
    obtain ⟨v5, g, h⟩ := zb_some h
    refine zw_geti hX zl_X10_83 dX10_addSmoke_20 g ?_
    refine zw_iconst (v := (1 : Int32)) hX dX10_addSmoke_23 (by decide) ?_
    refine zw_iadd hX dX10_addSmoke_24 ?_
    obtain ⟨S6, g, h⟩ := zb_some h
    refine zw_putv hX zl_X10_83 zt_10_4 dX10_addSmoke_25 rfl rfl g ?_
    refine zw_aload_n hX dX10_addSmoke_28 rfl ?_
    obtain ⟨b7, g, h⟩ := zb_some h
    refine zw_getr hX zl_X10_44 dX10_addSmoke_29 g ?_
    obtain ⟨b8, g, h⟩ := zb_some h
    refine zw_getNr hX zl_X10_55 dX10_addSmoke_32 g ?_
    refine zw_iload_n hX dX10_addSmoke_35 rfl ?_
    obtain ⟨v9, g, h⟩ := zb_some h
    refine zw_xi hX dX10_addSmoke_36 g ?_
    refine zw_istore_n hX dX10_addSmoke_37 (by decide) ?_
    refine zw_iload_n hX dX10_addSmoke_38 rfl ?_
    refine zw_if_lt (tgt := 58) hX dX10_addSmoke_39 (by decide) (fun c39 => ?_) (fun c39 => ?_)
    · rw [if_pos c39] at h
      refine zw_iconst (v := (1 : Int32)) hX dX10_addSmoke_58 (by decide) ?_
      obtain rfl := Option.some.inj h
      exact zw_iret hX hr dX10_addSmoke_59 rfl ⟨rfl, rfl⟩
    · rw [if_neg c39] at h
      refine zw_iload_n hX dX10_addSmoke_42 rfl ?_
      refine zw_bipush (v := (40 : Int32)) hX dX10_addSmoke_43 (by decide) ?_
      refine zw_icmp_ge (tgt := 58) hX dX10_addSmoke_45 (by decide) (fun c45 => ?_) (fun c45 => ?_)
      · rw [if_pos c45] at h
        refine zw_iconst (v := (1 : Int32)) hX dX10_addSmoke_58 (by decide) ?_
        obtain rfl := Option.some.inj h
        exact zw_iret hX hr dX10_addSmoke_59 rfl ⟨rfl, rfl⟩
      · rw [if_neg c45] at h
        refine zw_aload_n hX dX10_addSmoke_48 rfl ?_
        obtain ⟨b10, g, h⟩ := zb_some h
        refine zw_getr hX zl_X10_17 dX10_addSmoke_49 g ?_
        refine zw_iload_n hX dX10_addSmoke_52 rfl ?_
        refine zw_dup2 hX dX10_addSmoke_53 rfl rfl ?_
        obtain ⟨v11, g, h⟩ := zb_some h
        refine zw_xi hX dX10_addSmoke_54 g ?_
        refine zw_iconst (v := (1 : Int32)) hX dX10_addSmoke_55 (by decide) ?_
        refine zw_iadd hX dX10_addSmoke_56 ?_
        obtain ⟨S12, g, h⟩ := zb_some h
        refine zw_si hX dX10_addSmoke_57 g ?_
        refine zw_iconst (v := (1 : Int32)) hX dX10_addSmoke_58 (by decide) ?_
        obtain rfl := Option.some.inj h
        exact zw_iret hX hr dX10_addSmoke_59 rfl ⟨rfl, rfl⟩
  · rw [if_neg c6] at h
    refine zw_iconst (v := (0 : Int32)) hX dX10_addSmoke_9 (by decide) ?_
    obtain rfl := Option.some.inj h
    exact zw_iret hX hr dX10_addSmoke_10 rfl ⟨rfl, rfl⟩
set_option maxHeartbeats 4000000 in
set_option maxRecDepth 100000 in
theorem zt_X10_spreadSmoke_L12 {p : Program} {l : Launch} {e : Env} {R : Room} {s : State} {m : MethodId} {args : Array Value} {below : List Frame} {meth : Method} {c : Code} {V : zm_V} {mc ms d rc rs : Nat} (hX : zm_X p R s m args meth c RX10 "spreadSmoke" cX10_spreadSmoke 6 zk_E V mc ms) (hr : meth.sig.returnType = none) (hR : R.frames = d ∧ R.locals = 64 * d) (hd : 5 ≤ d) {N : Nat} {res : (Unit × zm_S) ⊕ ((Int32) × zm_S)} {out : (Unit × zm_S)} (a0 : Nat) (hf : ∀ o, res = .inl o → o = out) (hk : ∀ (x2 : Int32) (S' : zm_S), res = .inr (x2, S') → zw p l e R s m args below meth c (vx_MQ below (zm_Qc zk_E V (zo_v out)) (zm_XC zk_E V zo_x) args s mc ms (fun q => V.2.2.2.1 ≤ q)) 6 zk_E V mc ms 44 [(0, .ref a0), (2, .int x2)] [] S' rc rs) : ∀ (n : Nat) (i2 : Int32) (i3 : Int32) (S : zm_S), zf_X10_spreadSmoke_L12 N n a0 i2 i3 S = some res → zw p l e R s m args below meth c (vx_MQ below (zm_Qc zk_E V (zo_v out)) (zm_XC zk_E V zo_x) args s mc ms (fun q => V.2.2.2.1 ≤ q)) 6 zk_E V mc ms 12 [(0, .ref a0), (2, .int i2), (3, .int i3)] [] S rc rs := by
  intro n
  induction n with
  | zero => intro i2 i3 S h; cases h
  | succ n ih =>
    intro i2 i3 S h
    rw [zf_X10_spreadSmoke_L12] at h
    refine zw_iload_n hX dX10_spreadSmoke_12 rfl ?_
    refine zw_sipush (v := (576 : Int32)) hX dX10_spreadSmoke_13 (by decide) ?_
    refine zw_icmp_ge (tgt := 44) hX dX10_spreadSmoke_16 (by decide) (fun c16 => ?_) (fun c16 => ?_)
    · rw [if_pos c16] at h
      refine zw_sub (lv' := [(0, .ref a0), (2, .int i2)]) (List.forall_mem_cons.mpr ⟨rfl, (List.forall_mem_cons.mpr ⟨rfl, zs_nil⟩)⟩) ?_
      exact hk _ _ (Option.some.inj h).symm
    · rw [if_neg c16] at h
      refine zw_aload_n hX dX10_spreadSmoke_19 rfl ?_
      obtain ⟨b1, g, h⟩ := zb_some h
      refine zw_getr hX zl_X10_11 dX10_spreadSmoke_20 g ?_
      refine zw_iload_n hX dX10_spreadSmoke_23 rfl ?_
      obtain ⟨v2, g, h⟩ := zb_some h
      refine zw_xz hX dX10_spreadSmoke_24 g ?_
      refine zw_if_eq (tgt := 38) hX dX10_spreadSmoke_25 (by decide) (fun c25 => ?_) (fun c25 => ?_)
      · rw [if_pos c25] at h
        refine zw_iinc (v := (i3 + (1 : Int32))) hX dX10_spreadSmoke_38 rfl rfl (by decide) ?_
        refine zw_goto (tgt := 12) hX dX10_spreadSmoke_41 (by decide) ?_
        refine zw_sub (lv' := [(0, .ref a0), (2, .int i2), (3, .int (i3 + (1 : Int32)))]) (List.forall_mem_cons.mpr ⟨rfl, (List.forall_mem_cons.mpr ⟨rfl, (List.forall_mem_cons.mpr ⟨rfl, zs_nil⟩)⟩)⟩) ?_
        exact ih _ _ _ h
      · rw [if_neg c25] at h
        refine zw_aload_n hX dX10_spreadSmoke_28 rfl ?_
        obtain ⟨b3, g, h⟩ := zb_some h
        refine zw_getr hX zl_X10_24 dX10_spreadSmoke_29 g ?_
        refine zw_iload_n hX dX10_spreadSmoke_32 rfl ?_
        refine zw_iload_n hX dX10_spreadSmoke_33 rfl ?_
        obtain ⟨S4, g, h⟩ := zb_some h
        refine zw_si hX dX10_spreadSmoke_34 g ?_
        refine zw_iinc (v := (i2 + (1 : Int32))) hX dX10_spreadSmoke_35 rfl rfl (by decide) ?_
        refine zw_iinc (v := (i3 + (1 : Int32))) hX dX10_spreadSmoke_38 rfl rfl (by decide) ?_
        refine zw_goto (tgt := 12) hX dX10_spreadSmoke_41 (by decide) ?_
        refine zw_sub (lv' := [(0, .ref a0), (2, .int (i2 + (1 : Int32))), (3, .int (i3 + (1 : Int32)))]) (List.forall_mem_cons.mpr ⟨rfl, (List.forall_mem_cons.mpr ⟨rfl, (List.forall_mem_cons.mpr ⟨rfl, zs_nil⟩)⟩)⟩) ?_
        exact ih _ _ _ h
set_option maxHeartbeats 4000000 in
set_option maxRecDepth 100000 in
theorem zt_X10_spreadSmoke_L54 {p : Program} {l : Launch} {e : Env} {R : Room} {s : State} {m : MethodId} {args : Array Value} {below : List Frame} {meth : Method} {c : Code} {V : zm_V} {mc ms d rc rs : Nat} (hX : zm_X p R s m args meth c RX10 "spreadSmoke" cX10_spreadSmoke 6 zk_E V mc ms) (hr : meth.sig.returnType = none) (hR : R.frames = d ∧ R.locals = 64 * d) (hd : 5 ≤ d) {N : Nat} {res : (Unit × zm_S) ⊕ ((Unit) × zm_S)} {out : (Unit × zm_S)} (a0 : Nat) (i2 : Int32) (i3 : Int32) (hf : ∀ o, res = .inl o → o = out) (hk : ∀ (S' : zm_S), res = .inr ((), S') → zw p l e R s m args below meth c (vx_MQ below (zm_Qc zk_E V (zo_v out)) (zm_XC zk_E V zo_x) args s mc ms (fun q => V.2.2.2.1 ≤ q)) 6 zk_E V mc ms 121 [(0, .ref a0), (2, .int i2), (3, .int i3)] [] S' rc rs) : ∀ (n : Nat) (i4 : Int32) (S : zm_S), zf_X10_spreadSmoke_L54 N n a0 i2 i3 i4 S = some res → zw p l e R s m args below meth c (vx_MQ below (zm_Qc zk_E V (zo_v out)) (zm_XC zk_E V zo_x) args s mc ms (fun q => V.2.2.2.1 ≤ q)) 6 zk_E V mc ms 54 [(0, .ref a0), (2, .int i2), (3, .int i3), (4, .int i4)] [] S rc rs := by
  intro n
  induction n with
  | zero => intro i4 S h; cases h
  | succ n ih =>
    intro i4 S h
    rw [zf_X10_spreadSmoke_L54] at h
    refine zw_iload hX dX10_spreadSmoke_54 rfl ?_
    refine zw_iconst (v := (4 : Int32)) hX dX10_spreadSmoke_56 (by decide) ?_
    refine zw_icmp_ge (tgt := 121) hX dX10_spreadSmoke_57 (by decide) (fun c57 => ?_) (fun c57 => ?_)
    · rw [if_pos c57] at h
      refine zw_sub (lv' := [(0, .ref a0), (2, .int i2), (3, .int i3)]) (List.forall_mem_cons.mpr ⟨rfl, (List.forall_mem_cons.mpr ⟨rfl, (List.forall_mem_cons.mpr ⟨rfl, zs_nil⟩)⟩)⟩) ?_
      exact hk  _ (Option.some.inj h).symm
    · rw [if_neg c57] at h
      refine zw_aload_n hX dX10_spreadSmoke_60 rfl ?_
      obtain ⟨b7, g, h⟩ := zb_some h
      refine zw_getr hX zl_X10_44 dX10_spreadSmoke_61 g ?_
      refine zw_aload_n hX dX10_spreadSmoke_64 rfl ?_
      obtain ⟨b8, g, h⟩ := zb_some h
      refine zw_getr hX zl_X10_24 dX10_spreadSmoke_65 g ?_
      refine zw_iload_n hX dX10_spreadSmoke_68 rfl ?_
      obtain ⟨v9, g, h⟩ := zb_some h
      refine zw_xi hX dX10_spreadSmoke_69 g ?_
      refine zw_iload hX dX10_spreadSmoke_70 rfl ?_
      obtain ⟨_, gi, h⟩ := zb_some h
      obtain ⟨r11, g, h⟩ := zb_some h
      refine zc_Vi (as := [.int v9, .int i4]) hX gi (zt_X2_cellBeside (d := d - 1) (by omega) g) zl_X10_77 rfl dX10_spreadSmoke_72 ⟨rfl, rfl, Nat.le_of_ble_eq_true rfl⟩ ⟨by omega, by omega⟩ ?_
      refine zw_istore hX dX10_spreadSmoke_75 (by decide) ?_
      refine zw_iload hX dX10_spreadSmoke_77 rfl ?_
      refine zw_iconst (v := (-1 : Int32)) hX dX10_spreadSmoke_79 (by decide) ?_
      refine zw_icmp_eq (tgt := 115) hX dX10_spreadSmoke_80 (by decide) (fun c80 => ?_) (fun c80 => ?_)
      · rw [if_pos c80] at h
        refine zw_iinc (v := (i4 + (1 : Int32))) hX dX10_spreadSmoke_115 rfl rfl (by decide) ?_
        refine zw_goto (tgt := 54) hX dX10_spreadSmoke_118 (by decide) ?_
        refine zw_sub (lv' := [(0, .ref a0), (2, .int i2), (3, .int i3), (4, .int (i4 + (1 : Int32)))]) (List.forall_mem_cons.mpr ⟨rfl, (List.forall_mem_cons.mpr ⟨rfl, (List.forall_mem_cons.mpr ⟨rfl, (List.forall_mem_cons.mpr ⟨rfl, zs_nil⟩)⟩)⟩)⟩) ?_
        exact ih _ _ h
      · rw [if_neg c80] at h
        refine zw_aload_n hX dX10_spreadSmoke_83 rfl ?_
        obtain ⟨b12, g, h⟩ := zb_some h
        refine zw_getr hX zl_X10_11 dX10_spreadSmoke_84 g ?_
        refine zw_iload hX dX10_spreadSmoke_87 rfl ?_
        obtain ⟨v13, g, h⟩ := zb_some h
        refine zw_xz hX dX10_spreadSmoke_89 g ?_
        refine zw_if_ne (tgt := 115) hX dX10_spreadSmoke_90 (by decide) (fun c90 => ?_) (fun c90 => ?_)
        · rw [if_neg c90] at h
          refine zw_iinc (v := (i4 + (1 : Int32))) hX dX10_spreadSmoke_115 rfl rfl (by decide) ?_
          refine zw_goto (tgt := 54) hX dX10_spreadSmoke_118 (by decide) ?_
          refine zw_sub (lv' := [(0, .ref a0), (2, .int i2), (3, .int i3), (4, .int (i4 + (1 : Int32)))]) (List.forall_mem_cons.mpr ⟨rfl, (List.forall_mem_cons.mpr ⟨rfl, (List.forall_mem_cons.mpr ⟨rfl, (List.forall_mem_cons.mpr ⟨rfl, zs_nil⟩)⟩)⟩)⟩) ?_
          exact ih _ _ h
        · rw [if_pos c90] at h
          refine zw_aload_n hX dX10_spreadSmoke_93 rfl ?_
          refine zw_aload_n hX dX10_spreadSmoke_94 rfl ?_
          obtain ⟨b14, g, h⟩ := zb_some h
          refine zw_getr hX zl_X10_24 dX10_spreadSmoke_95 g ?_
          refine zw_iload_n hX dX10_spreadSmoke_98 rfl ?_
          obtain ⟨v15, g, h⟩ := zb_some h
          refine zw_xi hX dX10_spreadSmoke_99 g ?_
          refine zw_iload hX dX10_spreadSmoke_100 rfl ?_
          obtain ⟨_, gi, h⟩ := zb_some h
          obtain ⟨r17, g, h⟩ := zb_some h
          refine zc_Vi (as := [.int v15, .int i4]) hX gi (zt_X10_canGo (d := d - 1) (by omega) g) zl_X10_80 rfl dX10_spreadSmoke_102 ⟨rfl, rfl, Nat.le_of_ble_eq_true rfl⟩ ⟨by omega, by omega⟩ ?_
          refine zw_if_eq (tgt := 115) hX dX10_spreadSmoke_105 (by decide) (fun c105 => ?_) (fun c105 => ?_)
          · rw [if_pos c105] at h
            refine zw_iinc (v := (i4 + (1 : Int32))) hX dX10_spreadSmoke_115 rfl rfl (by decide) ?_
            refine zw_goto (tgt := 54) hX dX10_spreadSmoke_118 (by decide) ?_
            refine zw_sub (lv' := [(0, .ref a0), (2, .int i2), (3, .int i3), (4, .int (i4 + (1 : Int32)))]) (List.forall_mem_cons.mpr ⟨rfl, (List.forall_mem_cons.mpr ⟨rfl, (List.forall_mem_cons.mpr ⟨rfl, (List.forall_mem_cons.mpr ⟨rfl, zs_nil⟩)⟩)⟩)⟩) ?_
            exact ih _ _ h
          · rw [if_neg c105] at h
            refine zw_aload_n hX dX10_spreadSmoke_108 rfl ?_
            refine zw_iload hX dX10_spreadSmoke_109 rfl ?_
            obtain ⟨_, gi, h⟩ := zb_some h
            obtain ⟨r19, g, h⟩ := zb_some h
            refine zc_Vi (as := [.int r11.1]) hX gi (zt_X10_addSmoke (d := d - 1) (by omega) g) zl_X10_86 rfl dX10_spreadSmoke_111 ⟨rfl, rfl, Nat.le_of_ble_eq_true rfl⟩ ⟨by omega, by omega⟩ ?_
            refine zw_pop hX dX10_spreadSmoke_114 rfl ?_
            refine zw_iinc (v := (i4 + (1 : Int32))) hX dX10_spreadSmoke_115 rfl rfl (by decide) ?_
            refine zw_goto (tgt := 54) hX dX10_spreadSmoke_118 (by decide) ?_
            refine zw_sub (lv' := [(0, .ref a0), (2, .int i2), (3, .int i3), (4, .int (i4 + (1 : Int32)))]) (List.forall_mem_cons.mpr ⟨rfl, (List.forall_mem_cons.mpr ⟨rfl, (List.forall_mem_cons.mpr ⟨rfl, (List.forall_mem_cons.mpr ⟨rfl, zs_nil⟩)⟩)⟩)⟩) ?_
            exact ih _ _ h
set_option maxHeartbeats 4000000 in
set_option maxRecDepth 100000 in
theorem zt_X10_spreadSmoke_L46 {p : Program} {l : Launch} {e : Env} {R : Room} {s : State} {m : MethodId} {args : Array Value} {below : List Frame} {meth : Method} {c : Code} {V : zm_V} {mc ms d rc rs : Nat} (hX : zm_X p R s m args meth c RX10 "spreadSmoke" cX10_spreadSmoke 6 zk_E V mc ms) (hr : meth.sig.returnType = none) (hR : R.frames = d ∧ R.locals = 64 * d) (hd : 5 ≤ d) {N : Nat} {res : (Unit × zm_S) ⊕ ((Unit) × zm_S)} {out : (Unit × zm_S)} (a0 : Nat) (i2 : Int32) (hf : ∀ o, res = .inl o → o = out) (hk : ∀ (S' : zm_S), res = .inr ((), S') → zw p l e R s m args below meth c (vx_MQ below (zm_Qc zk_E V (zo_v out)) (zm_XC zk_E V zo_x) args s mc ms (fun q => V.2.2.2.1 ≤ q)) 6 zk_E V mc ms 127 [] [] S' rc rs) : ∀ (n : Nat) (i3 : Int32) (S : zm_S), zf_X10_spreadSmoke_L46 N n a0 i2 i3 S = some res → zw p l e R s m args below meth c (vx_MQ below (zm_Qc zk_E V (zo_v out)) (zm_XC zk_E V zo_x) args s mc ms (fun q => V.2.2.2.1 ≤ q)) 6 zk_E V mc ms 46 [(0, .ref a0), (2, .int i2), (3, .int i3)] [] S rc rs := by
  intro n
  induction n with
  | zero => intro i3 S h; cases h
  | succ n ih =>
    intro i3 S h
    rw [zf_X10_spreadSmoke_L46] at h
    refine zw_iload_n hX dX10_spreadSmoke_46 rfl ?_
    refine zw_iload_n hX dX10_spreadSmoke_47 rfl ?_
    refine zw_icmp_ge (tgt := 127) hX dX10_spreadSmoke_48 (by decide) (fun c48 => ?_) (fun c48 => ?_)
    · rw [if_pos c48] at h
      refine zw_sub (lv' := []) zs_nil ?_
      exact hk  _ (Option.some.inj h).symm
    · rw [if_neg c48] at h
      refine zw_iconst (v := (0 : Int32)) hX dX10_spreadSmoke_51 (by decide) ?_
      refine zw_istore hX dX10_spreadSmoke_52 (by decide) ?_
      obtain ⟨r, g, h⟩ := zb_some h
      refine zw_sub (lv' := [(0, .ref a0), (2, .int i2), (3, .int i3), (4, .int (0 : Int32))]) (List.forall_mem_cons.mpr ⟨rfl, (List.forall_mem_cons.mpr ⟨rfl, (List.forall_mem_cons.mpr ⟨rfl, (List.forall_mem_cons.mpr ⟨rfl, zs_nil⟩)⟩)⟩)⟩) ?_
      refine zt_X10_spreadSmoke_L54 hX hr hR hd (res := r) (out := out) a0 i2 i3 ?_ ?_ N _ _ g
      · intro o ho
        subst ho
        exact hf _ (Option.some.inj h).symm
      · intro  S20 hx
        subst hx
        try dsimp only at h
        refine zw_iinc (v := (i3 + (1 : Int32))) hX dX10_spreadSmoke_121 rfl rfl (by decide) ?_
        refine zw_goto (tgt := 46) hX dX10_spreadSmoke_124 (by decide) ?_
        refine zw_sub (lv' := [(0, .ref a0), (2, .int i2), (3, .int (i3 + (1 : Int32)))]) (List.forall_mem_cons.mpr ⟨rfl, (List.forall_mem_cons.mpr ⟨rfl, (List.forall_mem_cons.mpr ⟨rfl, zs_nil⟩)⟩)⟩) ?_
        exact ih _ _ h
set_option maxHeartbeats 4000000 in
set_option maxRecDepth 100000 in
theorem zt_X10_spreadSmoke {l : Launch} {V : zm_V} {N : Nat} {S : zm_S} {out : (Unit × zm_S)} {d : Nat} {a0 : Nat} {i1 : Int32} (hd : 5 ≤ d) (h : zf_X10_spreadSmoke N a0 i1 S = some out) : zm_Met l zk_E V yX10_spreadSmoke (.code yX10_spreadSmoke cX10_spreadSmoke 6 none) d [.ref a0, .int i1] S 0 0 (zo_v out) zo_x := by
  refine zm_of (by decide +kernel) (Nat.le_of_ble_eq_true rfl) ?_
  intro p e R s m args below meth c hRR hX hr hxt
  have hR : R.frames = d ∧ R.locals = 64 * d := by rw [hRR]; exact ⟨rfl, rfl⟩
  have hX : zm_X p R s m args meth c RX10 "spreadSmoke" cX10_spreadSmoke 6 zk_E V 0 0 := hX
  unfold zf_X10_spreadSmoke at h
  refine zw_sub (lv' := [(0, .ref a0), (1, .int i1)]) (List.forall_mem_cons.mpr ⟨rfl, (List.forall_mem_cons.mpr ⟨rfl, zs_nil⟩)⟩) ?_
  refine zw_iload_n hX dX10_spreadSmoke_0 rfl ?_
  refine zw_bipush (v := (10 : Int32)) hX dX10_spreadSmoke_1 (by decide) ?_
  refine zw_irem hX dX10_spreadSmoke_3 (by decide) ?_
  refine zw_if_eq (tgt := 8) hX dX10_spreadSmoke_4 (by decide) (fun c4 => ?_) (fun c4 => ?_)
  · rw [if_pos c4] at h
    refine zw_iconst (v := (0 : Int32)) hX dX10_spreadSmoke_8 (by decide) ?_
    refine zw_istore_n hX dX10_spreadSmoke_9 (by decide) ?_
    refine zw_iconst (v := (0 : Int32)) hX dX10_spreadSmoke_10 (by decide) ?_
    refine zw_istore_n hX dX10_spreadSmoke_11 (by decide) ?_
    obtain ⟨r, g, h⟩ := zb_some h
    refine zw_sub (lv' := [(0, .ref a0), (2, .int (0 : Int32)), (3, .int (0 : Int32))]) (List.forall_mem_cons.mpr ⟨rfl, (List.forall_mem_cons.mpr ⟨rfl, (List.forall_mem_cons.mpr ⟨rfl, zs_nil⟩)⟩)⟩) ?_
    refine zt_X10_spreadSmoke_L12 hX hr hR hd (res := r) (out := out) a0 ?_ ?_ N _ _ _ g
    · intro o ho
      subst ho
      exact Option.some.inj h
    · intro v6 S5 hx
      subst hx
      try dsimp only at h
      refine zw_iconst (v := (0 : Int32)) hX dX10_spreadSmoke_44 (by decide) ?_
      refine zw_istore_n hX dX10_spreadSmoke_45 (by decide) ?_
      obtain ⟨r, g, h⟩ := zb_some h
      refine zw_sub (lv' := [(0, .ref a0), (2, .int v6), (3, .int (0 : Int32))]) (List.forall_mem_cons.mpr ⟨rfl, (List.forall_mem_cons.mpr ⟨rfl, (List.forall_mem_cons.mpr ⟨rfl, zs_nil⟩)⟩)⟩) ?_
      refine zt_X10_spreadSmoke_L46 hX hr hR hd (res := r) (out := out) a0 v6 ?_ ?_ N _ _ g
      · intro o ho
        subst ho
        exact Option.some.inj h
      · intro  S21 hx
        subst hx
        try dsimp only at h
        obtain rfl := Option.some.inj h
        exact zw_vret hX hr dX10_spreadSmoke_127 ⟨rfl, rfl⟩
  · rw [if_neg c4] at h
    obtain rfl := Option.some.inj h
    exact zw_vret hX hr dX10_spreadSmoke_7 ⟨rfl, rfl⟩
set_option maxHeartbeats 4000000 in
set_option maxRecDepth 100000 in
theorem zt_X10_cellOf {l : Launch} {V : zm_V} {N : Nat} {S : zm_S} {out : (Int32 × zm_S)} {d : Nat} {a0 : Nat} {i1 : Int32} (hd : 2 ≤ d) (h : zf_X10_cellOf N a0 i1 S = some out) : zm_Met l zk_E V yX10_cellOf (.code yX10_cellOf cX10_cellOf 3 (some .int)) d [.ref a0, .int i1] S 0 0 (zo_i out) zo_x := by
  refine zm_of (by decide +kernel) (Nat.le_of_ble_eq_true rfl) ?_
  intro p e R s m args below meth c hRR hX hr hxt
  have hR : R.frames = d ∧ R.locals = 64 * d := by rw [hRR]; exact ⟨rfl, rfl⟩
  have hX : zm_X p R s m args meth c RX10 "cellOf" cX10_cellOf 3 zk_E V 0 0 := hX
  unfold zf_X10_cellOf at h
  refine zw_sub (lv' := [(0, .ref a0), (1, .int i1)]) (List.forall_mem_cons.mpr ⟨rfl, (List.forall_mem_cons.mpr ⟨rfl, zs_nil⟩)⟩) ?_
  refine zw_aload_n hX dX10_cellOf_0 rfl ?_
  obtain ⟨b1, g, h⟩ := zb_some h
  refine zw_getr hX zl_X10_29 dX10_cellOf_1 g ?_
  refine zw_iload_n hX dX10_cellOf_4 rfl ?_
  obtain ⟨b2, g, h⟩ := zb_some h
  refine zw_xr hX dX10_cellOf_5 g ?_
  refine zw_astore_n hX dX10_cellOf_6 (by decide) ?_
  refine zw_aload_n hX dX10_cellOf_7 rfl ?_
  refine zw_iconst (v := (1 : Int32)) hX dX10_cellOf_8 (by decide) ?_
  obtain ⟨v3, g, h⟩ := zb_some h
  refine zw_xi hX dX10_cellOf_9 g ?_
  refine zw_iconst (v := (-1 : Int32)) hX dX10_cellOf_10 (by decide) ?_
  refine zw_icmp_ne (tgt := 18) hX dX10_cellOf_11 (by decide) (fun c11 => ?_) (fun c11 => ?_)
  · rw [if_neg c11] at h
    refine zw_aload_n hX dX10_cellOf_18 rfl ?_
    refine zw_iconst (v := (1 : Int32)) hX dX10_cellOf_19 (by decide) ?_
    obtain ⟨v4, g, h⟩ := zb_some h
    refine zw_xi hX dX10_cellOf_20 g ?_
    refine zw_aload_n hX dX10_cellOf_21 rfl ?_
    refine zw_iconst (v := (2 : Int32)) hX dX10_cellOf_22 (by decide) ?_
    obtain ⟨v5, g, h⟩ := zb_some h
    refine zw_xi hX dX10_cellOf_23 g ?_
    obtain ⟨r7, g, h⟩ := zb_some h
    refine zc_Si (as := [.int v4, .int v5]) hX (zt_X2_cellNumber (d := d - 1) (by omega) g) zl_X10_106 dX10_cellOf_24 ⟨rfl, rfl, Nat.le_of_ble_eq_true rfl⟩ ⟨by omega, by omega⟩ ?_
    obtain rfl := Option.some.inj h
    exact zw_iret hX hr dX10_cellOf_27 rfl ⟨rfl, rfl⟩
  · rw [if_pos c11] at h
    refine zw_iconst (v := (-1 : Int32)) hX dX10_cellOf_14 (by decide) ?_
    refine zw_goto (tgt := 27) hX dX10_cellOf_15 (by decide) ?_
    obtain rfl := Option.some.inj h
    exact zw_iret hX hr dX10_cellOf_27 rfl ⟨rfl, rfl⟩
set_option maxHeartbeats 4000000 in
set_option maxRecDepth 100000 in
theorem zt_X10_countInCell_J35 {p : Program} {l : Launch} {e : Env} {R : Room} {s : State} {m : MethodId} {args : Array Value} {below : List Frame} {meth : Method} {c : Code} {V : zm_V} {mc ms d rc rs : Nat} (hX : zm_X p R s m args meth c RX10 "countInCell" cX10_countInCell 4 zk_E V mc ms) (hr : meth.sig.returnType = (some .int)) (hR : R.frames = d ∧ R.locals = 64 * d) (hd : 3 ≤ d) {N : Nat} {k : Nat → Int32 → Int32 → Int32 → zm_S → Option ((Int32 × zm_S) ⊕ ((Int32) × zm_S))} {a0 : Nat} {i1 : Int32} {i3 : Int32} {t0 : Int32} {t1 : Int32} {res : (Int32 × zm_S) ⊕ ((Int32) × zm_S)} {out : (Int32 × zm_S)}   (hf : ∀ o, res = .inl o → o = out) (hk : ∀ (x2 : Int32) (S' : zm_S), res = .inr (x2, S') → zw p l e R s m args below meth c (vx_MQ below (zm_Qc zk_E V (zo_i out)) (zm_XC zk_E V zo_x) args s mc ms (fun q => V.2.2.2.1 ≤ q)) 4 zk_E V mc ms 43 [(2, .int x2)] [] S' rc rs) (hrec : ∀ (i2' : Int32) (i3' : Int32) (S : zm_S), k a0 i1 i2' i3' S = some res → zw p l e R s m args below meth c (vx_MQ below (zm_Qc zk_E V (zo_i out)) (zm_XC zk_E V zo_x) args s mc ms (fun q => V.2.2.2.1 ≤ q)) 4 zk_E V mc ms 4 [(0, .ref a0), (1, .int i1), (2, .int i2'), (3, .int i3')] [] S rc rs) {S : zm_S} (h : zf_X10_countInCell_J35 N k a0 i1 i3 t0 t1 S = some res) : zw p l e R s m args below meth c (vx_MQ below (zm_Qc zk_E V (zo_i out)) (zm_XC zk_E V zo_x) args s mc ms (fun q => V.2.2.2.1 ≤ q)) 4 zk_E V mc ms 35 [(0, .ref a0), (1, .int i1), (3, .int i3)] [.int t1, .int t0] S rc rs := by
  unfold zf_X10_countInCell_J35 at h
  refine zw_iadd hX dX10_countInCell_35 ?_
  refine zw_istore_n hX dX10_countInCell_36 (by decide) ?_
  refine zw_iinc (v := (i3 + (1 : Int32))) hX dX10_countInCell_37 rfl rfl (by decide) ?_
  refine zw_goto (tgt := 4) hX dX10_countInCell_40 (by decide) ?_
  refine zw_sub (lv' := [(0, .ref a0), (1, .int i1), (2, .int (t0 + t1)), (3, .int (i3 + (1 : Int32)))]) (List.forall_mem_cons.mpr ⟨rfl, (List.forall_mem_cons.mpr ⟨rfl, (List.forall_mem_cons.mpr ⟨rfl, (List.forall_mem_cons.mpr ⟨rfl, zs_nil⟩)⟩)⟩)⟩) ?_
  exact hrec _ _ _ h
set_option maxHeartbeats 4000000 in
set_option maxRecDepth 100000 in
theorem zt_X10_countInCell_J34 {p : Program} {l : Launch} {e : Env} {R : Room} {s : State} {m : MethodId} {args : Array Value} {below : List Frame} {meth : Method} {c : Code} {V : zm_V} {mc ms d rc rs : Nat} (hX : zm_X p R s m args meth c RX10 "countInCell" cX10_countInCell 4 zk_E V mc ms) (hr : meth.sig.returnType = (some .int)) (hR : R.frames = d ∧ R.locals = 64 * d) (hd : 3 ≤ d) {N : Nat} {k : Nat → Int32 → Int32 → Int32 → zm_S → Option ((Int32 × zm_S) ⊕ ((Int32) × zm_S))} {a0 : Nat} {i1 : Int32} {i3 : Int32} {t0 : Int32} {res : (Int32 × zm_S) ⊕ ((Int32) × zm_S)} {out : (Int32 × zm_S)}   (hf : ∀ o, res = .inl o → o = out) (hk : ∀ (x2 : Int32) (S' : zm_S), res = .inr (x2, S') → zw p l e R s m args below meth c (vx_MQ below (zm_Qc zk_E V (zo_i out)) (zm_XC zk_E V zo_x) args s mc ms (fun q => V.2.2.2.1 ≤ q)) 4 zk_E V mc ms 43 [(2, .int x2)] [] S' rc rs) (hrec : ∀ (i2' : Int32) (i3' : Int32) (S : zm_S), k a0 i1 i2' i3' S = some res → zw p l e R s m args below meth c (vx_MQ below (zm_Qc zk_E V (zo_i out)) (zm_XC zk_E V zo_x) args s mc ms (fun q => V.2.2.2.1 ≤ q)) 4 zk_E V mc ms 4 [(0, .ref a0), (1, .int i1), (2, .int i2'), (3, .int i3')] [] S rc rs) {S : zm_S} (h : zf_X10_countInCell_J34 N k a0 i1 i3 t0 S = some res) : zw p l e R s m args below meth c (vx_MQ below (zm_Qc zk_E V (zo_i out)) (zm_XC zk_E V zo_x) args s mc ms (fun q => V.2.2.2.1 ≤ q)) 4 zk_E V mc ms 34 [(0, .ref a0), (1, .int i1), (3, .int i3)] [.int t0] S rc rs := by
  unfold zf_X10_countInCell_J34 at h
  refine zw_iconst (v := (0 : Int32)) hX dX10_countInCell_34 (by decide) ?_
  refine zw_sub (lv' := [(0, .ref a0), (1, .int i1), (3, .int i3)]) (List.forall_mem_cons.mpr ⟨rfl, (List.forall_mem_cons.mpr ⟨rfl, (List.forall_mem_cons.mpr ⟨rfl, zs_nil⟩)⟩)⟩) ?_
  exact zt_X10_countInCell_J35 hX hr hR hd hf hk hrec h
set_option maxHeartbeats 4000000 in
set_option maxRecDepth 100000 in
theorem zt_X10_countInCell_L4 {p : Program} {l : Launch} {e : Env} {R : Room} {s : State} {m : MethodId} {args : Array Value} {below : List Frame} {meth : Method} {c : Code} {V : zm_V} {mc ms d rc rs : Nat} (hX : zm_X p R s m args meth c RX10 "countInCell" cX10_countInCell 4 zk_E V mc ms) (hr : meth.sig.returnType = (some .int)) (hR : R.frames = d ∧ R.locals = 64 * d) (hd : 3 ≤ d) {N : Nat} {res : (Int32 × zm_S) ⊕ ((Int32) × zm_S)} {out : (Int32 × zm_S)} (a0 : Nat) (i1 : Int32) (hf : ∀ o, res = .inl o → o = out) (hk : ∀ (x2 : Int32) (S' : zm_S), res = .inr (x2, S') → zw p l e R s m args below meth c (vx_MQ below (zm_Qc zk_E V (zo_i out)) (zm_XC zk_E V zo_x) args s mc ms (fun q => V.2.2.2.1 ≤ q)) 4 zk_E V mc ms 43 [(2, .int x2)] [] S' rc rs) : ∀ (n : Nat) (i2 : Int32) (i3 : Int32) (S : zm_S), zf_X10_countInCell_L4 N n a0 i1 i2 i3 S = some res → zw p l e R s m args below meth c (vx_MQ below (zm_Qc zk_E V (zo_i out)) (zm_XC zk_E V zo_x) args s mc ms (fun q => V.2.2.2.1 ≤ q)) 4 zk_E V mc ms 4 [(0, .ref a0), (1, .int i1), (2, .int i2), (3, .int i3)] [] S rc rs := by
  intro n
  induction n with
  | zero => intro i2 i3 S h; cases h
  | succ n ih =>
    intro i2 i3 S h
    rw [zf_X10_countInCell_L4] at h
    refine zw_iload_n hX dX10_countInCell_4 rfl ?_
    refine zw_aload_n hX dX10_countInCell_5 rfl ?_
    obtain ⟨v1, g, h⟩ := zb_some h
    refine zw_geti hX zl_X10_93 dX10_countInCell_6 g ?_
    refine zw_icmp_ge (tgt := 43) hX dX10_countInCell_9 (by decide) (fun c9 => ?_) (fun c9 => ?_)
    · rw [if_pos c9] at h
      refine zw_sub (lv' := [(2, .int i2)]) (List.forall_mem_cons.mpr ⟨rfl, zs_nil⟩) ?_
      exact hk _ _ (Option.some.inj h).symm
    · rw [if_neg c9] at h
      refine zw_iload_n hX dX10_countInCell_12 rfl ?_
      refine zw_aload_n hX dX10_countInCell_13 rfl ?_
      refine zw_iload_n hX dX10_countInCell_14 rfl ?_
      obtain ⟨_, gi, h⟩ := zb_some h
      obtain ⟨r3, g, h⟩ := zb_some h
      refine zc_Vi (as := [.int i3]) hX gi (zt_X10_cellOf (d := d - 1) (by omega) g) zl_X10_96 rfl dX10_countInCell_15 ⟨rfl, rfl, Nat.le_of_ble_eq_true rfl⟩ ⟨by omega, by omega⟩ ?_
      refine zw_iload_n hX dX10_countInCell_18 rfl ?_
      refine zw_icmp_ne (tgt := 34) hX dX10_countInCell_19 (by decide) (fun c19 => ?_) (fun c19 => ?_)
      · rw [if_neg c19] at h
        refine zw_sub (lv' := [(0, .ref a0), (1, .int i1), (3, .int i3)]) (List.forall_mem_cons.mpr ⟨rfl, (List.forall_mem_cons.mpr ⟨rfl, (List.forall_mem_cons.mpr ⟨rfl, zs_nil⟩)⟩)⟩) ?_
        exact zt_X10_countInCell_J34 hX hr hR hd hf hk ih h
      · rw [if_pos c19] at h
        refine zw_aload_n hX dX10_countInCell_22 rfl ?_
        refine zw_iload_n hX dX10_countInCell_23 rfl ?_
        obtain ⟨_, gi, h⟩ := zb_some h
        obtain ⟨r5, g, h⟩ := zb_some h
        refine zc_Vi (as := [.int i3]) hX gi (zt_X10_isCaught (d := d - 1) (by omega) g) zl_X10_99 rfl dX10_countInCell_24 ⟨rfl, rfl, Nat.le_of_ble_eq_true rfl⟩ ⟨by omega, by omega⟩ ?_
        refine zw_if_ne (tgt := 34) hX dX10_countInCell_27 (by decide) (fun c27 => ?_) (fun c27 => ?_)
        · rw [if_neg c27] at h
          refine zw_sub (lv' := [(0, .ref a0), (1, .int i1), (3, .int i3)]) (List.forall_mem_cons.mpr ⟨rfl, (List.forall_mem_cons.mpr ⟨rfl, (List.forall_mem_cons.mpr ⟨rfl, zs_nil⟩)⟩)⟩) ?_
          exact zt_X10_countInCell_J34 hX hr hR hd hf hk ih h
        · rw [if_pos c27] at h
          refine zw_iconst (v := (1 : Int32)) hX dX10_countInCell_30 (by decide) ?_
          refine zw_goto (tgt := 35) hX dX10_countInCell_31 (by decide) ?_
          refine zw_sub (lv' := [(0, .ref a0), (1, .int i1), (3, .int i3)]) (List.forall_mem_cons.mpr ⟨rfl, (List.forall_mem_cons.mpr ⟨rfl, (List.forall_mem_cons.mpr ⟨rfl, zs_nil⟩)⟩)⟩) ?_
          exact zt_X10_countInCell_J35 hX hr hR hd hf hk ih h
set_option maxHeartbeats 4000000 in
set_option maxRecDepth 100000 in
theorem zt_X10_countInCell {l : Launch} {V : zm_V} {N : Nat} {S : zm_S} {out : (Int32 × zm_S)} {d : Nat} {a0 : Nat} {i1 : Int32} (hd : 3 ≤ d) (h : zf_X10_countInCell N a0 i1 S = some out) : zm_Met l zk_E V yX10_countInCell (.code yX10_countInCell cX10_countInCell 4 (some .int)) d [.ref a0, .int i1] S 0 0 (zo_i out) zo_x := by
  refine zm_of (by decide +kernel) (Nat.le_of_ble_eq_true rfl) ?_
  intro p e R s m args below meth c hRR hX hr hxt
  have hR : R.frames = d ∧ R.locals = 64 * d := by rw [hRR]; exact ⟨rfl, rfl⟩
  have hX : zm_X p R s m args meth c RX10 "countInCell" cX10_countInCell 4 zk_E V 0 0 := hX
  unfold zf_X10_countInCell at h
  refine zw_sub (lv' := [(0, .ref a0), (1, .int i1)]) (List.forall_mem_cons.mpr ⟨rfl, (List.forall_mem_cons.mpr ⟨rfl, zs_nil⟩)⟩) ?_
  refine zw_iconst (v := (0 : Int32)) hX dX10_countInCell_0 (by decide) ?_
  refine zw_istore_n hX dX10_countInCell_1 (by decide) ?_
  refine zw_iconst (v := (0 : Int32)) hX dX10_countInCell_2 (by decide) ?_
  refine zw_istore_n hX dX10_countInCell_3 (by decide) ?_
  obtain ⟨r, g, h⟩ := zb_some h
  refine zw_sub (lv' := [(0, .ref a0), (1, .int i1), (2, .int (0 : Int32)), (3, .int (0 : Int32))]) (List.forall_mem_cons.mpr ⟨rfl, (List.forall_mem_cons.mpr ⟨rfl, (List.forall_mem_cons.mpr ⟨rfl, (List.forall_mem_cons.mpr ⟨rfl, zs_nil⟩)⟩)⟩)⟩) ?_
  refine zt_X10_countInCell_L4 hX hr hR hd (res := r) (out := out) a0 i1 ?_ ?_ N _ _ _ g
  · intro o ho
    subst ho
    exact Option.some.inj h
  · intro v7 S6 hx
    subst hx
    try dsimp only at h
    refine zw_iload_n hX dX10_countInCell_43 rfl ?_
    obtain rfl := Option.some.inj h
    exact zw_iret hX hr dX10_countInCell_44 rfl ⟨rfl, rfl⟩
set_option maxHeartbeats 4000000 in
set_option maxRecDepth 100000 in
theorem zt_X10_cellFact {l : Launch} {V : zm_V} {N : Nat} {S : zm_S} {out : (Int32 × zm_S)} {d : Nat} {a0 : Nat} {i1 : Int32} {i2 : Int32} (hd : 4 ≤ d) (h : zf_X10_cellFact N a0 i1 i2 S = some out) : zm_Met l zk_E V yX10_cellFact (.code yX10_cellFact cX10_cellFact 3 (some .int)) d [.ref a0, .int i1, .int i2] S 0 0 (zo_i out) zo_x := by
  refine zm_of (by decide +kernel) (Nat.le_of_ble_eq_true rfl) ?_
  intro p e R s m args below meth c hRR hX hr hxt
  have hR : R.frames = d ∧ R.locals = 64 * d := by rw [hRR]; exact ⟨rfl, rfl⟩
  have hX : zm_X p R s m args meth c RX10 "cellFact" cX10_cellFact 3 zk_E V 0 0 := hX
  unfold zf_X10_cellFact at h
  refine zw_sub (lv' := [(0, .ref a0), (1, .int i1), (2, .int i2)]) (List.forall_mem_cons.mpr ⟨rfl, (List.forall_mem_cons.mpr ⟨rfl, (List.forall_mem_cons.mpr ⟨rfl, zs_nil⟩)⟩)⟩) ?_
  refine zw_iload_n hX dX10_cellFact_0 rfl ?_
  by_cases c1_0 : (i2).toInt = 0
  · rw [if_pos c1_0] at h
    refine zw_lookup (off := 27) (tgt := 28) hX dX10_cellFact_1 (by decide) (by rw [c1_0]; decide) (by decide) ?_
    refine zw_aload_n hX dX10_cellFact_28 rfl ?_
    obtain ⟨b3, g, h⟩ := zb_some h
    refine zw_getr hX zl_X10_11 dX10_cellFact_29 g ?_
    refine zw_iload_n hX dX10_cellFact_32 rfl ?_
    obtain ⟨v4, g, h⟩ := zb_some h
    refine zw_xz hX dX10_cellFact_33 g ?_
    refine zw_if_eq (tgt := 41) hX dX10_cellFact_34 (by decide) (fun c34 => ?_) (fun c34 => ?_)
    · rw [if_pos c34] at h
      refine zw_iconst (v := (0 : Int32)) hX dX10_cellFact_41 (by decide) ?_
      obtain rfl := Option.some.inj h
      exact zw_iret hX hr dX10_cellFact_42 rfl ⟨rfl, rfl⟩
    · rw [if_neg c34] at h
      refine zw_iconst (v := (1 : Int32)) hX dX10_cellFact_37 (by decide) ?_
      refine zw_goto (tgt := 42) hX dX10_cellFact_38 (by decide) ?_
      obtain rfl := Option.some.inj h
      exact zw_iret hX hr dX10_cellFact_42 rfl ⟨rfl, rfl⟩
  rw [if_neg c1_0] at h
  by_cases c1_1 : (i2).toInt = 1
  · rw [if_pos c1_1] at h
    refine zw_lookup (off := 42) (tgt := 43) hX dX10_cellFact_1 (by decide) (by rw [c1_1]; decide) (by decide) ?_
    refine zw_aload_n hX dX10_cellFact_43 rfl ?_
    obtain ⟨b5, g, h⟩ := zb_some h
    refine zw_getr hX zl_X10_21 dX10_cellFact_44 g ?_
    refine zw_iload_n hX dX10_cellFact_47 rfl ?_
    obtain ⟨v6, g, h⟩ := zb_some h
    refine zw_xi hX dX10_cellFact_48 g ?_
    obtain rfl := Option.some.inj h
    exact zw_iret hX hr dX10_cellFact_49 rfl ⟨rfl, rfl⟩
  rw [if_neg c1_1] at h
  refine zw_lookup (off := 49) (tgt := 50) hX dX10_cellFact_1 (by decide) (by simp [Op.lookupswitch.offset, c1_0, (show ¬ ((0 : Int) = (i2).toInt) from fun q => c1_0 q.symm), c1_1, (show ¬ ((1 : Int) = (i2).toInt) from fun q => c1_1 q.symm)]) (by decide) ?_
  refine zw_aload_n hX dX10_cellFact_50 rfl ?_
  refine zw_iload_n hX dX10_cellFact_51 rfl ?_
  obtain ⟨_, gi, h⟩ := zb_some h
  obtain ⟨r2, g, h⟩ := zb_some h
  refine zc_Vi (as := [.int i1]) hX gi (zt_X10_countInCell (d := d - 1) (by omega) g) zl_X10_89 rfl dX10_cellFact_52 ⟨rfl, rfl, Nat.le_of_ble_eq_true rfl⟩ ⟨by omega, by omega⟩ ?_
  obtain rfl := Option.some.inj h
  exact zw_iret hX hr dX10_cellFact_55 rfl ⟨rfl, rfl⟩
set_option maxHeartbeats 4000000 in
set_option maxRecDepth 100000 in
theorem zt_X10_addPerson {l : Launch} {V : zm_V} {N : Nat} {S : zm_S} {out : (Int32 × zm_S)} {d : Nat} {a0 : Nat} {i1 : Int32} {i2 : Int32} (hd : 2 ≤ d) (h : zf_X10_addPerson N a0 i1 i2 S = some out) : zm_Met l zk_E V yX10_addPerson (.code yX10_addPerson cX10_addPerson 4 (some .int)) d [.ref a0, .int i1, .int i2] S 0 0 (zo_i out) zo_x := by
  refine zm_of (by decide +kernel) (Nat.le_of_ble_eq_true rfl) ?_
  intro p e R s m args below meth c hRR hX hr hxt
  have hR : R.frames = d ∧ R.locals = 64 * d := by rw [hRR]; exact ⟨rfl, rfl⟩
  have hX : zm_X p R s m args meth c RX10 "addPerson" cX10_addPerson 4 zk_E V 0 0 := hX
  unfold zf_X10_addPerson at h
  refine zw_sub (lv' := [(0, .ref a0), (1, .int i1), (2, .int i2)]) (List.forall_mem_cons.mpr ⟨rfl, (List.forall_mem_cons.mpr ⟨rfl, (List.forall_mem_cons.mpr ⟨rfl, zs_nil⟩)⟩)⟩) ?_
  refine zw_aload_n hX dX10_addPerson_0 rfl ?_
  obtain ⟨v1, g, h⟩ := zb_some h
  refine zw_geti hX zl_X10_93 dX10_addPerson_1 g ?_
  refine zw_bipush (v := (40 : Int32)) hX dX10_addPerson_4 (by decide) ?_
  refine zw_icmp_lt (tgt := 11) hX dX10_addPerson_6 (by decide) (fun c6 => ?_) (fun c6 => ?_)
  · rw [if_pos c6] at h
    refine zw_aload_n hX dX10_addPerson_11 rfl ?_
    obtain ⟨b2, g, h⟩ := zb_some h
    refine zw_getr hX zl_X10_29 dX10_addPerson_12 g ?_
    refine zw_aload_n hX dX10_addPerson_15 rfl ?_
    obtain ⟨v3, g, h⟩ := zb_some h
    refine zw_geti hX zl_X10_93 dX10_addPerson_16 g ?_
    obtain ⟨b4, g, h⟩ := zb_some h
    refine zw_xr hX dX10_addPerson_19 g ?_
    refine zw_astore_n hX dX10_addPerson_20 (by decide) ?_
    refine zw_aload_n hX dX10_addPerson_21 rfl ?_
    refine zw_iconst (v := (0 : Int32)) hX dX10_addPerson_22 (by decide) ?_
    refine zw_aload_n hX dX10_addPerson_23 rfl ?_
    obtain ⟨_, gi, h⟩ := zb_some h
    obtain ⟨r6, g, h⟩ := zb_some h
    refine zc_Vi (as := []) hX gi (zt_X10_outside (d := d - 1) (by omega) g) zl_X10_102 rfl dX10_addPerson_24 ⟨rfl, rfl, Nat.le_of_ble_eq_true rfl⟩ ⟨by omega, by omega⟩ ?_
    obtain ⟨S7, g, h⟩ := zb_some h
    refine zw_si hX dX10_addPerson_27 g ?_
    refine zw_aload_n hX dX10_addPerson_28 rfl ?_
    refine zw_iconst (v := (1 : Int32)) hX dX10_addPerson_29 (by decide) ?_
    refine zw_iconst (v := (-1 : Int32)) hX dX10_addPerson_30 (by decide) ?_
    obtain ⟨S8, g, h⟩ := zb_some h
    refine zw_si hX dX10_addPerson_31 g ?_
    refine zw_aload_n hX dX10_addPerson_32 rfl ?_
    refine zw_iconst (v := (2 : Int32)) hX dX10_addPerson_33 (by decide) ?_
    refine zw_iconst (v := (-1 : Int32)) hX dX10_addPerson_34 (by decide) ?_
    obtain ⟨S9, g, h⟩ := zb_some h
    refine zw_si hX dX10_addPerson_35 g ?_
    refine zw_aload_n hX dX10_addPerson_36 rfl ?_
    refine zw_iconst (v := (3 : Int32)) hX dX10_addPerson_37 (by decide) ?_
    refine zw_iconst (v := (-1 : Int32)) hX dX10_addPerson_38 (by decide) ?_
    obtain ⟨S10, g, h⟩ := zb_some h
    refine zw_si hX dX10_addPerson_39 g ?_
    refine zw_aload_n hX dX10_addPerson_40 rfl ?_
    refine zw_bipush (v := (6 : Int32)) hX dX10_addPerson_41 (by decide) ?_
    refine zw_iload_n hX dX10_addPerson_43 rfl ?_
    obtain ⟨S11, g, h⟩ := zb_some h
    refine zw_si hX dX10_addPerson_44 g ?_
    refine zw_aload_n hX dX10_addPerson_45 rfl ?_
    refine zw_bipush (v := (7 : Int32)) hX dX10_addPerson_46 (by decide) ?_
    refine zw_iload_n hX dX10_addPerson_48 rfl ?_
    obtain ⟨S12, g, h⟩ := zb_some h
    refine zw_si hX dX10_addPerson_49 g ?_
    refine zw_aload_n hX dX10_addPerson_50 rfl ?_
    refine zw_dup hX dX10_addPerson_51 rfl ?_
    obtain ⟨v13, g, h⟩ := zb_some h
    refine zw_geti hX zl_X10_93 dX10_addPerson_52 g ?_
    refine zw_iconst (v := (1 : Int32)) hX dX10_addPerson_55 (by decide) ?_
    refine zw_iadd hX dX10_addPerson_56 ?_
    obtain ⟨S14, g, h⟩ := zb_some h
    refine zw_putv hX zl_X10_93 zt_10_7 dX10_addPerson_57 rfl rfl g ?_
    refine zw_aload_n hX dX10_addPerson_60 rfl ?_
    obtain ⟨v15, g, h⟩ := zb_some h
    refine zw_geti hX zl_X10_93 dX10_addPerson_61 g ?_
    refine zw_iconst (v := (1 : Int32)) hX dX10_addPerson_64 (by decide) ?_
    refine zw_isub hX dX10_addPerson_65 ?_
    obtain rfl := Option.some.inj h
    exact zw_iret hX hr dX10_addPerson_66 rfl ⟨rfl, rfl⟩
  · rw [if_neg c6] at h
    refine zw_iconst (v := (-1 : Int32)) hX dX10_addPerson_9 (by decide) ?_
    obtain rfl := Option.some.inj h
    exact zw_iret hX hr dX10_addPerson_10 rfl ⟨rfl, rfl⟩
set_option maxHeartbeats 4000000 in
set_option maxRecDepth 100000 in
theorem zt_X10_personFact {l : Launch} {V : zm_V} {N : Nat} {S : zm_S} {out : (Int32 × zm_S)} {d : Nat} {a0 : Nat} {i1 : Int32} {i2 : Int32} (hd : 1 ≤ d) (h : zf_X10_personFact N a0 i1 i2 S = some out) : zm_Met l zk_E V yX10_personFact (.code yX10_personFact cX10_personFact 3 (some .int)) d [.ref a0, .int i1, .int i2] S 0 0 (zo_i out) zo_x := by
  refine zm_of (by decide +kernel) (Nat.le_of_ble_eq_true rfl) ?_
  intro p e R s m args below meth c hRR hX hr hxt
  have hR : R.frames = d ∧ R.locals = 64 * d := by rw [hRR]; exact ⟨rfl, rfl⟩
  have hX : zm_X p R s m args meth c RX10 "personFact" cX10_personFact 3 zk_E V 0 0 := hX
  unfold zf_X10_personFact at h
  refine zw_sub (lv' := [(0, .ref a0), (1, .int i1), (2, .int i2)]) (List.forall_mem_cons.mpr ⟨rfl, (List.forall_mem_cons.mpr ⟨rfl, (List.forall_mem_cons.mpr ⟨rfl, zs_nil⟩)⟩)⟩) ?_
  refine zw_aload_n hX dX10_personFact_0 rfl ?_
  obtain ⟨b1, g, h⟩ := zb_some h
  refine zw_getr hX zl_X10_29 dX10_personFact_1 g ?_
  refine zw_iload_n hX dX10_personFact_4 rfl ?_
  obtain ⟨b2, g, h⟩ := zb_some h
  refine zw_xr hX dX10_personFact_5 g ?_
  refine zw_iload_n hX dX10_personFact_6 rfl ?_
  obtain ⟨v3, g, h⟩ := zb_some h
  refine zw_xi hX dX10_personFact_7 g ?_
  obtain rfl := Option.some.inj h
  exact zw_iret hX hr dX10_personFact_8 rfl ⟨rfl, rfl⟩
set_option maxHeartbeats 4000000 in
set_option maxRecDepth 100000 in
theorem zt_X10_countInZone_J31 {p : Program} {l : Launch} {e : Env} {R : Room} {s : State} {m : MethodId} {args : Array Value} {below : List Frame} {meth : Method} {c : Code} {V : zm_V} {mc ms d rc rs : Nat} (hX : zm_X p R s m args meth c RX10 "countInZone" cX10_countInZone 4 zk_E V mc ms) (hr : meth.sig.returnType = (some .int)) (hR : R.frames = d ∧ R.locals = 64 * d) (hd : 2 ≤ d) {N : Nat} {k : Nat → Int32 → Int32 → Int32 → zm_S → Option ((Int32 × zm_S) ⊕ ((Int32) × zm_S))} {a0 : Nat} {i1 : Int32} {i3 : Int32} {t0 : Int32} {t1 : Int32} {res : (Int32 × zm_S) ⊕ ((Int32) × zm_S)} {out : (Int32 × zm_S)}   (hf : ∀ o, res = .inl o → o = out) (hk : ∀ (x2 : Int32) (S' : zm_S), res = .inr (x2, S') → zw p l e R s m args below meth c (vx_MQ below (zm_Qc zk_E V (zo_i out)) (zm_XC zk_E V zo_x) args s mc ms (fun q => V.2.2.2.1 ≤ q)) 4 zk_E V mc ms 39 [(2, .int x2)] [] S' rc rs) (hrec : ∀ (i2' : Int32) (i3' : Int32) (S : zm_S), k a0 i1 i2' i3' S = some res → zw p l e R s m args below meth c (vx_MQ below (zm_Qc zk_E V (zo_i out)) (zm_XC zk_E V zo_x) args s mc ms (fun q => V.2.2.2.1 ≤ q)) 4 zk_E V mc ms 4 [(0, .ref a0), (1, .int i1), (2, .int i2'), (3, .int i3')] [] S rc rs) {S : zm_S} (h : zf_X10_countInZone_J31 N k a0 i1 i3 t0 t1 S = some res) : zw p l e R s m args below meth c (vx_MQ below (zm_Qc zk_E V (zo_i out)) (zm_XC zk_E V zo_x) args s mc ms (fun q => V.2.2.2.1 ≤ q)) 4 zk_E V mc ms 31 [(0, .ref a0), (1, .int i1), (3, .int i3)] [.int t1, .int t0] S rc rs := by
  unfold zf_X10_countInZone_J31 at h
  refine zw_iadd hX dX10_countInZone_31 ?_
  refine zw_istore_n hX dX10_countInZone_32 (by decide) ?_
  refine zw_iinc (v := (i3 + (1 : Int32))) hX dX10_countInZone_33 rfl rfl (by decide) ?_
  refine zw_goto (tgt := 4) hX dX10_countInZone_36 (by decide) ?_
  refine zw_sub (lv' := [(0, .ref a0), (1, .int i1), (2, .int (t0 + t1)), (3, .int (i3 + (1 : Int32)))]) (List.forall_mem_cons.mpr ⟨rfl, (List.forall_mem_cons.mpr ⟨rfl, (List.forall_mem_cons.mpr ⟨rfl, (List.forall_mem_cons.mpr ⟨rfl, zs_nil⟩)⟩)⟩)⟩) ?_
  exact hrec _ _ _ h
set_option maxHeartbeats 4000000 in
set_option maxRecDepth 100000 in
theorem zt_X10_countInZone_L4 {p : Program} {l : Launch} {e : Env} {R : Room} {s : State} {m : MethodId} {args : Array Value} {below : List Frame} {meth : Method} {c : Code} {V : zm_V} {mc ms d rc rs : Nat} (hX : zm_X p R s m args meth c RX10 "countInZone" cX10_countInZone 4 zk_E V mc ms) (hr : meth.sig.returnType = (some .int)) (hR : R.frames = d ∧ R.locals = 64 * d) (hd : 2 ≤ d) {N : Nat} {res : (Int32 × zm_S) ⊕ ((Int32) × zm_S)} {out : (Int32 × zm_S)} (a0 : Nat) (i1 : Int32) (hf : ∀ o, res = .inl o → o = out) (hk : ∀ (x2 : Int32) (S' : zm_S), res = .inr (x2, S') → zw p l e R s m args below meth c (vx_MQ below (zm_Qc zk_E V (zo_i out)) (zm_XC zk_E V zo_x) args s mc ms (fun q => V.2.2.2.1 ≤ q)) 4 zk_E V mc ms 39 [(2, .int x2)] [] S' rc rs) : ∀ (n : Nat) (i2 : Int32) (i3 : Int32) (S : zm_S), zf_X10_countInZone_L4 N n a0 i1 i2 i3 S = some res → zw p l e R s m args below meth c (vx_MQ below (zm_Qc zk_E V (zo_i out)) (zm_XC zk_E V zo_x) args s mc ms (fun q => V.2.2.2.1 ≤ q)) 4 zk_E V mc ms 4 [(0, .ref a0), (1, .int i1), (2, .int i2), (3, .int i3)] [] S rc rs := by
  intro n
  induction n with
  | zero => intro i2 i3 S h; cases h
  | succ n ih =>
    intro i2 i3 S h
    rw [zf_X10_countInZone_L4] at h
    refine zw_iload_n hX dX10_countInZone_4 rfl ?_
    refine zw_aload_n hX dX10_countInZone_5 rfl ?_
    obtain ⟨v1, g, h⟩ := zb_some h
    refine zw_geti hX zl_X10_93 dX10_countInZone_6 g ?_
    refine zw_icmp_ge (tgt := 39) hX dX10_countInZone_9 (by decide) (fun c9 => ?_) (fun c9 => ?_)
    · rw [if_pos c9] at h
      refine zw_sub (lv' := [(2, .int i2)]) (List.forall_mem_cons.mpr ⟨rfl, zs_nil⟩) ?_
      exact hk _ _ (Option.some.inj h).symm
    · rw [if_neg c9] at h
      refine zw_iload_n hX dX10_countInZone_12 rfl ?_
      refine zw_aload_n hX dX10_countInZone_13 rfl ?_
      refine zw_aload_n hX dX10_countInZone_14 rfl ?_
      refine zw_iload_n hX dX10_countInZone_15 rfl ?_
      obtain ⟨_, gi, h⟩ := zb_some h
      obtain ⟨r3, g, h⟩ := zb_some h
      refine zc_Vi (as := [.int i3]) hX gi (zt_X10_roomOf (d := d - 1) (by omega) g) zl_X10_109 rfl dX10_countInZone_16 ⟨rfl, rfl, Nat.le_of_ble_eq_true rfl⟩ ⟨by omega, by omega⟩ ?_
      obtain ⟨_, gi, h⟩ := zb_some h
      obtain ⟨r5, g, h⟩ := zb_some h
      refine zc_Vi (as := [.int r3.1]) hX gi (zt_X10_zoneOf (d := d - 1) (by omega) g) zl_X10_112 rfl dX10_countInZone_19 ⟨rfl, rfl, Nat.le_of_ble_eq_true rfl⟩ ⟨by omega, by omega⟩ ?_
      refine zw_iload_n hX dX10_countInZone_22 rfl ?_
      refine zw_icmp_ne (tgt := 30) hX dX10_countInZone_23 (by decide) (fun c23 => ?_) (fun c23 => ?_)
      · rw [if_neg c23] at h
        refine zw_iconst (v := (0 : Int32)) hX dX10_countInZone_30 (by decide) ?_
        refine zw_sub (lv' := [(0, .ref a0), (1, .int i1), (3, .int i3)]) (List.forall_mem_cons.mpr ⟨rfl, (List.forall_mem_cons.mpr ⟨rfl, (List.forall_mem_cons.mpr ⟨rfl, zs_nil⟩)⟩)⟩) ?_
        exact zt_X10_countInZone_J31 hX hr hR hd hf hk ih h
      · rw [if_pos c23] at h
        refine zw_iconst (v := (1 : Int32)) hX dX10_countInZone_26 (by decide) ?_
        refine zw_goto (tgt := 31) hX dX10_countInZone_27 (by decide) ?_
        refine zw_sub (lv' := [(0, .ref a0), (1, .int i1), (3, .int i3)]) (List.forall_mem_cons.mpr ⟨rfl, (List.forall_mem_cons.mpr ⟨rfl, (List.forall_mem_cons.mpr ⟨rfl, zs_nil⟩)⟩)⟩) ?_
        exact zt_X10_countInZone_J31 hX hr hR hd hf hk ih h
set_option maxHeartbeats 4000000 in
set_option maxRecDepth 100000 in
theorem zt_X10_countInZone {l : Launch} {V : zm_V} {N : Nat} {S : zm_S} {out : (Int32 × zm_S)} {d : Nat} {a0 : Nat} {i1 : Int32} (hd : 2 ≤ d) (h : zf_X10_countInZone N a0 i1 S = some out) : zm_Met l zk_E V yX10_countInZone (.code yX10_countInZone cX10_countInZone 4 (some .int)) d [.ref a0, .int i1] S 0 0 (zo_i out) zo_x := by
  refine zm_of (by decide +kernel) (Nat.le_of_ble_eq_true rfl) ?_
  intro p e R s m args below meth c hRR hX hr hxt
  have hR : R.frames = d ∧ R.locals = 64 * d := by rw [hRR]; exact ⟨rfl, rfl⟩
  have hX : zm_X p R s m args meth c RX10 "countInZone" cX10_countInZone 4 zk_E V 0 0 := hX
  unfold zf_X10_countInZone at h
  refine zw_sub (lv' := [(0, .ref a0), (1, .int i1)]) (List.forall_mem_cons.mpr ⟨rfl, (List.forall_mem_cons.mpr ⟨rfl, zs_nil⟩)⟩) ?_
  refine zw_iconst (v := (0 : Int32)) hX dX10_countInZone_0 (by decide) ?_
  refine zw_istore_n hX dX10_countInZone_1 (by decide) ?_
  refine zw_iconst (v := (0 : Int32)) hX dX10_countInZone_2 (by decide) ?_
  refine zw_istore_n hX dX10_countInZone_3 (by decide) ?_
  obtain ⟨r, g, h⟩ := zb_some h
  refine zw_sub (lv' := [(0, .ref a0), (1, .int i1), (2, .int (0 : Int32)), (3, .int (0 : Int32))]) (List.forall_mem_cons.mpr ⟨rfl, (List.forall_mem_cons.mpr ⟨rfl, (List.forall_mem_cons.mpr ⟨rfl, (List.forall_mem_cons.mpr ⟨rfl, zs_nil⟩)⟩)⟩)⟩) ?_
  refine zt_X10_countInZone_L4 hX hr hR hd (res := r) (out := out) a0 i1 ?_ ?_ N _ _ _ g
  · intro o ho
    subst ho
    exact Option.some.inj h
  · intro v7 S6 hx
    subst hx
    try dsimp only at h
    refine zw_iload_n hX dX10_countInZone_39 rfl ?_
    obtain rfl := Option.some.inj h
    exact zw_iret hX hr dX10_countInZone_40 rfl ⟨rfl, rfl⟩
set_option maxHeartbeats 4000000 in
set_option maxRecDepth 100000 in
theorem zt_X10_isFreeInside {l : Launch} {V : zm_V} {N : Nat} {S : zm_S} {out : (Int32 × zm_S)} {d : Nat} {a0 : Nat} {i1 : Int32} (hd : 3 ≤ d) (h : zf_X10_isFreeInside N a0 i1 S = some out) : zm_Met l zk_E V yX10_isFreeInside (.code yX10_isFreeInside cX10_isFreeInside 2 (some .boolean)) d [.ref a0, .int i1] S 0 0 (zo_i out) zo_x := by
  refine zm_of (by decide +kernel) (Nat.le_of_ble_eq_true rfl) ?_
  intro p e R s m args below meth c hRR hX hr hxt
  have hR : R.frames = d ∧ R.locals = 64 * d := by rw [hRR]; exact ⟨rfl, rfl⟩
  have hX : zm_X p R s m args meth c RX10 "isFreeInside" cX10_isFreeInside 2 zk_E V 0 0 := hX
  unfold zf_X10_isFreeInside at h
  refine zw_sub (lv' := [(0, .ref a0), (1, .int i1)]) (List.forall_mem_cons.mpr ⟨rfl, (List.forall_mem_cons.mpr ⟨rfl, zs_nil⟩)⟩) ?_
  refine zw_aload_n hX dX10_isFreeInside_0 rfl ?_
  refine zw_iload_n hX dX10_isFreeInside_1 rfl ?_
  obtain ⟨_, gi, h⟩ := zb_some h
  obtain ⟨r2, g, h⟩ := zb_some h
  refine zc_Vi (as := [.int i1]) hX gi (zt_X10_cellOf (d := d - 1) (by omega) g) zl_X10_96 rfl dX10_isFreeInside_2 ⟨rfl, rfl, Nat.le_of_ble_eq_true rfl⟩ ⟨by omega, by omega⟩ ?_
  refine zw_iconst (v := (-1 : Int32)) hX dX10_isFreeInside_5 (by decide) ?_
  refine zw_icmp_eq (tgt := 21) hX dX10_isFreeInside_6 (by decide) (fun c6 => ?_) (fun c6 => ?_)
  · rw [if_pos c6] at h
    refine zw_iconst (v := (0 : Int32)) hX dX10_isFreeInside_21 (by decide) ?_
    obtain rfl := Option.some.inj h
    exact zw_iret hX hr dX10_isFreeInside_22 rfl ⟨rfl, rfl⟩
  · rw [if_neg c6] at h
    refine zw_aload_n hX dX10_isFreeInside_9 rfl ?_
    refine zw_iload_n hX dX10_isFreeInside_10 rfl ?_
    obtain ⟨_, gi, h⟩ := zb_some h
    obtain ⟨r4, g, h⟩ := zb_some h
    refine zc_Vi (as := [.int i1]) hX gi (zt_X10_isCaught (d := d - 1) (by omega) g) zl_X10_99 rfl dX10_isFreeInside_11 ⟨rfl, rfl, Nat.le_of_ble_eq_true rfl⟩ ⟨by omega, by omega⟩ ?_
    refine zw_if_ne (tgt := 21) hX dX10_isFreeInside_14 (by decide) (fun c14 => ?_) (fun c14 => ?_)
    · rw [if_neg c14] at h
      refine zw_iconst (v := (0 : Int32)) hX dX10_isFreeInside_21 (by decide) ?_
      obtain rfl := Option.some.inj h
      exact zw_iret hX hr dX10_isFreeInside_22 rfl ⟨rfl, rfl⟩
    · rw [if_pos c14] at h
      refine zw_iconst (v := (1 : Int32)) hX dX10_isFreeInside_17 (by decide) ?_
      refine zw_goto (tgt := 22) hX dX10_isFreeInside_18 (by decide) ?_
      obtain rfl := Option.some.inj h
      exact zw_iret hX hr dX10_isFreeInside_22 rfl ⟨rfl, rfl⟩
set_option maxHeartbeats 4000000 in
set_option maxRecDepth 100000 in
theorem zt_X10_countFreeInside_J26 {p : Program} {l : Launch} {e : Env} {R : Room} {s : State} {m : MethodId} {args : Array Value} {below : List Frame} {meth : Method} {c : Code} {V : zm_V} {mc ms d rc rs : Nat} (hX : zm_X p R s m args meth c RX10 "countFreeInside" cX10_countFreeInside 3 zk_E V mc ms) (hr : meth.sig.returnType = (some .int)) (hR : R.frames = d ∧ R.locals = 64 * d) (hd : 4 ≤ d) {N : Nat} {k : Nat → Int32 → Int32 → zm_S → Option ((Int32 × zm_S) ⊕ ((Int32) × zm_S))} {a0 : Nat} {i2 : Int32} {t0 : Int32} {t1 : Int32} {res : (Int32 × zm_S) ⊕ ((Int32) × zm_S)} {out : (Int32 × zm_S)}   (hf : ∀ o, res = .inl o → o = out) (hk : ∀ (x1 : Int32) (S' : zm_S), res = .inr (x1, S') → zw p l e R s m args below meth c (vx_MQ below (zm_Qc zk_E V (zo_i out)) (zm_XC zk_E V zo_x) args s mc ms (fun q => V.2.2.2.1 ≤ q)) 3 zk_E V mc ms 34 [(1, .int x1)] [] S' rc rs) (hrec : ∀ (i1' : Int32) (i2' : Int32) (S : zm_S), k a0 i1' i2' S = some res → zw p l e R s m args below meth c (vx_MQ below (zm_Qc zk_E V (zo_i out)) (zm_XC zk_E V zo_x) args s mc ms (fun q => V.2.2.2.1 ≤ q)) 3 zk_E V mc ms 4 [(0, .ref a0), (1, .int i1'), (2, .int i2')] [] S rc rs) {S : zm_S} (h : zf_X10_countFreeInside_J26 N k a0 i2 t0 t1 S = some res) : zw p l e R s m args below meth c (vx_MQ below (zm_Qc zk_E V (zo_i out)) (zm_XC zk_E V zo_x) args s mc ms (fun q => V.2.2.2.1 ≤ q)) 3 zk_E V mc ms 26 [(0, .ref a0), (2, .int i2)] [.int t1, .int t0] S rc rs := by
  unfold zf_X10_countFreeInside_J26 at h
  refine zw_iadd hX dX10_countFreeInside_26 ?_
  refine zw_istore_n hX dX10_countFreeInside_27 (by decide) ?_
  refine zw_iinc (v := (i2 + (1 : Int32))) hX dX10_countFreeInside_28 rfl rfl (by decide) ?_
  refine zw_goto (tgt := 4) hX dX10_countFreeInside_31 (by decide) ?_
  refine zw_sub (lv' := [(0, .ref a0), (1, .int (t0 + t1)), (2, .int (i2 + (1 : Int32)))]) (List.forall_mem_cons.mpr ⟨rfl, (List.forall_mem_cons.mpr ⟨rfl, (List.forall_mem_cons.mpr ⟨rfl, zs_nil⟩)⟩)⟩) ?_
  exact hrec _ _ _ h
set_option maxHeartbeats 4000000 in
set_option maxRecDepth 100000 in
theorem zt_X10_countFreeInside_L4 {p : Program} {l : Launch} {e : Env} {R : Room} {s : State} {m : MethodId} {args : Array Value} {below : List Frame} {meth : Method} {c : Code} {V : zm_V} {mc ms d rc rs : Nat} (hX : zm_X p R s m args meth c RX10 "countFreeInside" cX10_countFreeInside 3 zk_E V mc ms) (hr : meth.sig.returnType = (some .int)) (hR : R.frames = d ∧ R.locals = 64 * d) (hd : 4 ≤ d) {N : Nat} {res : (Int32 × zm_S) ⊕ ((Int32) × zm_S)} {out : (Int32 × zm_S)} (a0 : Nat) (hf : ∀ o, res = .inl o → o = out) (hk : ∀ (x1 : Int32) (S' : zm_S), res = .inr (x1, S') → zw p l e R s m args below meth c (vx_MQ below (zm_Qc zk_E V (zo_i out)) (zm_XC zk_E V zo_x) args s mc ms (fun q => V.2.2.2.1 ≤ q)) 3 zk_E V mc ms 34 [(1, .int x1)] [] S' rc rs) : ∀ (n : Nat) (i1 : Int32) (i2 : Int32) (S : zm_S), zf_X10_countFreeInside_L4 N n a0 i1 i2 S = some res → zw p l e R s m args below meth c (vx_MQ below (zm_Qc zk_E V (zo_i out)) (zm_XC zk_E V zo_x) args s mc ms (fun q => V.2.2.2.1 ≤ q)) 3 zk_E V mc ms 4 [(0, .ref a0), (1, .int i1), (2, .int i2)] [] S rc rs := by
  intro n
  induction n with
  | zero => intro i1 i2 S h; cases h
  | succ n ih =>
    intro i1 i2 S h
    rw [zf_X10_countFreeInside_L4] at h
    refine zw_iload_n hX dX10_countFreeInside_4 rfl ?_
    refine zw_aload_n hX dX10_countFreeInside_5 rfl ?_
    obtain ⟨v1, g, h⟩ := zb_some h
    refine zw_geti hX zl_X10_93 dX10_countFreeInside_6 g ?_
    refine zw_icmp_ge (tgt := 34) hX dX10_countFreeInside_9 (by decide) (fun c9 => ?_) (fun c9 => ?_)
    · rw [if_pos c9] at h
      refine zw_sub (lv' := [(1, .int i1)]) (List.forall_mem_cons.mpr ⟨rfl, zs_nil⟩) ?_
      exact hk _ _ (Option.some.inj h).symm
    · rw [if_neg c9] at h
      refine zw_iload_n hX dX10_countFreeInside_12 rfl ?_
      refine zw_aload_n hX dX10_countFreeInside_13 rfl ?_
      refine zw_iload_n hX dX10_countFreeInside_14 rfl ?_
      obtain ⟨_, gi, h⟩ := zb_some h
      obtain ⟨r3, g, h⟩ := zb_some h
      refine zc_Vi (as := [.int i2]) hX gi (zt_X10_isFreeInside (d := d - 1) (by omega) g) zl_X10_115 rfl dX10_countFreeInside_15 ⟨rfl, rfl, Nat.le_of_ble_eq_true rfl⟩ ⟨by omega, by omega⟩ ?_
      refine zw_if_eq (tgt := 25) hX dX10_countFreeInside_18 (by decide) (fun c18 => ?_) (fun c18 => ?_)
      · rw [if_pos c18] at h
        refine zw_iconst (v := (0 : Int32)) hX dX10_countFreeInside_25 (by decide) ?_
        refine zw_sub (lv' := [(0, .ref a0), (2, .int i2)]) (List.forall_mem_cons.mpr ⟨rfl, (List.forall_mem_cons.mpr ⟨rfl, zs_nil⟩)⟩) ?_
        exact zt_X10_countFreeInside_J26 hX hr hR hd hf hk ih h
      · rw [if_neg c18] at h
        refine zw_iconst (v := (1 : Int32)) hX dX10_countFreeInside_21 (by decide) ?_
        refine zw_goto (tgt := 26) hX dX10_countFreeInside_22 (by decide) ?_
        refine zw_sub (lv' := [(0, .ref a0), (2, .int i2)]) (List.forall_mem_cons.mpr ⟨rfl, (List.forall_mem_cons.mpr ⟨rfl, zs_nil⟩)⟩) ?_
        exact zt_X10_countFreeInside_J26 hX hr hR hd hf hk ih h
set_option maxHeartbeats 4000000 in
set_option maxRecDepth 100000 in
theorem zt_X10_countFreeInside {l : Launch} {V : zm_V} {N : Nat} {S : zm_S} {out : (Int32 × zm_S)} {d : Nat} {a0 : Nat} (hd : 4 ≤ d) (h : zf_X10_countFreeInside N a0 S = some out) : zm_Met l zk_E V yX10_countFreeInside (.code yX10_countFreeInside cX10_countFreeInside 3 (some .int)) d [.ref a0] S 0 0 (zo_i out) zo_x := by
  refine zm_of (by decide +kernel) (Nat.le_of_ble_eq_true rfl) ?_
  intro p e R s m args below meth c hRR hX hr hxt
  have hR : R.frames = d ∧ R.locals = 64 * d := by rw [hRR]; exact ⟨rfl, rfl⟩
  have hX : zm_X p R s m args meth c RX10 "countFreeInside" cX10_countFreeInside 3 zk_E V 0 0 := hX
  unfold zf_X10_countFreeInside at h
  refine zw_sub (lv' := [(0, .ref a0)]) (List.forall_mem_cons.mpr ⟨rfl, zs_nil⟩) ?_
  refine zw_iconst (v := (0 : Int32)) hX dX10_countFreeInside_0 (by decide) ?_
  refine zw_istore_n hX dX10_countFreeInside_1 (by decide) ?_
  refine zw_iconst (v := (0 : Int32)) hX dX10_countFreeInside_2 (by decide) ?_
  refine zw_istore_n hX dX10_countFreeInside_3 (by decide) ?_
  obtain ⟨r, g, h⟩ := zb_some h
  refine zw_sub (lv' := [(0, .ref a0), (1, .int (0 : Int32)), (2, .int (0 : Int32))]) (List.forall_mem_cons.mpr ⟨rfl, (List.forall_mem_cons.mpr ⟨rfl, (List.forall_mem_cons.mpr ⟨rfl, zs_nil⟩)⟩)⟩) ?_
  refine zt_X10_countFreeInside_L4 hX hr hR hd (res := r) (out := out) a0 ?_ ?_ N _ _ _ g
  · intro o ho
    subst ho
    exact Option.some.inj h
  · intro v5 S4 hx
    subst hx
    try dsimp only at h
    refine zw_iload_n hX dX10_countFreeInside_34 rfl ?_
    obtain rfl := Option.some.inj h
    exact zw_iret hX hr dX10_countFreeInside_35 rfl ⟨rfl, rfl⟩
set_option maxHeartbeats 4000000 in
set_option maxRecDepth 100000 in
theorem zt_X10_catchPersons_L2 {p : Program} {l : Launch} {e : Env} {R : Room} {s : State} {m : MethodId} {args : Array Value} {below : List Frame} {meth : Method} {c : Code} {V : zm_V} {mc ms d rc rs : Nat} (hX : zm_X p R s m args meth c RX10 "catchPersons" cX10_catchPersons 3 zk_E V mc ms) (hr : meth.sig.returnType = none) (hR : R.frames = d ∧ R.locals = 64 * d) (hd : 4 ≤ d) {N : Nat} {res : (Unit × zm_S) ⊕ ((Unit) × zm_S)} {out : (Unit × zm_S)} (a0 : Nat) (i1 : Int32) (hf : ∀ o, res = .inl o → o = out) (hk : ∀ (S' : zm_S), res = .inr ((), S') → zw p l e R s m args below meth c (vx_MQ below (zm_Qc zk_E V (zo_v out)) (zm_XC zk_E V zo_x) args s mc ms (fun q => V.2.2.2.1 ≤ q)) 3 zk_E V mc ms 46 [] [] S' rc rs) : ∀ (n : Nat) (i2 : Int32) (S : zm_S), zf_X10_catchPersons_L2 N n a0 i1 i2 S = some res → zw p l e R s m args below meth c (vx_MQ below (zm_Qc zk_E V (zo_v out)) (zm_XC zk_E V zo_x) args s mc ms (fun q => V.2.2.2.1 ≤ q)) 3 zk_E V mc ms 2 [(0, .ref a0), (1, .int i1), (2, .int i2)] [] S rc rs := by
  intro n
  induction n with
  | zero => intro i2 S h; cases h
  | succ n ih =>
    intro i2 S h
    rw [zf_X10_catchPersons_L2] at h
    refine zw_iload_n hX dX10_catchPersons_2 rfl ?_
    refine zw_aload_n hX dX10_catchPersons_3 rfl ?_
    obtain ⟨v1, g, h⟩ := zb_some h
    refine zw_geti hX zl_X10_93 dX10_catchPersons_4 g ?_
    refine zw_icmp_ge (tgt := 46) hX dX10_catchPersons_7 (by decide) (fun c7 => ?_) (fun c7 => ?_)
    · rw [if_pos c7] at h
      refine zw_sub (lv' := []) zs_nil ?_
      exact hk  _ (Option.some.inj h).symm
    · rw [if_neg c7] at h
      refine zw_aload_n hX dX10_catchPersons_10 rfl ?_
      refine zw_iload_n hX dX10_catchPersons_11 rfl ?_
      obtain ⟨_, gi, h⟩ := zb_some h
      obtain ⟨r3, g, h⟩ := zb_some h
      refine zc_Vi (as := [.int i2]) hX gi (zt_X10_isFreeInside (d := d - 1) (by omega) g) zl_X10_115 rfl dX10_catchPersons_12 ⟨rfl, rfl, Nat.le_of_ble_eq_true rfl⟩ ⟨by omega, by omega⟩ ?_
      refine zw_if_eq (tgt := 40) hX dX10_catchPersons_15 (by decide) (fun c15 => ?_) (fun c15 => ?_)
      · rw [if_pos c15] at h
        refine zw_iinc (v := (i2 + (1 : Int32))) hX dX10_catchPersons_40 rfl rfl (by decide) ?_
        refine zw_goto (tgt := 2) hX dX10_catchPersons_43 (by decide) ?_
        refine zw_sub (lv' := [(0, .ref a0), (1, .int i1), (2, .int (i2 + (1 : Int32)))]) (List.forall_mem_cons.mpr ⟨rfl, (List.forall_mem_cons.mpr ⟨rfl, (List.forall_mem_cons.mpr ⟨rfl, zs_nil⟩)⟩)⟩) ?_
        exact ih _ _ h
      · rw [if_neg c15] at h
        refine zw_aload_n hX dX10_catchPersons_18 rfl ?_
        obtain ⟨b4, g, h⟩ := zb_some h
        refine zw_getr hX zl_X10_11 dX10_catchPersons_19 g ?_
        refine zw_aload_n hX dX10_catchPersons_22 rfl ?_
        refine zw_iload_n hX dX10_catchPersons_23 rfl ?_
        obtain ⟨_, gi, h⟩ := zb_some h
        obtain ⟨r6, g, h⟩ := zb_some h
        refine zc_Vi (as := [.int i2]) hX gi (zt_X10_cellOf (d := d - 1) (by omega) g) zl_X10_96 rfl dX10_catchPersons_24 ⟨rfl, rfl, Nat.le_of_ble_eq_true rfl⟩ ⟨by omega, by omega⟩ ?_
        obtain ⟨v7, g, h⟩ := zb_some h
        refine zw_xz hX dX10_catchPersons_27 g ?_
        refine zw_if_eq (tgt := 40) hX dX10_catchPersons_28 (by decide) (fun c28 => ?_) (fun c28 => ?_)
        · rw [if_pos c28] at h
          refine zw_iinc (v := (i2 + (1 : Int32))) hX dX10_catchPersons_40 rfl rfl (by decide) ?_
          refine zw_goto (tgt := 2) hX dX10_catchPersons_43 (by decide) ?_
          refine zw_sub (lv' := [(0, .ref a0), (1, .int i1), (2, .int (i2 + (1 : Int32)))]) (List.forall_mem_cons.mpr ⟨rfl, (List.forall_mem_cons.mpr ⟨rfl, (List.forall_mem_cons.mpr ⟨rfl, zs_nil⟩)⟩)⟩) ?_
          exact ih _ _ h
        · rw [if_neg c28] at h
          refine zw_aload_n hX dX10_catchPersons_31 rfl ?_
          obtain ⟨b8, g, h⟩ := zb_some h
          refine zw_getr hX zl_X10_29 dX10_catchPersons_32 g ?_
          refine zw_iload_n hX dX10_catchPersons_35 rfl ?_
          obtain ⟨b9, g, h⟩ := zb_some h
          refine zw_xr hX dX10_catchPersons_36 g ?_
          refine zw_iconst (v := (3 : Int32)) hX dX10_catchPersons_37 (by decide) ?_
          refine zw_iload_n hX dX10_catchPersons_38 rfl ?_
          obtain ⟨S10, g, h⟩ := zb_some h
          refine zw_si hX dX10_catchPersons_39 g ?_
          refine zw_iinc (v := (i2 + (1 : Int32))) hX dX10_catchPersons_40 rfl rfl (by decide) ?_
          refine zw_goto (tgt := 2) hX dX10_catchPersons_43 (by decide) ?_
          refine zw_sub (lv' := [(0, .ref a0), (1, .int i1), (2, .int (i2 + (1 : Int32)))]) (List.forall_mem_cons.mpr ⟨rfl, (List.forall_mem_cons.mpr ⟨rfl, (List.forall_mem_cons.mpr ⟨rfl, zs_nil⟩)⟩)⟩) ?_
          exact ih _ _ h
set_option maxHeartbeats 4000000 in
set_option maxRecDepth 100000 in
theorem zt_X10_catchPersons {l : Launch} {V : zm_V} {N : Nat} {S : zm_S} {out : (Unit × zm_S)} {d : Nat} {a0 : Nat} {i1 : Int32} (hd : 4 ≤ d) (h : zf_X10_catchPersons N a0 i1 S = some out) : zm_Met l zk_E V yX10_catchPersons (.code yX10_catchPersons cX10_catchPersons 3 none) d [.ref a0, .int i1] S 0 0 (zo_v out) zo_x := by
  refine zm_of (by decide +kernel) (Nat.le_of_ble_eq_true rfl) ?_
  intro p e R s m args below meth c hRR hX hr hxt
  have hR : R.frames = d ∧ R.locals = 64 * d := by rw [hRR]; exact ⟨rfl, rfl⟩
  have hX : zm_X p R s m args meth c RX10 "catchPersons" cX10_catchPersons 3 zk_E V 0 0 := hX
  unfold zf_X10_catchPersons at h
  refine zw_sub (lv' := [(0, .ref a0), (1, .int i1)]) (List.forall_mem_cons.mpr ⟨rfl, (List.forall_mem_cons.mpr ⟨rfl, zs_nil⟩)⟩) ?_
  refine zw_iconst (v := (0 : Int32)) hX dX10_catchPersons_0 (by decide) ?_
  refine zw_istore_n hX dX10_catchPersons_1 (by decide) ?_
  obtain ⟨r, g, h⟩ := zb_some h
  refine zw_sub (lv' := [(0, .ref a0), (1, .int i1), (2, .int (0 : Int32))]) (List.forall_mem_cons.mpr ⟨rfl, (List.forall_mem_cons.mpr ⟨rfl, (List.forall_mem_cons.mpr ⟨rfl, zs_nil⟩)⟩)⟩) ?_
  refine zt_X10_catchPersons_L2 hX hr hR hd (res := r) (out := out) a0 i1 ?_ ?_ N _ _ g
  · intro o ho
    subst ho
    exact Option.some.inj h
  · intro  S11 hx
    subst hx
    try dsimp only at h
    obtain rfl := Option.some.inj h
    exact zw_vret hX hr dX10_catchPersons_46 ⟨rfl, rfl⟩
set_option maxHeartbeats 4000000 in
set_option maxRecDepth 100000 in
theorem zt_X10_urgencyOf {l : Launch} {V : zm_V} {N : Nat} {S : zm_S} {out : (Int32 × zm_S)} {d : Nat} {a0 : Nat} {i1 : Int32} (hd : 3 ≤ d) (h : zf_X10_urgencyOf N a0 i1 S = some out) : zm_Met l zk_E V yX10_urgencyOf (.code yX10_urgencyOf cX10_urgencyOf 3 (some .int)) d [.ref a0, .int i1] S 0 0 (zo_i out) zo_x := by
  refine zm_of (by decide +kernel) (Nat.le_of_ble_eq_true rfl) ?_
  intro p e R s m args below meth c hRR hX hr hxt
  have hR : R.frames = d ∧ R.locals = 64 * d := by rw [hRR]; exact ⟨rfl, rfl⟩
  have hX : zm_X p R s m args meth c RX10 "urgencyOf" cX10_urgencyOf 3 zk_E V 0 0 := hX
  unfold zf_X10_urgencyOf at h
  refine zw_sub (lv' := [(0, .ref a0), (1, .int i1)]) (List.forall_mem_cons.mpr ⟨rfl, (List.forall_mem_cons.mpr ⟨rfl, zs_nil⟩)⟩) ?_
  refine zw_aload_n hX dX10_urgencyOf_0 rfl ?_
  obtain ⟨b1, g, h⟩ := zb_some h
  refine zw_getr hX zl_X10_21 dX10_urgencyOf_1 g ?_
  refine zw_aload_n hX dX10_urgencyOf_4 rfl ?_
  refine zw_iload_n hX dX10_urgencyOf_5 rfl ?_
  obtain ⟨_, gi, h⟩ := zb_some h
  obtain ⟨r3, g, h⟩ := zb_some h
  refine zc_Vi (as := [.int i1]) hX gi (zt_X10_cellOf (d := d - 1) (by omega) g) zl_X10_96 rfl dX10_urgencyOf_6 ⟨rfl, rfl, Nat.le_of_ble_eq_true rfl⟩ ⟨by omega, by omega⟩ ?_
  obtain ⟨v4, g, h⟩ := zb_some h
  refine zw_xi hX dX10_urgencyOf_9 g ?_
  refine zw_istore_n hX dX10_urgencyOf_10 (by decide) ?_
  refine zw_iload_n hX dX10_urgencyOf_11 rfl ?_
  refine zw_iconst (v := (-1 : Int32)) hX dX10_urgencyOf_12 (by decide) ?_
  refine zw_icmp_ne (tgt := 21) hX dX10_urgencyOf_13 (by decide) (fun c13 => ?_) (fun c13 => ?_)
  · rw [if_neg c13] at h
    refine zw_iload_n hX dX10_urgencyOf_21 rfl ?_
    obtain rfl := Option.some.inj h
    exact zw_iret hX hr dX10_urgencyOf_22 rfl ⟨rfl, rfl⟩
  · rw [if_pos c13] at h
    refine zw_ldc (v := (2147483647 : Int32)) hX dX10_urgencyOf_16 zl_X10_139 ?_
    refine zw_goto (tgt := 22) hX dX10_urgencyOf_18 (by decide) ?_
    obtain rfl := Option.some.inj h
    exact zw_iret hX hr dX10_urgencyOf_22 rfl ⟨rfl, rfl⟩
set_option maxHeartbeats 4000000 in
set_option maxRecDepth 100000 in
theorem zt_X10_lineUp_L45 {p : Program} {l : Launch} {e : Env} {R : Room} {s : State} {m : MethodId} {args : Array Value} {below : List Frame} {meth : Method} {c : Code} {V : zm_V} {mc ms d rc rs : Nat} (hX : zm_X p R s m args meth c RX10 "lineUp" cX10_lineUp 6 zk_E V mc ms) (hr : meth.sig.returnType = (some .int)) (hR : R.frames = d ∧ R.locals = 64 * d) (hd : 4 ≤ d) {N : Nat} {res : (Int32 × zm_S) ⊕ ((Int32) × zm_S)} {out : (Int32 × zm_S)} (a0 : Nat) (i1 : Int32) (i2 : Int32) (i3 : Int32) (hf : ∀ o, res = .inl o → o = out) (hk : ∀ (x5 : Int32) (S' : zm_S), res = .inr (x5, S') → zw p l e R s m args below meth c (vx_MQ below (zm_Qc zk_E V (zo_i out)) (zm_XC zk_E V zo_x) args s mc ms (fun q => V.2.2.2.1 ≤ q)) 6 zk_E V mc ms 93 [(0, .ref a0), (1, .int i1), (2, .int i2), (3, .int i3), (5, .int x5)] [] S' rc rs) : ∀ (n : Nat) (i5 : Int32) (S : zm_S), zf_X10_lineUp_L45 N n a0 i1 i2 i3 i5 S = some res → zw p l e R s m args below meth c (vx_MQ below (zm_Qc zk_E V (zo_i out)) (zm_XC zk_E V zo_x) args s mc ms (fun q => V.2.2.2.1 ≤ q)) 6 zk_E V mc ms 45 [(0, .ref a0), (1, .int i1), (2, .int i2), (3, .int i3), (5, .int i5)] [] S rc rs := by
  intro n
  induction n with
  | zero => intro i5 S h; cases h
  | succ n ih =>
    intro i5 S h
    rw [zf_X10_lineUp_L45] at h
    refine zw_iload hX dX10_lineUp_45 rfl ?_
    refine zw_if_le (tgt := 93) hX dX10_lineUp_47 (by decide) (fun c47 => ?_) (fun c47 => ?_)
    · rw [if_pos c47] at h
      refine zw_sub (lv' := [(0, .ref a0), (1, .int i1), (2, .int i2), (3, .int i3), (5, .int i5)]) (List.forall_mem_cons.mpr ⟨rfl, (List.forall_mem_cons.mpr ⟨rfl, (List.forall_mem_cons.mpr ⟨rfl, (List.forall_mem_cons.mpr ⟨rfl, (List.forall_mem_cons.mpr ⟨rfl, zs_nil⟩)⟩)⟩)⟩)⟩) ?_
      exact hk _ _ (Option.some.inj h).symm
    · rw [if_neg c47] at h
      refine zw_aload_n hX dX10_lineUp_50 rfl ?_
      refine zw_aload_n hX dX10_lineUp_51 rfl ?_
      obtain ⟨b8, g, h⟩ := zb_some h
      refine zw_getr hX zl_X10_32 dX10_lineUp_52 g ?_
      refine zw_iload hX dX10_lineUp_55 rfl ?_
      refine zw_iconst (v := (1 : Int32)) hX dX10_lineUp_57 (by decide) ?_
      refine zw_isub hX dX10_lineUp_58 ?_
      obtain ⟨v9, g, h⟩ := zb_some h
      refine zw_xi hX dX10_lineUp_59 g ?_
      obtain ⟨_, gi, h⟩ := zb_some h
      obtain ⟨r11, g, h⟩ := zb_some h
      refine zc_Vi (as := [.int v9]) hX gi (zt_X10_urgencyOf (d := d - 1) (by omega) g) zl_X10_134 rfl dX10_lineUp_60 ⟨rfl, rfl, Nat.le_of_ble_eq_true rfl⟩ ⟨by omega, by omega⟩ ?_
      refine zw_aload_n hX dX10_lineUp_63 rfl ?_
      refine zw_iload_n hX dX10_lineUp_64 rfl ?_
      obtain ⟨_, gi, h⟩ := zb_some h
      obtain ⟨r13, g, h⟩ := zb_some h
      refine zc_Vi (as := [.int i3]) hX gi (zt_X10_urgencyOf (d := d - 1) (by omega) g) zl_X10_134 rfl dX10_lineUp_65 ⟨rfl, rfl, Nat.le_of_ble_eq_true rfl⟩ ⟨by omega, by omega⟩ ?_
      refine zw_icmp_le (tgt := 93) hX dX10_lineUp_68 (by decide) (fun c68 => ?_) (fun c68 => ?_)
      · rw [if_pos c68] at h
        refine zw_sub (lv' := [(0, .ref a0), (1, .int i1), (2, .int i2), (3, .int i3), (5, .int i5)]) (List.forall_mem_cons.mpr ⟨rfl, (List.forall_mem_cons.mpr ⟨rfl, (List.forall_mem_cons.mpr ⟨rfl, (List.forall_mem_cons.mpr ⟨rfl, (List.forall_mem_cons.mpr ⟨rfl, zs_nil⟩)⟩)⟩)⟩)⟩) ?_
        exact hk _ _ (Option.some.inj h).symm
      · rw [if_neg c68] at h
        refine zw_aload_n hX dX10_lineUp_71 rfl ?_
        obtain ⟨b14, g, h⟩ := zb_some h
        refine zw_getr hX zl_X10_32 dX10_lineUp_72 g ?_
        refine zw_iload hX dX10_lineUp_75 rfl ?_
        refine zw_aload_n hX dX10_lineUp_77 rfl ?_
        obtain ⟨b15, g, h⟩ := zb_some h
        refine zw_getr hX zl_X10_32 dX10_lineUp_78 g ?_
        refine zw_iload hX dX10_lineUp_81 rfl ?_
        refine zw_iconst (v := (1 : Int32)) hX dX10_lineUp_83 (by decide) ?_
        refine zw_isub hX dX10_lineUp_84 ?_
        obtain ⟨v16, g, h⟩ := zb_some h
        refine zw_xi hX dX10_lineUp_85 g ?_
        obtain ⟨S17, g, h⟩ := zb_some h
        refine zw_si hX dX10_lineUp_86 g ?_
        refine zw_iinc (v := (i5 + (-1 : Int32))) hX dX10_lineUp_87 rfl rfl (by decide) ?_
        refine zw_goto (tgt := 45) hX dX10_lineUp_90 (by decide) ?_
        refine zw_sub (lv' := [(0, .ref a0), (1, .int i1), (2, .int i2), (3, .int i3), (5, .int (i5 + (-1 : Int32)))]) (List.forall_mem_cons.mpr ⟨rfl, (List.forall_mem_cons.mpr ⟨rfl, (List.forall_mem_cons.mpr ⟨rfl, (List.forall_mem_cons.mpr ⟨rfl, (List.forall_mem_cons.mpr ⟨rfl, zs_nil⟩)⟩)⟩)⟩)⟩) ?_
        exact ih _ _ h
set_option maxHeartbeats 4000000 in
set_option maxRecDepth 100000 in
theorem zt_X10_lineUp_J93 {p : Program} {l : Launch} {e : Env} {R : Room} {s : State} {m : MethodId} {args : Array Value} {below : List Frame} {meth : Method} {c : Code} {V : zm_V} {mc ms d rc rs : Nat} (hX : zm_X p R s m args meth c RX10 "lineUp" cX10_lineUp 6 zk_E V mc ms) (hr : meth.sig.returnType = (some .int)) (hR : R.frames = d ∧ R.locals = 64 * d) (hd : 4 ≤ d) {N : Nat} {k : Nat → Int32 → Int32 → Int32 → zm_S → Option ((Int32 × zm_S) ⊕ ((Int32) × zm_S))} {a0 : Nat} {i1 : Int32} {i2 : Int32} {i3 : Int32} {i5 : Int32} {res : (Int32 × zm_S) ⊕ ((Int32) × zm_S)} {out : (Int32 × zm_S)}   (hf : ∀ o, res = .inl o → o = out) (hk : ∀ (x2 : Int32) (S' : zm_S), res = .inr (x2, S') → zw p l e R s m args below meth c (vx_MQ below (zm_Qc zk_E V (zo_i out)) (zm_XC zk_E V zo_x) args s mc ms (fun q => V.2.2.2.1 ≤ q)) 6 zk_E V mc ms 110 [(2, .int x2)] [] S' rc rs) (hrec : ∀ (i2' : Int32) (i3' : Int32) (S : zm_S), k a0 i1 i2' i3' S = some res → zw p l e R s m args below meth c (vx_MQ below (zm_Qc zk_E V (zo_i out)) (zm_XC zk_E V zo_x) args s mc ms (fun q => V.2.2.2.1 ≤ q)) 6 zk_E V mc ms 4 [(0, .ref a0), (1, .int i1), (2, .int i2'), (3, .int i3')] [] S rc rs) {S : zm_S} (h : zf_X10_lineUp_J93 N k a0 i1 i2 i3 i5 S = some res) : zw p l e R s m args below meth c (vx_MQ below (zm_Qc zk_E V (zo_i out)) (zm_XC zk_E V zo_x) args s mc ms (fun q => V.2.2.2.1 ≤ q)) 6 zk_E V mc ms 93 [(0, .ref a0), (1, .int i1), (2, .int i2), (3, .int i3), (5, .int i5)] [] S rc rs := by
  unfold zf_X10_lineUp_J93 at h
  refine zw_aload_n hX dX10_lineUp_93 rfl ?_
  obtain ⟨b20, g, h⟩ := zb_some h
  refine zw_getr hX zl_X10_32 dX10_lineUp_94 g ?_
  refine zw_iload hX dX10_lineUp_97 rfl ?_
  refine zw_iload_n hX dX10_lineUp_99 rfl ?_
  obtain ⟨S21, g, h⟩ := zb_some h
  refine zw_si hX dX10_lineUp_100 g ?_
  refine zw_iinc (v := (i2 + (1 : Int32))) hX dX10_lineUp_101 rfl rfl (by decide) ?_
  refine zw_iinc (v := (i3 + (1 : Int32))) hX dX10_lineUp_104 rfl rfl (by decide) ?_
  refine zw_goto (tgt := 4) hX dX10_lineUp_107 (by decide) ?_
  refine zw_sub (lv' := [(0, .ref a0), (1, .int i1), (2, .int (i2 + (1 : Int32))), (3, .int (i3 + (1 : Int32)))]) (List.forall_mem_cons.mpr ⟨rfl, (List.forall_mem_cons.mpr ⟨rfl, (List.forall_mem_cons.mpr ⟨rfl, (List.forall_mem_cons.mpr ⟨rfl, zs_nil⟩)⟩)⟩)⟩) ?_
  exact hrec _ _ _ h
set_option maxHeartbeats 4000000 in
set_option maxRecDepth 100000 in
theorem zt_X10_lineUp_L4 {p : Program} {l : Launch} {e : Env} {R : Room} {s : State} {m : MethodId} {args : Array Value} {below : List Frame} {meth : Method} {c : Code} {V : zm_V} {mc ms d rc rs : Nat} (hX : zm_X p R s m args meth c RX10 "lineUp" cX10_lineUp 6 zk_E V mc ms) (hr : meth.sig.returnType = (some .int)) (hR : R.frames = d ∧ R.locals = 64 * d) (hd : 4 ≤ d) {N : Nat} {res : (Int32 × zm_S) ⊕ ((Int32) × zm_S)} {out : (Int32 × zm_S)} (a0 : Nat) (i1 : Int32) (hf : ∀ o, res = .inl o → o = out) (hk : ∀ (x2 : Int32) (S' : zm_S), res = .inr (x2, S') → zw p l e R s m args below meth c (vx_MQ below (zm_Qc zk_E V (zo_i out)) (zm_XC zk_E V zo_x) args s mc ms (fun q => V.2.2.2.1 ≤ q)) 6 zk_E V mc ms 110 [(2, .int x2)] [] S' rc rs) : ∀ (n : Nat) (i2 : Int32) (i3 : Int32) (S : zm_S), zf_X10_lineUp_L4 N n a0 i1 i2 i3 S = some res → zw p l e R s m args below meth c (vx_MQ below (zm_Qc zk_E V (zo_i out)) (zm_XC zk_E V zo_x) args s mc ms (fun q => V.2.2.2.1 ≤ q)) 6 zk_E V mc ms 4 [(0, .ref a0), (1, .int i1), (2, .int i2), (3, .int i3)] [] S rc rs := by
  intro n
  induction n with
  | zero => intro i2 i3 S h; cases h
  | succ n ih =>
    intro i2 i3 S h
    rw [zf_X10_lineUp_L4] at h
    refine zw_iload_n hX dX10_lineUp_4 rfl ?_
    refine zw_aload_n hX dX10_lineUp_5 rfl ?_
    obtain ⟨v1, g, h⟩ := zb_some h
    refine zw_geti hX zl_X10_93 dX10_lineUp_6 g ?_
    refine zw_icmp_ge (tgt := 110) hX dX10_lineUp_9 (by decide) (fun c9 => ?_) (fun c9 => ?_)
    · rw [if_pos c9] at h
      refine zw_sub (lv' := [(2, .int i2)]) (List.forall_mem_cons.mpr ⟨rfl, zs_nil⟩) ?_
      exact hk _ _ (Option.some.inj h).symm
    · rw [if_neg c9] at h
      refine zw_aload_n hX dX10_lineUp_12 rfl ?_
      obtain ⟨b2, g, h⟩ := zb_some h
      refine zw_getr hX zl_X10_29 dX10_lineUp_13 g ?_
      refine zw_iload_n hX dX10_lineUp_16 rfl ?_
      obtain ⟨b3, g, h⟩ := zb_some h
      refine zw_xr hX dX10_lineUp_17 g ?_
      refine zw_astore hX dX10_lineUp_18 (by decide) ?_
      refine zw_aload_n hX dX10_lineUp_20 rfl ?_
      refine zw_iload_n hX dX10_lineUp_21 rfl ?_
      obtain ⟨_, gi, h⟩ := zb_some h
      obtain ⟨r5, g, h⟩ := zb_some h
      refine zc_Vi (as := [.int i3]) hX gi (zt_X10_isFreeInside (d := d - 1) (by omega) g) zl_X10_115 rfl dX10_lineUp_22 ⟨rfl, rfl, Nat.le_of_ble_eq_true rfl⟩ ⟨by omega, by omega⟩ ?_
      refine zw_if_eq (tgt := 104) hX dX10_lineUp_25 (by decide) (fun c25 => ?_) (fun c25 => ?_)
      · rw [if_pos c25] at h
        refine zw_iinc (v := (i3 + (1 : Int32))) hX dX10_lineUp_104 rfl rfl (by decide) ?_
        refine zw_goto (tgt := 4) hX dX10_lineUp_107 (by decide) ?_
        refine zw_sub (lv' := [(0, .ref a0), (1, .int i1), (2, .int i2), (3, .int (i3 + (1 : Int32)))]) (List.forall_mem_cons.mpr ⟨rfl, (List.forall_mem_cons.mpr ⟨rfl, (List.forall_mem_cons.mpr ⟨rfl, (List.forall_mem_cons.mpr ⟨rfl, zs_nil⟩)⟩)⟩)⟩) ?_
        exact ih _ _ _ h
      · rw [if_neg c25] at h
        refine zw_iload_n hX dX10_lineUp_28 rfl ?_
        refine zw_aload hX dX10_lineUp_29 rfl ?_
        refine zw_iconst (v := (5 : Int32)) hX dX10_lineUp_31 (by decide) ?_
        obtain ⟨v6, g, h⟩ := zb_some h
        refine zw_xi hX dX10_lineUp_32 g ?_
        refine zw_isub hX dX10_lineUp_33 ?_
        refine zw_aload hX dX10_lineUp_34 rfl ?_
        refine zw_bipush (v := (7 : Int32)) hX dX10_lineUp_36 (by decide) ?_
        obtain ⟨v7, g, h⟩ := zb_some h
        refine zw_xi hX dX10_lineUp_38 g ?_
        refine zw_icmp_lt (tgt := 104) hX dX10_lineUp_39 (by decide) (fun c39 => ?_) (fun c39 => ?_)
        · rw [if_pos c39] at h
          refine zw_iinc (v := (i3 + (1 : Int32))) hX dX10_lineUp_104 rfl rfl (by decide) ?_
          refine zw_goto (tgt := 4) hX dX10_lineUp_107 (by decide) ?_
          refine zw_sub (lv' := [(0, .ref a0), (1, .int i1), (2, .int i2), (3, .int (i3 + (1 : Int32)))]) (List.forall_mem_cons.mpr ⟨rfl, (List.forall_mem_cons.mpr ⟨rfl, (List.forall_mem_cons.mpr ⟨rfl, (List.forall_mem_cons.mpr ⟨rfl, zs_nil⟩)⟩)⟩)⟩) ?_
          exact ih _ _ _ h
        · rw [if_neg c39] at h
          refine zw_iload_n hX dX10_lineUp_42 rfl ?_
          refine zw_istore hX dX10_lineUp_43 (by decide) ?_
          obtain ⟨r, g, h⟩ := zb_some h
          refine zw_sub (lv' := [(0, .ref a0), (1, .int i1), (2, .int i2), (3, .int i3), (5, .int i2)]) (List.forall_mem_cons.mpr ⟨rfl, (List.forall_mem_cons.mpr ⟨rfl, (List.forall_mem_cons.mpr ⟨rfl, (List.forall_mem_cons.mpr ⟨rfl, (List.forall_mem_cons.mpr ⟨rfl, zs_nil⟩)⟩)⟩)⟩)⟩) ?_
          refine zt_X10_lineUp_L45 hX hr hR hd (res := r) (out := out) a0 i1 i2 i3 ?_ ?_ N _ _ g
          · intro o ho
            subst ho
            exact hf _ (Option.some.inj h).symm
          · intro v19 S18 hx
            subst hx
            try dsimp only at h
            refine zw_sub (lv' := [(0, .ref a0), (1, .int i1), (2, .int i2), (3, .int i3), (5, .int v19)]) (List.forall_mem_cons.mpr ⟨rfl, (List.forall_mem_cons.mpr ⟨rfl, (List.forall_mem_cons.mpr ⟨rfl, (List.forall_mem_cons.mpr ⟨rfl, (List.forall_mem_cons.mpr ⟨rfl, zs_nil⟩)⟩)⟩)⟩)⟩) ?_
            exact zt_X10_lineUp_J93 hX hr hR hd hf hk ih h
set_option maxHeartbeats 4000000 in
set_option maxRecDepth 100000 in
theorem zt_X10_lineUp {l : Launch} {V : zm_V} {N : Nat} {S : zm_S} {out : (Int32 × zm_S)} {d : Nat} {a0 : Nat} {i1 : Int32} (hd : 4 ≤ d) (h : zf_X10_lineUp N a0 i1 S = some out) : zm_Met l zk_E V yX10_lineUp (.code yX10_lineUp cX10_lineUp 6 (some .int)) d [.ref a0, .int i1] S 0 0 (zo_i out) zo_x := by
  refine zm_of (by decide +kernel) (Nat.le_of_ble_eq_true rfl) ?_
  intro p e R s m args below meth c hRR hX hr hxt
  have hR : R.frames = d ∧ R.locals = 64 * d := by rw [hRR]; exact ⟨rfl, rfl⟩
  have hX : zm_X p R s m args meth c RX10 "lineUp" cX10_lineUp 6 zk_E V 0 0 := hX
  unfold zf_X10_lineUp at h
  refine zw_sub (lv' := [(0, .ref a0), (1, .int i1)]) (List.forall_mem_cons.mpr ⟨rfl, (List.forall_mem_cons.mpr ⟨rfl, zs_nil⟩)⟩) ?_
  refine zw_iconst (v := (0 : Int32)) hX dX10_lineUp_0 (by decide) ?_
  refine zw_istore_n hX dX10_lineUp_1 (by decide) ?_
  refine zw_iconst (v := (0 : Int32)) hX dX10_lineUp_2 (by decide) ?_
  refine zw_istore_n hX dX10_lineUp_3 (by decide) ?_
  obtain ⟨r, g, h⟩ := zb_some h
  refine zw_sub (lv' := [(0, .ref a0), (1, .int i1), (2, .int (0 : Int32)), (3, .int (0 : Int32))]) (List.forall_mem_cons.mpr ⟨rfl, (List.forall_mem_cons.mpr ⟨rfl, (List.forall_mem_cons.mpr ⟨rfl, (List.forall_mem_cons.mpr ⟨rfl, zs_nil⟩)⟩)⟩)⟩) ?_
  refine zt_X10_lineUp_L4 hX hr hR hd (res := r) (out := out) a0 i1 ?_ ?_ N _ _ _ g
  · intro o ho
    subst ho
    exact Option.some.inj h
  · intro v23 S22 hx
    subst hx
    try dsimp only at h
    refine zw_iload_n hX dX10_lineUp_110 rfl ?_
    obtain rfl := Option.some.inj h
    exact zw_iret hX hr dX10_lineUp_111 rfl ⟨rfl, rfl⟩
set_option maxHeartbeats 4000000 in
set_option maxRecDepth 100000 in
theorem zt_X10_isBetter_J34 {p : Program} {l : Launch} {e : Env} {R : Room} {s : State} {m : MethodId} {args : Array Value} {below : List Frame} {meth : Method} {c : Code} {V : zm_V} {mc ms d rc rs : Nat} (hX : zm_X p R s m args meth c RX10 "isBetter" cX10_isBetter 5 zk_E V mc ms) (hr : meth.sig.returnType = (some .boolean)) (hR : R.frames = d ∧ R.locals = 64 * d) (hd : 2 ≤ d) {N : Nat} {a0 : Nat} {i3 : Int32} {i4 : Int32} {out : (Int32 × zm_S)} {S : zm_S} (h : zf_X10_isBetter_J34 N a0 i3 i4 S = some out) : zw p l e R s m args below meth c (vx_MQ below (zm_Qc zk_E V (zo_i out)) (zm_XC zk_E V zo_x) args s mc ms (fun q => V.2.2.2.1 ≤ q)) 5 zk_E V mc ms 34 [(0, .ref a0), (3, .int i3), (4, .int i4)] [] S rc rs := by
  unfold zf_X10_isBetter_J34 at h
  refine zw_aload_n hX dX10_isBetter_34 rfl ?_
  refine zw_iload_n hX dX10_isBetter_35 rfl ?_
  obtain ⟨_, gi, h⟩ := zb_some h
  obtain ⟨r7, g, h⟩ := zb_some h
  refine zc_Vi (as := [.int i3]) hX gi (zt_X10_isInSpace (d := d - 1) (by omega) g) zl_X10_70 rfl dX10_isBetter_36 ⟨rfl, rfl, Nat.le_of_ble_eq_true rfl⟩ ⟨by omega, by omega⟩ ?_
  refine zw_if_eq (tgt := 71) hX dX10_isBetter_39 (by decide) (fun c39 => ?_) (fun c39 => ?_)
  · rw [if_pos c39] at h
    refine zw_iload hX dX10_isBetter_71 rfl ?_
    refine zw_iconst (v := (1 : Int32)) hX dX10_isBetter_73 (by decide) ?_
    refine zw_icmp_ne (tgt := 81) hX dX10_isBetter_74 (by decide) (fun c74 => ?_) (fun c74 => ?_)
    · rw [if_neg c74] at h
      refine zw_iconst (v := (0 : Int32)) hX dX10_isBetter_81 (by decide) ?_
      obtain rfl := Option.some.inj h
      exact zw_iret hX hr dX10_isBetter_82 rfl ⟨rfl, rfl⟩
    · rw [if_pos c74] at h
      refine zw_iconst (v := (1 : Int32)) hX dX10_isBetter_77 (by decide) ?_
      refine zw_goto (tgt := 82) hX dX10_isBetter_78 (by decide) ?_
      obtain rfl := Option.some.inj h
      exact zw_iret hX hr dX10_isBetter_82 rfl ⟨rfl, rfl⟩
  · rw [if_neg c39] at h
    refine zw_aload_n hX dX10_isBetter_42 rfl ?_
    obtain ⟨b8, g, h⟩ := zb_some h
    refine zw_getr hX zl_X10_21 dX10_isBetter_43 g ?_
    refine zw_iload_n hX dX10_isBetter_46 rfl ?_
    obtain ⟨v9, g, h⟩ := zb_some h
    refine zw_xi hX dX10_isBetter_47 g ?_
    refine zw_iconst (v := (-1 : Int32)) hX dX10_isBetter_48 (by decide) ?_
    refine zw_icmp_eq (tgt := 67) hX dX10_isBetter_49 (by decide) (fun c49 => ?_) (fun c49 => ?_)
    · rw [if_pos c49] at h
      refine zw_iconst (v := (0 : Int32)) hX dX10_isBetter_67 (by decide) ?_
      refine zw_goto (tgt := 82) hX dX10_isBetter_68 (by decide) ?_
      obtain rfl := Option.some.inj h
      exact zw_iret hX hr dX10_isBetter_82 rfl ⟨rfl, rfl⟩
    · rw [if_neg c49] at h
      refine zw_aload_n hX dX10_isBetter_52 rfl ?_
      obtain ⟨b10, g, h⟩ := zb_some h
      refine zw_getr hX zl_X10_21 dX10_isBetter_53 g ?_
      refine zw_iload_n hX dX10_isBetter_56 rfl ?_
      obtain ⟨v11, g, h⟩ := zb_some h
      refine zw_xi hX dX10_isBetter_57 g ?_
      refine zw_iload hX dX10_isBetter_58 rfl ?_
      refine zw_icmp_ge (tgt := 67) hX dX10_isBetter_60 (by decide) (fun c60 => ?_) (fun c60 => ?_)
      · rw [if_pos c60] at h
        refine zw_iconst (v := (0 : Int32)) hX dX10_isBetter_67 (by decide) ?_
        refine zw_goto (tgt := 82) hX dX10_isBetter_68 (by decide) ?_
        obtain rfl := Option.some.inj h
        exact zw_iret hX hr dX10_isBetter_82 rfl ⟨rfl, rfl⟩
      · rw [if_neg c60] at h
        refine zw_iconst (v := (1 : Int32)) hX dX10_isBetter_63 (by decide) ?_
        refine zw_goto (tgt := 82) hX dX10_isBetter_64 (by decide) ?_
        obtain rfl := Option.some.inj h
        exact zw_iret hX hr dX10_isBetter_82 rfl ⟨rfl, rfl⟩
set_option maxHeartbeats 4000000 in
set_option maxRecDepth 100000 in
theorem zt_X10_isBetter {l : Launch} {V : zm_V} {N : Nat} {S : zm_S} {out : (Int32 × zm_S)} {d : Nat} {a0 : Nat} {i1 : Int32} {i2 : Int32} (hd : 2 ≤ d) (h : zf_X10_isBetter N a0 i1 i2 S = some out) : zm_Met l zk_E V yX10_isBetter (.code yX10_isBetter cX10_isBetter 5 (some .boolean)) d [.ref a0, .int i1, .int i2] S 0 0 (zo_i out) zo_x := by
  refine zm_of (by decide +kernel) (Nat.le_of_ble_eq_true rfl) ?_
  intro p e R s m args below meth c hRR hX hr hxt
  have hR : R.frames = d ∧ R.locals = 64 * d := by rw [hRR]; exact ⟨rfl, rfl⟩
  have hX : zm_X p R s m args meth c RX10 "isBetter" cX10_isBetter 5 zk_E V 0 0 := hX
  unfold zf_X10_isBetter at h
  refine zw_sub (lv' := [(0, .ref a0), (1, .int i1), (2, .int i2)]) (List.forall_mem_cons.mpr ⟨rfl, (List.forall_mem_cons.mpr ⟨rfl, (List.forall_mem_cons.mpr ⟨rfl, zs_nil⟩)⟩)⟩) ?_
  refine zw_aload_n hX dX10_isBetter_0 rfl ?_
  obtain ⟨b1, g, h⟩ := zb_some h
  refine zw_getr hX zl_X10_44 dX10_isBetter_1 g ?_
  refine zw_iload_n hX dX10_isBetter_4 rfl ?_
  refine zw_iload_n hX dX10_isBetter_5 rfl ?_
  obtain ⟨_, gi, h⟩ := zb_some h
  obtain ⟨r3, g, h⟩ := zb_some h
  refine zc_Vi (as := [.int i1, .int i2]) hX gi (zt_X2_cellBeside (d := d - 1) (by omega) g) zl_X10_77 rfl dX10_isBetter_6 ⟨rfl, rfl, Nat.le_of_ble_eq_true rfl⟩ ⟨by omega, by omega⟩ ?_
  refine zw_istore_n hX dX10_isBetter_9 (by decide) ?_
  refine zw_aload_n hX dX10_isBetter_10 rfl ?_
  obtain ⟨b4, g, h⟩ := zb_some h
  refine zw_getr hX zl_X10_21 dX10_isBetter_11 g ?_
  refine zw_iload_n hX dX10_isBetter_14 rfl ?_
  obtain ⟨v5, g, h⟩ := zb_some h
  refine zw_xi hX dX10_isBetter_15 g ?_
  refine zw_istore hX dX10_isBetter_16 (by decide) ?_
  refine zw_iload_n hX dX10_isBetter_18 rfl ?_
  refine zw_iconst (v := (-1 : Int32)) hX dX10_isBetter_19 (by decide) ?_
  refine zw_icmp_eq (tgt := 34) hX dX10_isBetter_20 (by decide) (fun c20 => ?_) (fun c20 => ?_)
  · rw [if_pos c20] at h
    refine zw_sub (lv' := [(0, .ref a0), (3, .int r3.1), (4, .int v5)]) (List.forall_mem_cons.mpr ⟨rfl, (List.forall_mem_cons.mpr ⟨rfl, (List.forall_mem_cons.mpr ⟨rfl, zs_nil⟩)⟩)⟩) ?_
    exact zt_X10_isBetter_J34 hX hr hR hd h
  · rw [if_neg c20] at h
    refine zw_aload_n hX dX10_isBetter_23 rfl ?_
    obtain ⟨b12, g, h⟩ := zb_some h
    refine zw_getr hX zl_X10_11 dX10_isBetter_24 g ?_
    refine zw_iload_n hX dX10_isBetter_27 rfl ?_
    obtain ⟨v13, g, h⟩ := zb_some h
    refine zw_xz hX dX10_isBetter_28 g ?_
    refine zw_if_eq (tgt := 34) hX dX10_isBetter_29 (by decide) (fun c29 => ?_) (fun c29 => ?_)
    · rw [if_pos c29] at h
      refine zw_sub (lv' := [(0, .ref a0), (3, .int r3.1), (4, .int v5)]) (List.forall_mem_cons.mpr ⟨rfl, (List.forall_mem_cons.mpr ⟨rfl, (List.forall_mem_cons.mpr ⟨rfl, zs_nil⟩)⟩)⟩) ?_
      exact zt_X10_isBetter_J34 hX hr hR hd h
    · rw [if_neg c29] at h
      refine zw_iconst (v := (0 : Int32)) hX dX10_isBetter_32 (by decide) ?_
      obtain rfl := Option.some.inj h
      exact zw_iret hX hr dX10_isBetter_33 rfl ⟨rfl, rfl⟩
set_option maxHeartbeats 4000000 in
set_option maxRecDepth 100000 in
theorem zt_X10_goesThrough_L32 {p : Program} {l : Launch} {e : Env} {R : Room} {s : State} {m : MethodId} {args : Array Value} {below : List Frame} {meth : Method} {c : Code} {V : zm_V} {mc ms d rc rs : Nat} (hX : zm_X p R s m args meth c RX10 "goesThrough" cX10_goesThrough 6 zk_E V mc ms) (hr : meth.sig.returnType = (some .boolean)) (hR : R.frames = d ∧ R.locals = 64 * d) (hd : 3 ≤ d) {N : Nat} {res : (Int32 × zm_S) ⊕ ((Unit) × zm_S)} {out : (Int32 × zm_S)} (a0 : Nat) (i3 : Int32) (i4 : Int32) (hf : ∀ o, res = .inl o → o = out) (hk : ∀ (S' : zm_S), res = .inr ((), S') → zw p l e R s m args below meth c (vx_MQ below (zm_Qc zk_E V (zo_i out)) (zm_XC zk_E V zo_x) args s mc ms (fun q => V.2.2.2.1 ≤ q)) 6 zk_E V mc ms 104 [] [] S' rc rs) : ∀ (n : Nat) (i5 : Int32) (S : zm_S), zf_X10_goesThrough_L32 N n a0 i3 i4 i5 S = some res → zw p l e R s m args below meth c (vx_MQ below (zm_Qc zk_E V (zo_i out)) (zm_XC zk_E V zo_x) args s mc ms (fun q => V.2.2.2.1 ≤ q)) 6 zk_E V mc ms 32 [(0, .ref a0), (3, .int i3), (4, .int i4), (5, .int i5)] [] S rc rs := by
  intro n
  induction n with
  | zero => intro i5 S h; cases h
  | succ n ih =>
    intro i5 S h
    rw [zf_X10_goesThrough_L32] at h
    refine zw_iload hX dX10_goesThrough_32 rfl ?_
    refine zw_aload_n hX dX10_goesThrough_34 rfl ?_
    obtain ⟨b7, g, h⟩ := zb_some h
    refine zw_getr hX zl_X10_40 dX10_goesThrough_35 g ?_
    obtain ⟨b8, g, h⟩ := zb_some h
    refine zw_getNr hX zl_X10_150 dX10_goesThrough_38 g ?_
    refine zw_iload_n hX dX10_goesThrough_41 rfl ?_
    obtain ⟨v9, g, h⟩ := zb_some h
    refine zw_xi hX dX10_goesThrough_42 g ?_
    refine zw_icmp_ge (tgt := 104) hX dX10_goesThrough_43 (by decide) (fun c43 => ?_) (fun c43 => ?_)
    · rw [if_pos c43] at h
      refine zw_sub (lv' := []) zs_nil ?_
      exact hk  _ (Option.some.inj h).symm
    · rw [if_neg c43] at h
      refine zw_aload_n hX dX10_goesThrough_46 rfl ?_
      obtain ⟨b10, g, h⟩ := zb_some h
      refine zw_getr hX zl_X10_40 dX10_goesThrough_47 g ?_
      refine zw_iload_n hX dX10_goesThrough_50 rfl ?_
      refine zw_iload hX dX10_goesThrough_51 rfl ?_
      refine zw_iload hX dX10_goesThrough_53 rfl ?_
      obtain ⟨_, gi, h⟩ := zb_some h
      obtain ⟨r12, g, h⟩ := zb_some h
      refine zc_Vi (as := [.int i3, .int i5, .int i4]) hX gi (zt_X8_isDoorAt (d := d - 1) (by omega) g) zl_X10_153 rfl dX10_goesThrough_55 ⟨rfl, rfl, Nat.le_of_ble_eq_true rfl⟩ ⟨by omega, by omega⟩ ?_
      refine zw_if_eq (tgt := 98) hX dX10_goesThrough_58 (by decide) (fun c58 => ?_) (fun c58 => ?_)
      · rw [if_pos c58] at h
        refine zw_iinc (v := (i5 + (1 : Int32))) hX dX10_goesThrough_98 rfl rfl (by decide) ?_
        refine zw_goto (tgt := 32) hX dX10_goesThrough_101 (by decide) ?_
        refine zw_sub (lv' := [(0, .ref a0), (3, .int i3), (4, .int i4), (5, .int (i5 + (1 : Int32)))]) (List.forall_mem_cons.mpr ⟨rfl, (List.forall_mem_cons.mpr ⟨rfl, (List.forall_mem_cons.mpr ⟨rfl, (List.forall_mem_cons.mpr ⟨rfl, zs_nil⟩)⟩)⟩)⟩) ?_
        exact ih _ _ h
      · rw [if_neg c58] at h
        refine zw_aload_n hX dX10_goesThrough_61 rfl ?_
        obtain ⟨b13, g, h⟩ := zb_some h
        refine zw_getr hX zl_X10_37 dX10_goesThrough_62 g ?_
        refine zw_iload_n hX dX10_goesThrough_65 rfl ?_
        obtain ⟨b14, g, h⟩ := zb_some h
        refine zw_xr hX dX10_goesThrough_66 g ?_
        refine zw_iload hX dX10_goesThrough_67 rfl ?_
        obtain ⟨v15, g, h⟩ := zb_some h
        refine zw_xi hX dX10_goesThrough_69 g ?_
        refine zw_aload_n hX dX10_goesThrough_70 rfl ?_
        obtain ⟨b16, g, h⟩ := zb_some h
        refine zw_getr hX zl_X10_40 dX10_goesThrough_71 g ?_
        refine zw_iload_n hX dX10_goesThrough_74 rfl ?_
        refine zw_iload hX dX10_goesThrough_75 rfl ?_
        obtain ⟨_, gi, h⟩ := zb_some h
        obtain ⟨r18, g, h⟩ := zb_some h
        refine zc_Vi (as := [.int i3, .int i5]) hX gi (zt_X8_rateOf (d := d - 1) (by omega) g) zl_X10_157 rfl dX10_goesThrough_77 ⟨rfl, rfl, Nat.le_of_ble_eq_true rfl⟩ ⟨by omega, by omega⟩ ?_
        refine zw_icmp_ge (tgt := 98) hX dX10_goesThrough_80 (by decide) (fun c80 => ?_) (fun c80 => ?_)
        · rw [if_pos c80] at h
          refine zw_iinc (v := (i5 + (1 : Int32))) hX dX10_goesThrough_98 rfl rfl (by decide) ?_
          refine zw_goto (tgt := 32) hX dX10_goesThrough_101 (by decide) ?_
          refine zw_sub (lv' := [(0, .ref a0), (3, .int i3), (4, .int i4), (5, .int (i5 + (1 : Int32)))]) (List.forall_mem_cons.mpr ⟨rfl, (List.forall_mem_cons.mpr ⟨rfl, (List.forall_mem_cons.mpr ⟨rfl, (List.forall_mem_cons.mpr ⟨rfl, zs_nil⟩)⟩)⟩)⟩) ?_
          exact ih _ _ h
        · rw [if_neg c80] at h
          refine zw_aload_n hX dX10_goesThrough_83 rfl ?_
          obtain ⟨b19, g, h⟩ := zb_some h
          refine zw_getr hX zl_X10_37 dX10_goesThrough_84 g ?_
          refine zw_iload_n hX dX10_goesThrough_87 rfl ?_
          obtain ⟨b20, g, h⟩ := zb_some h
          refine zw_xr hX dX10_goesThrough_88 g ?_
          refine zw_iload hX dX10_goesThrough_89 rfl ?_
          refine zw_dup2 hX dX10_goesThrough_91 rfl rfl ?_
          obtain ⟨v21, g, h⟩ := zb_some h
          refine zw_xi hX dX10_goesThrough_92 g ?_
          refine zw_iconst (v := (1 : Int32)) hX dX10_goesThrough_93 (by decide) ?_
          refine zw_iadd hX dX10_goesThrough_94 ?_
          obtain ⟨S22, g, h⟩ := zb_some h
          refine zw_si hX dX10_goesThrough_95 g ?_
          refine zw_iconst (v := (1 : Int32)) hX dX10_goesThrough_96 (by decide) ?_
          have hz := hf _ (Option.some.inj h).symm
          subst hz
          exact zw_iret hX hr dX10_goesThrough_97 rfl ⟨rfl, rfl⟩
set_option maxHeartbeats 4000000 in
set_option maxRecDepth 100000 in
theorem zt_X10_goesThrough {l : Launch} {V : zm_V} {N : Nat} {S : zm_S} {out : (Int32 × zm_S)} {d : Nat} {a0 : Nat} {i1 : Int32} {i2 : Int32} (hd : 3 ≤ d) (h : zf_X10_goesThrough N a0 i1 i2 S = some out) : zm_Met l zk_E V yX10_goesThrough (.code yX10_goesThrough cX10_goesThrough 6 (some .boolean)) d [.ref a0, .int i1, .int i2] S 0 0 (zo_i out) zo_x := by
  refine zm_of (by decide +kernel) (Nat.le_of_ble_eq_true rfl) ?_
  intro p e R s m args below meth c hRR hX hr hxt
  have hR : R.frames = d ∧ R.locals = 64 * d := by rw [hRR]; exact ⟨rfl, rfl⟩
  have hX : zm_X p R s m args meth c RX10 "goesThrough" cX10_goesThrough 6 zk_E V 0 0 := hX
  unfold zf_X10_goesThrough at h
  refine zw_sub (lv' := [(0, .ref a0), (1, .int i1), (2, .int i2)]) (List.forall_mem_cons.mpr ⟨rfl, (List.forall_mem_cons.mpr ⟨rfl, (List.forall_mem_cons.mpr ⟨rfl, zs_nil⟩)⟩)⟩) ?_
  refine zw_aload_n hX dX10_goesThrough_0 rfl ?_
  obtain ⟨b1, g, h⟩ := zb_some h
  refine zw_getr hX zl_X10_44 dX10_goesThrough_1 g ?_
  refine zw_iload_n hX dX10_goesThrough_4 rfl ?_
  refine zw_iload_n hX dX10_goesThrough_5 rfl ?_
  obtain ⟨_, gi, h⟩ := zb_some h
  obtain ⟨r3, g, h⟩ := zb_some h
  refine zc_Vi (as := [.int i1, .int i2]) hX gi (zt_X2_wallBeside (d := d - 1) (by omega) g) zl_X10_58 rfl dX10_goesThrough_6 ⟨rfl, rfl, Nat.le_of_ble_eq_true rfl⟩ ⟨by omega, by omega⟩ ?_
  refine zw_istore_n hX dX10_goesThrough_9 (by decide) ?_
  refine zw_iload_n hX dX10_goesThrough_10 rfl ?_
  refine zw_iconst (v := (-1 : Int32)) hX dX10_goesThrough_11 (by decide) ?_
  refine zw_icmp_ne (tgt := 17) hX dX10_goesThrough_12 (by decide) (fun c12 => ?_) (fun c12 => ?_)
  · rw [if_neg c12] at h
    refine zw_aload_n hX dX10_goesThrough_17 rfl ?_
    obtain ⟨b4, g, h⟩ := zb_some h
    refine zw_getr hX zl_X10_44 dX10_goesThrough_18 g ?_
    refine zw_iload_n hX dX10_goesThrough_21 rfl ?_
    refine zw_iload_n hX dX10_goesThrough_22 rfl ?_
    refine zw_iload_n hX dX10_goesThrough_23 rfl ?_
    obtain ⟨_, gi, h⟩ := zb_some h
    obtain ⟨r6, g, h⟩ := zb_some h
    refine zc_Vi (as := [.int i1, .int i2, .int r3.1]) hX gi (zt_X2_distanceBeside (d := d - 1) (by omega) g) zl_X10_62 rfl dX10_goesThrough_24 ⟨rfl, rfl, Nat.le_of_ble_eq_true rfl⟩ ⟨by omega, by omega⟩ ?_
    refine zw_istore hX dX10_goesThrough_27 (by decide) ?_
    refine zw_iconst (v := (0 : Int32)) hX dX10_goesThrough_29 (by decide) ?_
    refine zw_istore hX dX10_goesThrough_30 (by decide) ?_
    obtain ⟨r, g, h⟩ := zb_some h
    refine zw_sub (lv' := [(0, .ref a0), (3, .int r3.1), (4, .int r6.1), (5, .int (0 : Int32))]) (List.forall_mem_cons.mpr ⟨rfl, (List.forall_mem_cons.mpr ⟨rfl, (List.forall_mem_cons.mpr ⟨rfl, (List.forall_mem_cons.mpr ⟨rfl, zs_nil⟩)⟩)⟩)⟩) ?_
    refine zt_X10_goesThrough_L32 hX hr hR hd (res := r) (out := out) a0 r3.1 r6.1 ?_ ?_ N _ _ g
    · intro o ho
      subst ho
      exact Option.some.inj h
    · intro  S23 hx
      subst hx
      try dsimp only at h
      refine zw_iconst (v := (0 : Int32)) hX dX10_goesThrough_104 (by decide) ?_
      obtain rfl := Option.some.inj h
      exact zw_iret hX hr dX10_goesThrough_105 rfl ⟨rfl, rfl⟩
  · rw [if_pos c12] at h
    refine zw_iconst (v := (1 : Int32)) hX dX10_goesThrough_15 (by decide) ?_
    obtain rfl := Option.some.inj h
    exact zw_iret hX hr dX10_goesThrough_16 rfl ⟨rfl, rfl⟩

