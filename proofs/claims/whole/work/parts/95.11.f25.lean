/-! ===== functions of methods, by program (wip/whole/tools/gen11.py) ===== -/
theorem dL_cutText_0 : decode cL_cutText 0 = .ok (.aload_n 2, 1) := by decide +kernel
theorem dL_cutText_1 : decode cL_cutText 1 = .ok (.iconst 0, 1) := by decide +kernel
theorem dL_cutText_2 : decode cL_cutText 2 = .ok (.aload_n 0, 1) := by decide +kernel
theorem dL_cutText_3 : decode cL_cutText 3 = .ok (.iload_n 1, 1) := by decide +kernel
theorem dL_cutText_4 : decode cL_cutText 4 = .ok (.invokevirtual 138, 3) := by decide +kernel
theorem dL_cutText_7 : decode cL_cutText 7 = .ok (.i2l, 1) := by decide +kernel
theorem dL_cutText_8 : decode cL_cutText 8 = .ok (.lastore, 1) := by decide +kernel
theorem dL_cutText_9 : decode cL_cutText 9 = .ok (.goto 9, 3) := by decide +kernel
theorem dL_cutText_18 : decode cL_cutText 18 = .ok (.iconst 0, 1) := by decide +kernel
theorem dL_cutText_19 : decode cL_cutText 19 = .ok (.ireturn, 1) := by decide +kernel
theorem dL_cutText_15 : decode cL_cutText 15 = .ok (.astore_n 3, 1) := by decide +kernel
theorem dL_cutText_16 : decode cL_cutText 16 = .ok (.iconst 2, 1) := by decide +kernel
theorem dL_cutText_17 : decode cL_cutText 17 = .ok (.ireturn, 1) := by decide +kernel
theorem dL_cutText_12 : decode cL_cutText 12 = .ok (.astore_n 3, 1) := by decide +kernel
theorem dL_cutText_13 : decode cL_cutText 13 = .ok (.iconst 1, 1) := by decide +kernel
theorem dL_cutText_14 : decode cL_cutText 14 = .ok (.ireturn, 1) := by decide +kernel
theorem dL_matrix_0 : decode cL_matrix 0 = .ok (.aload_n 1, 1) := by decide +kernel
theorem dL_matrix_1 : decode cL_matrix 1 = .ok (.iconst 0, 1) := by decide +kernel
theorem dL_matrix_2 : decode cL_matrix 2 = .ok (.aload_n 0, 1) := by decide +kernel
theorem dL_matrix_3 : decode cL_matrix 3 = .ok (.invokevirtual 141, 3) := by decide +kernel
theorem dL_matrix_6 : decode cL_matrix 6 = .ok (.i2l, 1) := by decide +kernel
theorem dL_matrix_7 : decode cL_matrix 7 = .ok (.lastore, 1) := by decide +kernel
theorem dL_matrix_8 : decode cL_matrix 8 = .ok (.goto 6, 3) := by decide +kernel
theorem dL_matrix_14 : decode cL_matrix 14 = .ok (.iconst 0, 1) := by decide +kernel
theorem dL_matrix_15 : decode cL_matrix 15 = .ok (.ireturn, 1) := by decide +kernel
theorem dL_matrix_11 : decode cL_matrix 11 = .ok (.astore_n 2, 1) := by decide +kernel
theorem dL_matrix_12 : decode cL_matrix 12 = .ok (.iconst 1, 1) := by decide +kernel
theorem dL_matrix_13 : decode cL_matrix 13 = .ok (.ireturn, 1) := by decide +kernel
theorem dL_signal_0 : decode cL_signal 0 = .ok (.aload_n 3, 1) := by decide +kernel
theorem dL_signal_1 : decode cL_signal 1 = .ok (.iconst 0, 1) := by decide +kernel
theorem dL_signal_2 : decode cL_signal 2 = .ok (.aload_n 0, 1) := by decide +kernel
theorem dL_signal_3 : decode cL_signal 3 = .ok (.iload_n 1, 1) := by decide +kernel
theorem dL_signal_4 : decode cL_signal 4 = .ok (.iload_n 2, 1) := by decide +kernel
theorem dL_signal_5 : decode cL_signal 5 = .ok (.invokevirtual 144, 3) := by decide +kernel
theorem dL_signal_8 : decode cL_signal 8 = .ok (.i2l, 1) := by decide +kernel
theorem dL_signal_9 : decode cL_signal 9 = .ok (.lastore, 1) := by decide +kernel
theorem dL_signal_10 : decode cL_signal 10 = .ok (.goto 11, 3) := by decide +kernel
theorem dL_signal_21 : decode cL_signal 21 = .ok (.iconst 0, 1) := by decide +kernel
theorem dL_signal_22 : decode cL_signal 22 = .ok (.ireturn, 1) := by decide +kernel
theorem dL_signal_17 : decode cL_signal 17 = .ok (.astore 4, 2) := by decide +kernel
theorem dL_signal_19 : decode cL_signal 19 = .ok (.iconst 2, 1) := by decide +kernel
theorem dL_signal_20 : decode cL_signal 20 = .ok (.ireturn, 1) := by decide +kernel
theorem dL_signal_13 : decode cL_signal 13 = .ok (.astore 4, 2) := by decide +kernel
theorem dL_signal_15 : decode cL_signal 15 = .ok (.iconst 1, 1) := by decide +kernel
theorem dL_signal_16 : decode cL_signal 16 = .ok (.ireturn, 1) := by decide +kernel
theorem dL_fault_0 : decode cL_fault 0 = .ok (.aload_n 3, 1) := by decide +kernel
theorem dL_fault_1 : decode cL_fault 1 = .ok (.iconst 0, 1) := by decide +kernel
theorem dL_fault_2 : decode cL_fault 2 = .ok (.aload_n 0, 1) := by decide +kernel
theorem dL_fault_3 : decode cL_fault 3 = .ok (.iload_n 1, 1) := by decide +kernel
theorem dL_fault_4 : decode cL_fault 4 = .ok (.iload_n 2, 1) := by decide +kernel
theorem dL_fault_5 : decode cL_fault 5 = .ok (.invokevirtual 147, 3) := by decide +kernel
theorem dL_fault_8 : decode cL_fault 8 = .ok (.ifCond .eq 7, 3) := by decide +kernel
theorem dL_fault_15 : decode cL_fault 15 = .ok (.lconst 0, 1) := by decide +kernel
theorem dL_fault_16 : decode cL_fault 16 = .ok (.lastore, 1) := by decide +kernel
theorem dL_fault_17 : decode cL_fault 17 = .ok (.goto 11, 3) := by decide +kernel
theorem dL_fault_28 : decode cL_fault 28 = .ok (.iconst 0, 1) := by decide +kernel
theorem dL_fault_29 : decode cL_fault 29 = .ok (.ireturn, 1) := by decide +kernel
theorem dL_fault_11 : decode cL_fault 11 = .ok (.lconst 1, 1) := by decide +kernel
theorem dL_fault_12 : decode cL_fault 12 = .ok (.goto 4, 3) := by decide +kernel
theorem dL_fault_24 : decode cL_fault 24 = .ok (.astore 4, 2) := by decide +kernel
theorem dL_fault_26 : decode cL_fault 26 = .ok (.iconst 2, 1) := by decide +kernel
theorem dL_fault_27 : decode cL_fault 27 = .ok (.ireturn, 1) := by decide +kernel
theorem dL_fault_20 : decode cL_fault 20 = .ok (.astore 4, 2) := by decide +kernel
theorem dL_fault_22 : decode cL_fault 22 = .ok (.iconst 1, 1) := by decide +kernel
theorem dL_fault_23 : decode cL_fault 23 = .ok (.ireturn, 1) := by decide +kernel
theorem dL_disable_0 : decode cL_disable 0 = .ok (.aload_n 3, 1) := by decide +kernel
theorem dL_disable_1 : decode cL_disable 1 = .ok (.iconst 0, 1) := by decide +kernel
theorem dL_disable_2 : decode cL_disable 2 = .ok (.aload_n 0, 1) := by decide +kernel
theorem dL_disable_3 : decode cL_disable 3 = .ok (.iload_n 1, 1) := by decide +kernel
theorem dL_disable_4 : decode cL_disable 4 = .ok (.iload_n 2, 1) := by decide +kernel
theorem dL_disable_5 : decode cL_disable 5 = .ok (.invokevirtual 150, 3) := by decide +kernel
theorem dL_disable_8 : decode cL_disable 8 = .ok (.i2l, 1) := by decide +kernel
theorem dL_disable_9 : decode cL_disable 9 = .ok (.lastore, 1) := by decide +kernel
theorem dL_disable_10 : decode cL_disable 10 = .ok (.goto 11, 3) := by decide +kernel
theorem dL_disable_21 : decode cL_disable 21 = .ok (.iconst 0, 1) := by decide +kernel
theorem dL_disable_22 : decode cL_disable 22 = .ok (.ireturn, 1) := by decide +kernel
theorem dL_disable_17 : decode cL_disable 17 = .ok (.astore 4, 2) := by decide +kernel
theorem dL_disable_19 : decode cL_disable 19 = .ok (.iconst 2, 1) := by decide +kernel
theorem dL_disable_20 : decode cL_disable 20 = .ok (.ireturn, 1) := by decide +kernel
theorem dL_disable_13 : decode cL_disable 13 = .ok (.astore 4, 2) := by decide +kernel
theorem dL_disable_15 : decode cL_disable 15 = .ok (.iconst 1, 1) := by decide +kernel
theorem dL_disable_16 : decode cL_disable 16 = .ok (.ireturn, 1) := by decide +kernel
theorem dL_attend_0 : decode cL_attend 0 = .ok (.aload_n 2, 1) := by decide +kernel
theorem dL_attend_1 : decode cL_attend 1 = .ok (.iconst 0, 1) := by decide +kernel
theorem dL_attend_2 : decode cL_attend 2 = .ok (.aload_n 0, 1) := by decide +kernel
theorem dL_attend_3 : decode cL_attend 3 = .ok (.iload_n 1, 1) := by decide +kernel
theorem dL_attend_4 : decode cL_attend 4 = .ok (.invokevirtual 153, 3) := by decide +kernel
theorem dL_attend_7 : decode cL_attend 7 = .ok (.i2l, 1) := by decide +kernel
theorem dL_attend_8 : decode cL_attend 8 = .ok (.lastore, 1) := by decide +kernel
theorem dL_attend_9 : decode cL_attend 9 = .ok (.goto 9, 3) := by decide +kernel
theorem dL_attend_18 : decode cL_attend 18 = .ok (.iconst 0, 1) := by decide +kernel
theorem dL_attend_19 : decode cL_attend 19 = .ok (.ireturn, 1) := by decide +kernel
theorem dL_attend_15 : decode cL_attend 15 = .ok (.astore_n 3, 1) := by decide +kernel
theorem dL_attend_16 : decode cL_attend 16 = .ok (.iconst 2, 1) := by decide +kernel
theorem dL_attend_17 : decode cL_attend 17 = .ok (.ireturn, 1) := by decide +kernel
theorem dL_attend_12 : decode cL_attend 12 = .ok (.astore_n 3, 1) := by decide +kernel
theorem dL_attend_13 : decode cL_attend 13 = .ok (.iconst 1, 1) := by decide +kernel
theorem dL_attend_14 : decode cL_attend 14 = .ok (.ireturn, 1) := by decide +kernel
theorem dL_reset_0 : decode cL_reset 0 = .ok (.aload_n 1, 1) := by decide +kernel
theorem dL_reset_1 : decode cL_reset 1 = .ok (.iconst 0, 1) := by decide +kernel
theorem dL_reset_2 : decode cL_reset 2 = .ok (.aload_n 0, 1) := by decide +kernel
theorem dL_reset_3 : decode cL_reset 3 = .ok (.invokevirtual 156, 3) := by decide +kernel
theorem dL_reset_6 : decode cL_reset 6 = .ok (.i2l, 1) := by decide +kernel
theorem dL_reset_7 : decode cL_reset 7 = .ok (.lastore, 1) := by decide +kernel
theorem dL_reset_8 : decode cL_reset 8 = .ok (.goto 6, 3) := by decide +kernel
theorem dL_reset_14 : decode cL_reset 14 = .ok (.iconst 0, 1) := by decide +kernel
theorem dL_reset_15 : decode cL_reset 15 = .ok (.ireturn, 1) := by decide +kernel
theorem dL_reset_11 : decode cL_reset 11 = .ok (.astore_n 2, 1) := by decide +kernel
theorem dL_reset_12 : decode cL_reset 12 = .ok (.iconst 1, 1) := by decide +kernel
theorem dL_reset_13 : decode cL_reset 13 = .ok (.ireturn, 1) := by decide +kernel
theorem dL_act_0 : decode cL_act 0 = .ok (.aload_n 3, 1) := by decide +kernel
theorem dL_act_1 : decode cL_act 1 = .ok (.iconst 0, 1) := by decide +kernel
theorem dL_act_2 : decode cL_act 2 = .ok (.aload_n 0, 1) := by decide +kernel
theorem dL_act_3 : decode cL_act 3 = .ok (.iload_n 1, 1) := by decide +kernel
theorem dL_act_4 : decode cL_act 4 = .ok (.iload_n 2, 1) := by decide +kernel
theorem dL_act_5 : decode cL_act 5 = .ok (.invokevirtual 159, 3) := by decide +kernel
theorem dL_act_8 : decode cL_act 8 = .ok (.i2l, 1) := by decide +kernel
theorem dL_act_9 : decode cL_act 9 = .ok (.lastore, 1) := by decide +kernel
theorem dL_act_10 : decode cL_act 10 = .ok (.goto 11, 3) := by decide +kernel
theorem dL_act_21 : decode cL_act 21 = .ok (.iconst 0, 1) := by decide +kernel
theorem dL_act_22 : decode cL_act 22 = .ok (.ireturn, 1) := by decide +kernel
theorem dL_act_17 : decode cL_act 17 = .ok (.astore 4, 2) := by decide +kernel
theorem dL_act_19 : decode cL_act 19 = .ok (.iconst 2, 1) := by decide +kernel
theorem dL_act_20 : decode cL_act 20 = .ok (.ireturn, 1) := by decide +kernel
theorem dL_act_13 : decode cL_act 13 = .ok (.astore 4, 2) := by decide +kernel
theorem dL_act_15 : decode cL_act 15 = .ok (.iconst 1, 1) := by decide +kernel
theorem dL_act_16 : decode cL_act 16 = .ok (.ireturn, 1) := by decide +kernel
theorem dL_zone_0 : decode cL_zone 0 = .ok (.aload_n 3, 1) := by decide +kernel
theorem dL_zone_1 : decode cL_zone 1 = .ok (.iconst 0, 1) := by decide +kernel
theorem dL_zone_2 : decode cL_zone 2 = .ok (.aload_n 0, 1) := by decide +kernel
theorem dL_zone_3 : decode cL_zone 3 = .ok (.iload_n 1, 1) := by decide +kernel
theorem dL_zone_4 : decode cL_zone 4 = .ok (.iload_n 2, 1) := by decide +kernel
theorem dL_zone_5 : decode cL_zone 5 = .ok (.invokevirtual 162, 3) := by decide +kernel
theorem dL_zone_8 : decode cL_zone 8 = .ok (.i2l, 1) := by decide +kernel
theorem dL_zone_9 : decode cL_zone 9 = .ok (.lastore, 1) := by decide +kernel
theorem dL_zone_10 : decode cL_zone 10 = .ok (.goto 11, 3) := by decide +kernel
theorem dL_zone_21 : decode cL_zone 21 = .ok (.iconst 0, 1) := by decide +kernel
theorem dL_zone_22 : decode cL_zone 22 = .ok (.ireturn, 1) := by decide +kernel
theorem dL_zone_17 : decode cL_zone 17 = .ok (.astore 4, 2) := by decide +kernel
theorem dL_zone_19 : decode cL_zone 19 = .ok (.iconst 2, 1) := by decide +kernel
theorem dL_zone_20 : decode cL_zone 20 = .ok (.ireturn, 1) := by decide +kernel
theorem dL_zone_13 : decode cL_zone 13 = .ok (.astore 4, 2) := by decide +kernel
theorem dL_zone_15 : decode cL_zone 15 = .ok (.iconst 1, 1) := by decide +kernel
theorem dL_zone_16 : decode cL_zone 16 = .ok (.ireturn, 1) := by decide +kernel
theorem dL_event_0 : decode cL_event 0 = .ok (.aload_n 3, 1) := by decide +kernel
theorem dL_event_1 : decode cL_event 1 = .ok (.iconst 0, 1) := by decide +kernel
theorem dL_event_2 : decode cL_event 2 = .ok (.aload_n 0, 1) := by decide +kernel
theorem dL_event_3 : decode cL_event 3 = .ok (.iload_n 1, 1) := by decide +kernel
theorem dL_event_4 : decode cL_event 4 = .ok (.iload_n 2, 1) := by decide +kernel
theorem dL_event_5 : decode cL_event 5 = .ok (.invokevirtual 165, 3) := by decide +kernel
theorem dL_event_8 : decode cL_event 8 = .ok (.i2l, 1) := by decide +kernel
theorem dL_event_9 : decode cL_event 9 = .ok (.lastore, 1) := by decide +kernel
theorem dL_event_10 : decode cL_event 10 = .ok (.goto 11, 3) := by decide +kernel
theorem dL_event_21 : decode cL_event 21 = .ok (.iconst 0, 1) := by decide +kernel
theorem dL_event_22 : decode cL_event 22 = .ok (.ireturn, 1) := by decide +kernel
theorem dL_event_17 : decode cL_event 17 = .ok (.astore 4, 2) := by decide +kernel
theorem dL_event_19 : decode cL_event 19 = .ok (.iconst 2, 1) := by decide +kernel
theorem dL_event_20 : decode cL_event 20 = .ok (.ireturn, 1) := by decide +kernel
theorem dL_event_13 : decode cL_event 13 = .ok (.astore 4, 2) := by decide +kernel
theorem dL_event_15 : decode cL_event 15 = .ok (.iconst 1, 1) := by decide +kernel
theorem dL_event_16 : decode cL_event 16 = .ok (.ireturn, 1) := by decide +kernel
theorem dL_block_0 : decode cL_block 0 = .ok (.aload_n 2, 1) := by decide +kernel
theorem dL_block_1 : decode cL_block 1 = .ok (.iconst 0, 1) := by decide +kernel
theorem dL_block_2 : decode cL_block 2 = .ok (.aload_n 0, 1) := by decide +kernel
theorem dL_block_3 : decode cL_block 3 = .ok (.iload_n 1, 1) := by decide +kernel
theorem dL_block_4 : decode cL_block 4 = .ok (.invokevirtual 168, 3) := by decide +kernel
theorem dL_block_7 : decode cL_block 7 = .ok (.i2l, 1) := by decide +kernel
theorem dL_block_8 : decode cL_block 8 = .ok (.lastore, 1) := by decide +kernel
theorem dL_block_9 : decode cL_block 9 = .ok (.goto 9, 3) := by decide +kernel
theorem dL_block_18 : decode cL_block 18 = .ok (.iconst 0, 1) := by decide +kernel
theorem dL_block_19 : decode cL_block 19 = .ok (.ireturn, 1) := by decide +kernel
theorem dL_block_15 : decode cL_block 15 = .ok (.astore_n 3, 1) := by decide +kernel
theorem dL_block_16 : decode cL_block 16 = .ok (.iconst 2, 1) := by decide +kernel
theorem dL_block_17 : decode cL_block 17 = .ok (.ireturn, 1) := by decide +kernel
theorem dL_block_12 : decode cL_block 12 = .ok (.astore_n 3, 1) := by decide +kernel
theorem dL_block_13 : decode cL_block 13 = .ok (.iconst 1, 1) := by decide +kernel
theorem dL_block_14 : decode cL_block 14 = .ok (.ireturn, 1) := by decide +kernel
theorem dL_wire_0 : decode cL_wire 0 = .ok (.aload 4, 2) := by decide +kernel
theorem dL_wire_2 : decode cL_wire 2 = .ok (.iconst 0, 1) := by decide +kernel
theorem dL_wire_3 : decode cL_wire 3 = .ok (.aload_n 0, 1) := by decide +kernel
theorem dL_wire_4 : decode cL_wire 4 = .ok (.iload_n 1, 1) := by decide +kernel
theorem dL_wire_5 : decode cL_wire 5 = .ok (.iload_n 2, 1) := by decide +kernel
theorem dL_wire_6 : decode cL_wire 6 = .ok (.iload_n 3, 1) := by decide +kernel
theorem dL_wire_7 : decode cL_wire 7 = .ok (.invokevirtual 171, 3) := by decide +kernel
theorem dL_wire_10 : decode cL_wire 10 = .ok (.i2l, 1) := by decide +kernel
theorem dL_wire_11 : decode cL_wire 11 = .ok (.lastore, 1) := by decide +kernel
theorem dL_wire_12 : decode cL_wire 12 = .ok (.goto 11, 3) := by decide +kernel
theorem dL_wire_23 : decode cL_wire 23 = .ok (.iconst 0, 1) := by decide +kernel
theorem dL_wire_24 : decode cL_wire 24 = .ok (.ireturn, 1) := by decide +kernel
theorem dL_wire_19 : decode cL_wire 19 = .ok (.astore 5, 2) := by decide +kernel
theorem dL_wire_21 : decode cL_wire 21 = .ok (.iconst 2, 1) := by decide +kernel
theorem dL_wire_22 : decode cL_wire 22 = .ok (.ireturn, 1) := by decide +kernel
theorem dL_wire_15 : decode cL_wire 15 = .ok (.astore 5, 2) := by decide +kernel
theorem dL_wire_17 : decode cL_wire 17 = .ok (.iconst 1, 1) := by decide +kernel
theorem dL_wire_18 : decode cL_wire 18 = .ok (.ireturn, 1) := by decide +kernel
theorem dL_numbers_0 : decode cL_numbers 0 = .ok (.aload_n 0, 1) := by decide +kernel
theorem dL_numbers_1 : decode cL_numbers 1 = .ok (.iload_n 1, 1) := by decide +kernel
theorem dL_numbers_2 : decode cL_numbers 2 = .ok (.iload_n 2, 1) := by decide +kernel
theorem dL_numbers_3 : decode cL_numbers 3 = .ok (.iload_n 3, 1) := by decide +kernel
theorem dL_numbers_4 : decode cL_numbers 4 = .ok (.invokevirtual 174, 3) := by decide +kernel
theorem dL_numbers_7 : decode cL_numbers 7 = .ok (.goto 11, 3) := by decide +kernel
theorem dL_numbers_18 : decode cL_numbers 18 = .ok (.iconst 0, 1) := by decide +kernel
theorem dL_numbers_19 : decode cL_numbers 19 = .ok (.ireturn, 1) := by decide +kernel
theorem dL_numbers_14 : decode cL_numbers 14 = .ok (.astore 4, 2) := by decide +kernel
theorem dL_numbers_16 : decode cL_numbers 16 = .ok (.iconst 2, 1) := by decide +kernel
theorem dL_numbers_17 : decode cL_numbers 17 = .ok (.ireturn, 1) := by decide +kernel
theorem dL_numbers_10 : decode cL_numbers 10 = .ok (.astore 4, 2) := by decide +kernel
theorem dL_numbers_12 : decode cL_numbers 12 = .ok (.iconst 1, 1) := by decide +kernel
theorem dL_numbers_13 : decode cL_numbers 13 = .ok (.ireturn, 1) := by decide +kernel
theorem dL_row_0 : decode cL_row 0 = .ok (.aload 4, 2) := by decide +kernel
theorem dL_row_2 : decode cL_row 2 = .ok (.iconst 0, 1) := by decide +kernel
theorem dL_row_3 : decode cL_row 3 = .ok (.aload_n 0, 1) := by decide +kernel
theorem dL_row_4 : decode cL_row 4 = .ok (.iload_n 1, 1) := by decide +kernel
theorem dL_row_5 : decode cL_row 5 = .ok (.iload_n 2, 1) := by decide +kernel
theorem dL_row_6 : decode cL_row 6 = .ok (.iload_n 3, 1) := by decide +kernel
theorem dL_row_7 : decode cL_row 7 = .ok (.invokevirtual 178, 3) := by decide +kernel
theorem dL_row_10 : decode cL_row 10 = .ok (.i2l, 1) := by decide +kernel
theorem dL_row_11 : decode cL_row 11 = .ok (.lastore, 1) := by decide +kernel
theorem dL_row_12 : decode cL_row 12 = .ok (.goto 11, 3) := by decide +kernel
theorem dL_row_23 : decode cL_row 23 = .ok (.iconst 0, 1) := by decide +kernel
theorem dL_row_24 : decode cL_row 24 = .ok (.ireturn, 1) := by decide +kernel
theorem dL_row_19 : decode cL_row 19 = .ok (.astore 5, 2) := by decide +kernel
theorem dL_row_21 : decode cL_row 21 = .ok (.iconst 2, 1) := by decide +kernel
theorem dL_row_22 : decode cL_row 22 = .ok (.ireturn, 1) := by decide +kernel
theorem dL_row_15 : decode cL_row 15 = .ok (.astore 5, 2) := by decide +kernel
theorem dL_row_17 : decode cL_row 17 = .ok (.iconst 1, 1) := by decide +kernel
theorem dL_row_18 : decode cL_row 18 = .ok (.ireturn, 1) := by decide +kernel
theorem dL_safe_0 : decode cL_safe 0 = .ok (.aload_n 3, 1) := by decide +kernel
theorem dL_safe_1 : decode cL_safe 1 = .ok (.iconst 0, 1) := by decide +kernel
theorem dL_safe_2 : decode cL_safe 2 = .ok (.aload_n 0, 1) := by decide +kernel
theorem dL_safe_3 : decode cL_safe 3 = .ok (.iload_n 1, 1) := by decide +kernel
theorem dL_safe_4 : decode cL_safe 4 = .ok (.iload_n 2, 1) := by decide +kernel
theorem dL_safe_5 : decode cL_safe 5 = .ok (.invokevirtual 181, 3) := by decide +kernel
theorem dL_safe_8 : decode cL_safe 8 = .ok (.i2l, 1) := by decide +kernel
theorem dL_safe_9 : decode cL_safe 9 = .ok (.lastore, 1) := by decide +kernel
theorem dL_safe_10 : decode cL_safe 10 = .ok (.goto 11, 3) := by decide +kernel
theorem dL_safe_21 : decode cL_safe 21 = .ok (.iconst 0, 1) := by decide +kernel
theorem dL_safe_22 : decode cL_safe 22 = .ok (.ireturn, 1) := by decide +kernel
theorem dL_safe_17 : decode cL_safe 17 = .ok (.astore 4, 2) := by decide +kernel
theorem dL_safe_19 : decode cL_safe 19 = .ok (.iconst 2, 1) := by decide +kernel
theorem dL_safe_20 : decode cL_safe 20 = .ok (.ireturn, 1) := by decide +kernel
theorem dL_safe_13 : decode cL_safe 13 = .ok (.astore 4, 2) := by decide +kernel
theorem dL_safe_15 : decode cL_safe 15 = .ok (.iconst 1, 1) := by decide +kernel
theorem dL_safe_16 : decode cL_safe 16 = .ok (.ireturn, 1) := by decide +kernel
theorem dL_hand_0 : decode cL_hand 0 = .ok (.aload 4, 2) := by decide +kernel
theorem dL_hand_2 : decode cL_hand 2 = .ok (.iconst 0, 1) := by decide +kernel
theorem dL_hand_3 : decode cL_hand 3 = .ok (.aload_n 0, 1) := by decide +kernel
theorem dL_hand_4 : decode cL_hand 4 = .ok (.iload_n 1, 1) := by decide +kernel
theorem dL_hand_5 : decode cL_hand 5 = .ok (.iload_n 2, 1) := by decide +kernel
theorem dL_hand_6 : decode cL_hand 6 = .ok (.iload_n 3, 1) := by decide +kernel
theorem dL_hand_7 : decode cL_hand 7 = .ok (.invokevirtual 184, 3) := by decide +kernel
theorem dL_hand_10 : decode cL_hand 10 = .ok (.ifCond .eq 7, 3) := by decide +kernel
theorem dL_hand_17 : decode cL_hand 17 = .ok (.lconst 0, 1) := by decide +kernel
theorem dL_hand_18 : decode cL_hand 18 = .ok (.lastore, 1) := by decide +kernel
theorem dL_hand_19 : decode cL_hand 19 = .ok (.goto 11, 3) := by decide +kernel
theorem dL_hand_30 : decode cL_hand 30 = .ok (.iconst 0, 1) := by decide +kernel
theorem dL_hand_31 : decode cL_hand 31 = .ok (.ireturn, 1) := by decide +kernel
theorem dL_hand_13 : decode cL_hand 13 = .ok (.lconst 1, 1) := by decide +kernel
theorem dL_hand_14 : decode cL_hand 14 = .ok (.goto 4, 3) := by decide +kernel
theorem dL_hand_26 : decode cL_hand 26 = .ok (.astore 5, 2) := by decide +kernel
theorem dL_hand_28 : decode cL_hand 28 = .ok (.iconst 2, 1) := by decide +kernel
theorem dL_hand_29 : decode cL_hand 29 = .ok (.ireturn, 1) := by decide +kernel
theorem dL_hand_22 : decode cL_hand 22 = .ok (.astore 5, 2) := by decide +kernel
theorem dL_hand_24 : decode cL_hand 24 = .ok (.iconst 1, 1) := by decide +kernel
theorem dL_hand_25 : decode cL_hand 25 = .ok (.ireturn, 1) := by decide +kernel
theorem dL_bind_0 : decode cL_bind 0 = .ok (.aload_n 3, 1) := by decide +kernel
theorem dL_bind_1 : decode cL_bind 1 = .ok (.iconst 0, 1) := by decide +kernel
theorem dL_bind_2 : decode cL_bind 2 = .ok (.aload_n 0, 1) := by decide +kernel
theorem dL_bind_3 : decode cL_bind 3 = .ok (.iload_n 1, 1) := by decide +kernel
theorem dL_bind_4 : decode cL_bind 4 = .ok (.iload_n 2, 1) := by decide +kernel
theorem dL_bind_5 : decode cL_bind 5 = .ok (.invokevirtual 188, 3) := by decide +kernel
theorem dL_bind_8 : decode cL_bind 8 = .ok (.i2l, 1) := by decide +kernel
theorem dL_bind_9 : decode cL_bind 9 = .ok (.lastore, 1) := by decide +kernel
theorem dL_bind_10 : decode cL_bind 10 = .ok (.goto 11, 3) := by decide +kernel
theorem dL_bind_21 : decode cL_bind 21 = .ok (.iconst 0, 1) := by decide +kernel
theorem dL_bind_22 : decode cL_bind 22 = .ok (.ireturn, 1) := by decide +kernel
theorem dL_bind_17 : decode cL_bind 17 = .ok (.astore 4, 2) := by decide +kernel
theorem dL_bind_19 : decode cL_bind 19 = .ok (.iconst 2, 1) := by decide +kernel
theorem dL_bind_20 : decode cL_bind 20 = .ok (.ireturn, 1) := by decide +kernel
theorem dL_bind_13 : decode cL_bind 13 = .ok (.astore 4, 2) := by decide +kernel
theorem dL_bind_15 : decode cL_bind 15 = .ok (.iconst 1, 1) := by decide +kernel
theorem dL_bind_16 : decode cL_bind 16 = .ok (.ireturn, 1) := by decide +kernel
theorem dL_point_0 : decode cL_point 0 = .ok (.aload_n 3, 1) := by decide +kernel
theorem dL_point_1 : decode cL_point 1 = .ok (.iconst 0, 1) := by decide +kernel
theorem dL_point_2 : decode cL_point 2 = .ok (.aload_n 0, 1) := by decide +kernel
theorem dL_point_3 : decode cL_point 3 = .ok (.iload_n 1, 1) := by decide +kernel
theorem dL_point_4 : decode cL_point 4 = .ok (.iload_n 2, 1) := by decide +kernel
theorem dL_point_5 : decode cL_point 5 = .ok (.invokevirtual 191, 3) := by decide +kernel
theorem dL_point_8 : decode cL_point 8 = .ok (.i2l, 1) := by decide +kernel
theorem dL_point_9 : decode cL_point 9 = .ok (.lastore, 1) := by decide +kernel
theorem dL_point_10 : decode cL_point 10 = .ok (.goto 11, 3) := by decide +kernel
theorem dL_point_21 : decode cL_point 21 = .ok (.iconst 0, 1) := by decide +kernel
theorem dL_point_22 : decode cL_point 22 = .ok (.ireturn, 1) := by decide +kernel
theorem dL_point_17 : decode cL_point 17 = .ok (.astore 4, 2) := by decide +kernel
theorem dL_point_19 : decode cL_point 19 = .ok (.iconst 2, 1) := by decide +kernel
theorem dL_point_20 : decode cL_point 20 = .ok (.ireturn, 1) := by decide +kernel
theorem dL_point_13 : decode cL_point 13 = .ok (.astore 4, 2) := by decide +kernel
theorem dL_point_15 : decode cL_point 15 = .ok (.iconst 1, 1) := by decide +kernel
theorem dL_point_16 : decode cL_point 16 = .ok (.ireturn, 1) := by decide +kernel
theorem dL_pointAt_0 : decode cL_pointAt 0 = .ok (.aload_n 2, 1) := by decide +kernel
theorem dL_pointAt_1 : decode cL_pointAt 1 = .ok (.iconst 0, 1) := by decide +kernel
theorem dL_pointAt_2 : decode cL_pointAt 2 = .ok (.aload_n 0, 1) := by decide +kernel
theorem dL_pointAt_3 : decode cL_pointAt 3 = .ok (.iload_n 1, 1) := by decide +kernel
theorem dL_pointAt_4 : decode cL_pointAt 4 = .ok (.invokevirtual 194, 3) := by decide +kernel
theorem dL_pointAt_7 : decode cL_pointAt 7 = .ok (.i2l, 1) := by decide +kernel
theorem dL_pointAt_8 : decode cL_pointAt 8 = .ok (.lastore, 1) := by decide +kernel
theorem dL_pointAt_9 : decode cL_pointAt 9 = .ok (.goto 9, 3) := by decide +kernel
theorem dL_pointAt_18 : decode cL_pointAt 18 = .ok (.iconst 0, 1) := by decide +kernel
theorem dL_pointAt_19 : decode cL_pointAt 19 = .ok (.ireturn, 1) := by decide +kernel
theorem dL_pointAt_15 : decode cL_pointAt 15 = .ok (.astore_n 3, 1) := by decide +kernel
theorem dL_pointAt_16 : decode cL_pointAt 16 = .ok (.iconst 2, 1) := by decide +kernel
theorem dL_pointAt_17 : decode cL_pointAt 17 = .ok (.ireturn, 1) := by decide +kernel
theorem dL_pointAt_12 : decode cL_pointAt 12 = .ok (.astore_n 3, 1) := by decide +kernel
theorem dL_pointAt_13 : decode cL_pointAt 13 = .ok (.iconst 1, 1) := by decide +kernel
theorem dL_pointAt_14 : decode cL_pointAt 14 = .ok (.ireturn, 1) := by decide +kernel
theorem dL_order_0 : decode cL_order 0 = .ok (.aload_n 1, 1) := by decide +kernel
theorem dL_order_1 : decode cL_order 1 = .ok (.iconst 0, 1) := by decide +kernel
theorem dL_order_2 : decode cL_order 2 = .ok (.aload_n 0, 1) := by decide +kernel
theorem dL_order_3 : decode cL_order 3 = .ok (.invokevirtual 197, 3) := by decide +kernel
theorem dL_order_6 : decode cL_order 6 = .ok (.i2l, 1) := by decide +kernel
theorem dL_order_7 : decode cL_order 7 = .ok (.lastore, 1) := by decide +kernel
theorem dL_order_8 : decode cL_order 8 = .ok (.goto 6, 3) := by decide +kernel
theorem dL_order_14 : decode cL_order 14 = .ok (.iconst 0, 1) := by decide +kernel
theorem dL_order_15 : decode cL_order 15 = .ok (.ireturn, 1) := by decide +kernel
theorem dL_order_11 : decode cL_order 11 = .ok (.astore_n 2, 1) := by decide +kernel
theorem dL_order_12 : decode cL_order 12 = .ok (.iconst 1, 1) := by decide +kernel
theorem dL_order_13 : decode cL_order 13 = .ok (.ireturn, 1) := by decide +kernel
theorem dL_out_0 : decode cL_out 0 = .ok (.aload_n 3, 1) := by decide +kernel
theorem dL_out_1 : decode cL_out 1 = .ok (.iconst 0, 1) := by decide +kernel
theorem dL_out_2 : decode cL_out 2 = .ok (.aload_n 0, 1) := by decide +kernel
theorem dL_out_3 : decode cL_out 3 = .ok (.iload_n 1, 1) := by decide +kernel
theorem dL_out_4 : decode cL_out 4 = .ok (.iload_n 2, 1) := by decide +kernel
theorem dL_out_5 : decode cL_out 5 = .ok (.invokevirtual 200, 3) := by decide +kernel
theorem dL_out_8 : decode cL_out 8 = .ok (.i2l, 1) := by decide +kernel
theorem dL_out_9 : decode cL_out 9 = .ok (.lastore, 1) := by decide +kernel
theorem dL_out_10 : decode cL_out 10 = .ok (.goto 11, 3) := by decide +kernel
theorem dL_out_21 : decode cL_out 21 = .ok (.iconst 0, 1) := by decide +kernel
theorem dL_out_22 : decode cL_out 22 = .ok (.ireturn, 1) := by decide +kernel
theorem dL_out_17 : decode cL_out 17 = .ok (.astore 4, 2) := by decide +kernel
theorem dL_out_19 : decode cL_out 19 = .ok (.iconst 2, 1) := by decide +kernel
theorem dL_out_20 : decode cL_out 20 = .ok (.ireturn, 1) := by decide +kernel
theorem dL_out_13 : decode cL_out 13 = .ok (.astore 4, 2) := by decide +kernel
theorem dL_out_15 : decode cL_out 15 = .ok (.iconst 1, 1) := by decide +kernel
theorem dL_out_16 : decode cL_out 16 = .ok (.ireturn, 1) := by decide +kernel
theorem dL_failed_0 : decode cL_failed 0 = .ok (.aload_n 2, 1) := by decide +kernel
theorem dL_failed_1 : decode cL_failed 1 = .ok (.iconst 0, 1) := by decide +kernel
theorem dL_failed_2 : decode cL_failed 2 = .ok (.aload_n 0, 1) := by decide +kernel
theorem dL_failed_3 : decode cL_failed 3 = .ok (.iload_n 1, 1) := by decide +kernel
theorem dL_failed_4 : decode cL_failed 4 = .ok (.invokevirtual 203, 3) := by decide +kernel
theorem dL_failed_7 : decode cL_failed 7 = .ok (.i2l, 1) := by decide +kernel
theorem dL_failed_8 : decode cL_failed 8 = .ok (.lastore, 1) := by decide +kernel
theorem dL_failed_9 : decode cL_failed 9 = .ok (.goto 9, 3) := by decide +kernel
theorem dL_failed_18 : decode cL_failed 18 = .ok (.iconst 0, 1) := by decide +kernel
theorem dL_failed_19 : decode cL_failed 19 = .ok (.ireturn, 1) := by decide +kernel
theorem dL_failed_15 : decode cL_failed 15 = .ok (.astore_n 3, 1) := by decide +kernel
theorem dL_failed_16 : decode cL_failed 16 = .ok (.iconst 2, 1) := by decide +kernel
theorem dL_failed_17 : decode cL_failed 17 = .ok (.ireturn, 1) := by decide +kernel
theorem dL_failed_12 : decode cL_failed 12 = .ok (.astore_n 3, 1) := by decide +kernel
theorem dL_failed_13 : decode cL_failed 13 = .ok (.iconst 1, 1) := by decide +kernel
theorem dL_failed_14 : decode cL_failed 14 = .ok (.ireturn, 1) := by decide +kernel
theorem dL_address_0 : decode cL_address 0 = .ok (.aload_n 3, 1) := by decide +kernel
theorem dL_address_1 : decode cL_address 1 = .ok (.iconst 0, 1) := by decide +kernel
theorem dL_address_2 : decode cL_address 2 = .ok (.aload_n 0, 1) := by decide +kernel
theorem dL_address_3 : decode cL_address 3 = .ok (.iload_n 1, 1) := by decide +kernel
theorem dL_address_4 : decode cL_address 4 = .ok (.iload_n 2, 1) := by decide +kernel
theorem dL_address_5 : decode cL_address 5 = .ok (.invokevirtual 206, 3) := by decide +kernel
theorem dL_address_8 : decode cL_address 8 = .ok (.i2l, 1) := by decide +kernel
theorem dL_address_9 : decode cL_address 9 = .ok (.lastore, 1) := by decide +kernel
theorem dL_address_10 : decode cL_address 10 = .ok (.goto 11, 3) := by decide +kernel
theorem dL_address_21 : decode cL_address 21 = .ok (.iconst 0, 1) := by decide +kernel
theorem dL_address_22 : decode cL_address 22 = .ok (.ireturn, 1) := by decide +kernel
theorem dL_address_17 : decode cL_address 17 = .ok (.astore 4, 2) := by decide +kernel
theorem dL_address_19 : decode cL_address 19 = .ok (.iconst 2, 1) := by decide +kernel
theorem dL_address_20 : decode cL_address 20 = .ok (.ireturn, 1) := by decide +kernel
theorem dL_address_13 : decode cL_address 13 = .ok (.astore 4, 2) := by decide +kernel
theorem dL_address_15 : decode cL_address 15 = .ok (.iconst 1, 1) := by decide +kernel
theorem dL_address_16 : decode cL_address 16 = .ok (.ireturn, 1) := by decide +kernel
theorem dL_listen_0 : decode cL_listen 0 = .ok (.aload 4, 2) := by decide +kernel
theorem dL_listen_2 : decode cL_listen 2 = .ok (.iconst 0, 1) := by decide +kernel
theorem dL_listen_3 : decode cL_listen 3 = .ok (.aload_n 0, 1) := by decide +kernel
theorem dL_listen_4 : decode cL_listen 4 = .ok (.iload_n 1, 1) := by decide +kernel
theorem dL_listen_5 : decode cL_listen 5 = .ok (.iload_n 2, 1) := by decide +kernel
theorem dL_listen_6 : decode cL_listen 6 = .ok (.iload_n 3, 1) := by decide +kernel
theorem dL_listen_7 : decode cL_listen 7 = .ok (.invokevirtual 209, 3) := by decide +kernel
theorem dL_listen_10 : decode cL_listen 10 = .ok (.ifCond .eq 7, 3) := by decide +kernel
theorem dL_listen_17 : decode cL_listen 17 = .ok (.lconst 0, 1) := by decide +kernel
theorem dL_listen_18 : decode cL_listen 18 = .ok (.lastore, 1) := by decide +kernel
theorem dL_listen_19 : decode cL_listen 19 = .ok (.goto 11, 3) := by decide +kernel
theorem dL_listen_30 : decode cL_listen 30 = .ok (.iconst 0, 1) := by decide +kernel
theorem dL_listen_31 : decode cL_listen 31 = .ok (.ireturn, 1) := by decide +kernel
theorem dL_listen_13 : decode cL_listen 13 = .ok (.lconst 1, 1) := by decide +kernel
theorem dL_listen_14 : decode cL_listen 14 = .ok (.goto 4, 3) := by decide +kernel
theorem dL_listen_26 : decode cL_listen 26 = .ok (.astore 5, 2) := by decide +kernel
theorem dL_listen_28 : decode cL_listen 28 = .ok (.iconst 2, 1) := by decide +kernel
theorem dL_listen_29 : decode cL_listen 29 = .ok (.ireturn, 1) := by decide +kernel
theorem dL_listen_22 : decode cL_listen 22 = .ok (.astore 5, 2) := by decide +kernel
theorem dL_listen_24 : decode cL_listen 24 = .ok (.iconst 1, 1) := by decide +kernel
theorem dL_listen_25 : decode cL_listen 25 = .ok (.ireturn, 1) := by decide +kernel
theorem dL_busy_0 : decode cL_busy 0 = .ok (.aload_n 3, 1) := by decide +kernel
theorem dL_busy_1 : decode cL_busy 1 = .ok (.iconst 0, 1) := by decide +kernel
theorem dL_busy_2 : decode cL_busy 2 = .ok (.aload_n 0, 1) := by decide +kernel
theorem dL_busy_3 : decode cL_busy 3 = .ok (.iload_n 1, 1) := by decide +kernel
theorem dL_busy_4 : decode cL_busy 4 = .ok (.iload_n 2, 1) := by decide +kernel
theorem dL_busy_5 : decode cL_busy 5 = .ok (.invokevirtual 212, 3) := by decide +kernel
theorem dL_busy_8 : decode cL_busy 8 = .ok (.ifCond .eq 7, 3) := by decide +kernel
theorem dL_busy_15 : decode cL_busy 15 = .ok (.lconst 0, 1) := by decide +kernel
theorem dL_busy_16 : decode cL_busy 16 = .ok (.lastore, 1) := by decide +kernel
theorem dL_busy_17 : decode cL_busy 17 = .ok (.goto 11, 3) := by decide +kernel
theorem dL_busy_28 : decode cL_busy 28 = .ok (.iconst 0, 1) := by decide +kernel
theorem dL_busy_29 : decode cL_busy 29 = .ok (.ireturn, 1) := by decide +kernel
theorem dL_busy_11 : decode cL_busy 11 = .ok (.lconst 1, 1) := by decide +kernel
theorem dL_busy_12 : decode cL_busy 12 = .ok (.goto 4, 3) := by decide +kernel
theorem dL_busy_24 : decode cL_busy 24 = .ok (.astore 4, 2) := by decide +kernel
theorem dL_busy_26 : decode cL_busy 26 = .ok (.iconst 2, 1) := by decide +kernel
theorem dL_busy_27 : decode cL_busy 27 = .ok (.ireturn, 1) := by decide +kernel
theorem dL_busy_20 : decode cL_busy 20 = .ok (.astore 4, 2) := by decide +kernel
theorem dL_busy_22 : decode cL_busy 22 = .ok (.iconst 1, 1) := by decide +kernel
theorem dL_busy_23 : decode cL_busy 23 = .ok (.ireturn, 1) := by decide +kernel
theorem dL_send_0 : decode cL_send 0 = .ok (.aload 7, 2) := by decide +kernel
theorem dL_send_2 : decode cL_send 2 = .ok (.iconst 0, 1) := by decide +kernel
theorem dL_send_3 : decode cL_send 3 = .ok (.aload_n 0, 1) := by decide +kernel
theorem dL_send_4 : decode cL_send 4 = .ok (.iload_n 1, 1) := by decide +kernel
theorem dL_send_5 : decode cL_send 5 = .ok (.iload_n 2, 1) := by decide +kernel
theorem dL_send_6 : decode cL_send 6 = .ok (.iload_n 3, 1) := by decide +kernel
theorem dL_send_7 : decode cL_send 7 = .ok (.iload 4, 2) := by decide +kernel
theorem dL_send_9 : decode cL_send 9 = .ok (.iload 5, 2) := by decide +kernel
theorem dL_send_11 : decode cL_send 11 = .ok (.iload 6, 2) := by decide +kernel
theorem dL_send_13 : decode cL_send 13 = .ok (.invokevirtual 215, 3) := by decide +kernel
theorem dL_send_16 : decode cL_send 16 = .ok (.i2l, 1) := by decide +kernel
theorem dL_send_17 : decode cL_send 17 = .ok (.lastore, 1) := by decide +kernel
theorem dL_send_18 : decode cL_send 18 = .ok (.goto 11, 3) := by decide +kernel
theorem dL_send_29 : decode cL_send 29 = .ok (.iconst 0, 1) := by decide +kernel
theorem dL_send_30 : decode cL_send 30 = .ok (.ireturn, 1) := by decide +kernel
theorem dL_send_25 : decode cL_send 25 = .ok (.astore 8, 2) := by decide +kernel
theorem dL_send_27 : decode cL_send 27 = .ok (.iconst 2, 1) := by decide +kernel
theorem dL_send_28 : decode cL_send 28 = .ok (.ireturn, 1) := by decide +kernel
theorem dL_send_21 : decode cL_send 21 = .ok (.astore 8, 2) := by decide +kernel
theorem dL_send_23 : decode cL_send 23 = .ok (.iconst 1, 1) := by decide +kernel
theorem dL_send_24 : decode cL_send 24 = .ok (.ireturn, 1) := by decide +kernel
theorem dL_disturb_0 : decode cL_disturb 0 = .ok (.aload_n 2, 1) := by decide +kernel
theorem dL_disturb_1 : decode cL_disturb 1 = .ok (.iconst 0, 1) := by decide +kernel
theorem dL_disturb_2 : decode cL_disturb 2 = .ok (.aload_n 0, 1) := by decide +kernel
theorem dL_disturb_3 : decode cL_disturb 3 = .ok (.iload_n 1, 1) := by decide +kernel
theorem dL_disturb_4 : decode cL_disturb 4 = .ok (.invokevirtual 219, 3) := by decide +kernel
theorem dL_disturb_7 : decode cL_disturb 7 = .ok (.ifCond .eq 7, 3) := by decide +kernel
theorem dL_disturb_14 : decode cL_disturb 14 = .ok (.lconst 0, 1) := by decide +kernel
theorem dL_disturb_15 : decode cL_disturb 15 = .ok (.lastore, 1) := by decide +kernel
theorem dL_disturb_16 : decode cL_disturb 16 = .ok (.goto 9, 3) := by decide +kernel
theorem dL_disturb_25 : decode cL_disturb 25 = .ok (.iconst 0, 1) := by decide +kernel
theorem dL_disturb_26 : decode cL_disturb 26 = .ok (.ireturn, 1) := by decide +kernel
theorem dL_disturb_10 : decode cL_disturb 10 = .ok (.lconst 1, 1) := by decide +kernel
theorem dL_disturb_11 : decode cL_disturb 11 = .ok (.goto 4, 3) := by decide +kernel
theorem dL_disturb_22 : decode cL_disturb 22 = .ok (.astore_n 3, 1) := by decide +kernel
theorem dL_disturb_23 : decode cL_disturb 23 = .ok (.iconst 2, 1) := by decide +kernel
theorem dL_disturb_24 : decode cL_disturb 24 = .ok (.ireturn, 1) := by decide +kernel
theorem dL_disturb_19 : decode cL_disturb 19 = .ok (.astore_n 3, 1) := by decide +kernel
theorem dL_disturb_20 : decode cL_disturb 20 = .ok (.iconst 1, 1) := by decide +kernel
theorem dL_disturb_21 : decode cL_disturb 21 = .ok (.ireturn, 1) := by decide +kernel
theorem dL_station_0 : decode cL_station 0 = .ok (.aload_n 3, 1) := by decide +kernel
theorem dL_station_1 : decode cL_station 1 = .ok (.iconst 0, 1) := by decide +kernel
theorem dL_station_2 : decode cL_station 2 = .ok (.aload_n 0, 1) := by decide +kernel
theorem dL_station_3 : decode cL_station 3 = .ok (.iload_n 1, 1) := by decide +kernel
theorem dL_station_4 : decode cL_station 4 = .ok (.iload_n 2, 1) := by decide +kernel
theorem dL_station_5 : decode cL_station 5 = .ok (.invokevirtual 223, 3) := by decide +kernel
theorem dL_station_8 : decode cL_station 8 = .ok (.i2l, 1) := by decide +kernel
theorem dL_station_9 : decode cL_station 9 = .ok (.lastore, 1) := by decide +kernel
theorem dL_station_10 : decode cL_station 10 = .ok (.goto 11, 3) := by decide +kernel
theorem dL_station_21 : decode cL_station 21 = .ok (.iconst 0, 1) := by decide +kernel
theorem dL_station_22 : decode cL_station 22 = .ok (.ireturn, 1) := by decide +kernel
theorem dL_station_17 : decode cL_station 17 = .ok (.astore 4, 2) := by decide +kernel
theorem dL_station_19 : decode cL_station 19 = .ok (.iconst 2, 1) := by decide +kernel
theorem dL_station_20 : decode cL_station 20 = .ok (.ireturn, 1) := by decide +kernel
theorem dL_station_13 : decode cL_station 13 = .ok (.astore 4, 2) := by decide +kernel
theorem dL_station_15 : decode cL_station 15 = .ok (.iconst 1, 1) := by decide +kernel
theorem dL_station_16 : decode cL_station 16 = .ok (.ireturn, 1) := by decide +kernel
theorem dL_heard_0 : decode cL_heard 0 = .ok (.aload_n 2, 1) := by decide +kernel
theorem dL_heard_1 : decode cL_heard 1 = .ok (.iconst 0, 1) := by decide +kernel
theorem dL_heard_2 : decode cL_heard 2 = .ok (.aload_n 0, 1) := by decide +kernel
theorem dL_heard_3 : decode cL_heard 3 = .ok (.iload_n 1, 1) := by decide +kernel
theorem dL_heard_4 : decode cL_heard 4 = .ok (.invokevirtual 226, 3) := by decide +kernel
theorem dL_heard_7 : decode cL_heard 7 = .ok (.i2l, 1) := by decide +kernel
theorem dL_heard_8 : decode cL_heard 8 = .ok (.lastore, 1) := by decide +kernel
theorem dL_heard_9 : decode cL_heard 9 = .ok (.goto 9, 3) := by decide +kernel
theorem dL_heard_18 : decode cL_heard 18 = .ok (.iconst 0, 1) := by decide +kernel
theorem dL_heard_19 : decode cL_heard 19 = .ok (.ireturn, 1) := by decide +kernel
theorem dL_heard_15 : decode cL_heard 15 = .ok (.astore_n 3, 1) := by decide +kernel
theorem dL_heard_16 : decode cL_heard 16 = .ok (.iconst 2, 1) := by decide +kernel
theorem dL_heard_17 : decode cL_heard 17 = .ok (.ireturn, 1) := by decide +kernel
theorem dL_heard_12 : decode cL_heard 12 = .ok (.astore_n 3, 1) := by decide +kernel
theorem dL_heard_13 : decode cL_heard 13 = .ok (.iconst 1, 1) := by decide +kernel
theorem dL_heard_14 : decode cL_heard 14 = .ok (.ireturn, 1) := by decide +kernel
theorem dL_byteAt_0 : decode cL_byteAt 0 = .ok (.aload_n 2, 1) := by decide +kernel
theorem dL_byteAt_1 : decode cL_byteAt 1 = .ok (.iconst 0, 1) := by decide +kernel
theorem dL_byteAt_2 : decode cL_byteAt 2 = .ok (.aload_n 0, 1) := by decide +kernel
theorem dL_byteAt_3 : decode cL_byteAt 3 = .ok (.iload_n 1, 1) := by decide +kernel
theorem dL_byteAt_4 : decode cL_byteAt 4 = .ok (.invokevirtual 229, 3) := by decide +kernel
theorem dL_byteAt_7 : decode cL_byteAt 7 = .ok (.i2l, 1) := by decide +kernel
theorem dL_byteAt_8 : decode cL_byteAt 8 = .ok (.lastore, 1) := by decide +kernel
theorem dL_byteAt_9 : decode cL_byteAt 9 = .ok (.goto 9, 3) := by decide +kernel
theorem dL_byteAt_18 : decode cL_byteAt 18 = .ok (.iconst 0, 1) := by decide +kernel
theorem dL_byteAt_19 : decode cL_byteAt 19 = .ok (.ireturn, 1) := by decide +kernel
theorem dL_byteAt_15 : decode cL_byteAt 15 = .ok (.astore_n 3, 1) := by decide +kernel
theorem dL_byteAt_16 : decode cL_byteAt 16 = .ok (.iconst 2, 1) := by decide +kernel
theorem dL_byteAt_17 : decode cL_byteAt 17 = .ok (.ireturn, 1) := by decide +kernel
theorem dL_byteAt_12 : decode cL_byteAt 12 = .ok (.astore_n 3, 1) := by decide +kernel
theorem dL_byteAt_13 : decode cL_byteAt 13 = .ok (.iconst 1, 1) := by decide +kernel
theorem dL_byteAt_14 : decode cL_byteAt 14 = .ok (.ireturn, 1) := by decide +kernel
theorem dL_car_0 : decode cL_car 0 = .ok (.aload_n 3, 1) := by decide +kernel
theorem dL_car_1 : decode cL_car 1 = .ok (.iconst 0, 1) := by decide +kernel
theorem dL_car_2 : decode cL_car 2 = .ok (.aload_n 0, 1) := by decide +kernel
theorem dL_car_3 : decode cL_car 3 = .ok (.iload_n 1, 1) := by decide +kernel
theorem dL_car_4 : decode cL_car 4 = .ok (.iload_n 2, 1) := by decide +kernel
theorem dL_car_5 : decode cL_car 5 = .ok (.invokevirtual 232, 3) := by decide +kernel
theorem dL_car_8 : decode cL_car 8 = .ok (.i2l, 1) := by decide +kernel
theorem dL_car_9 : decode cL_car 9 = .ok (.lastore, 1) := by decide +kernel
theorem dL_car_10 : decode cL_car 10 = .ok (.goto 11, 3) := by decide +kernel
theorem dL_car_21 : decode cL_car 21 = .ok (.iconst 0, 1) := by decide +kernel
theorem dL_car_22 : decode cL_car 22 = .ok (.ireturn, 1) := by decide +kernel
theorem dL_car_17 : decode cL_car 17 = .ok (.astore 4, 2) := by decide +kernel
theorem dL_car_19 : decode cL_car 19 = .ok (.iconst 2, 1) := by decide +kernel
theorem dL_car_20 : decode cL_car 20 = .ok (.ireturn, 1) := by decide +kernel
theorem dL_car_13 : decode cL_car 13 = .ok (.astore 4, 2) := by decide +kernel
theorem dL_car_15 : decode cL_car 15 = .ok (.iconst 1, 1) := by decide +kernel
theorem dL_car_16 : decode cL_car 16 = .ok (.ireturn, 1) := by decide +kernel
theorem dL_free_0 : decode cL_free 0 = .ok (.aload_n 0, 1) := by decide +kernel
theorem dL_free_1 : decode cL_free 1 = .ok (.iload_n 1, 1) := by decide +kernel
theorem dL_free_2 : decode cL_free 2 = .ok (.iload_n 2, 1) := by decide +kernel
theorem dL_free_3 : decode cL_free 3 = .ok (.iload_n 3, 1) := by decide +kernel
theorem dL_free_4 : decode cL_free 4 = .ok (.invokevirtual 235, 3) := by decide +kernel
theorem dL_free_7 : decode cL_free 7 = .ok (.goto 11, 3) := by decide +kernel
theorem dL_free_18 : decode cL_free 18 = .ok (.iconst 0, 1) := by decide +kernel
theorem dL_free_19 : decode cL_free 19 = .ok (.ireturn, 1) := by decide +kernel
theorem dL_free_14 : decode cL_free 14 = .ok (.astore 4, 2) := by decide +kernel
theorem dL_free_16 : decode cL_free 16 = .ok (.iconst 2, 1) := by decide +kernel
theorem dL_free_17 : decode cL_free 17 = .ok (.ireturn, 1) := by decide +kernel
theorem dL_free_10 : decode cL_free 10 = .ok (.astore 4, 2) := by decide +kernel
theorem dL_free_12 : decode cL_free 12 = .ok (.iconst 1, 1) := by decide +kernel
theorem dL_free_13 : decode cL_free 13 = .ok (.ireturn, 1) := by decide +kernel
theorem dL_span_0 : decode cL_span 0 = .ok (.aload_n 0, 1) := by decide +kernel
theorem dL_span_1 : decode cL_span 1 = .ok (.iload_n 1, 1) := by decide +kernel
theorem dL_span_2 : decode cL_span 2 = .ok (.iload_n 2, 1) := by decide +kernel
theorem dL_span_3 : decode cL_span 3 = .ok (.iload_n 3, 1) := by decide +kernel
theorem dL_span_4 : decode cL_span 4 = .ok (.invokevirtual 238, 3) := by decide +kernel
theorem dL_span_7 : decode cL_span 7 = .ok (.goto 11, 3) := by decide +kernel
theorem dL_span_18 : decode cL_span 18 = .ok (.iconst 0, 1) := by decide +kernel
theorem dL_span_19 : decode cL_span 19 = .ok (.ireturn, 1) := by decide +kernel
theorem dL_span_14 : decode cL_span 14 = .ok (.astore 4, 2) := by decide +kernel
theorem dL_span_16 : decode cL_span 16 = .ok (.iconst 2, 1) := by decide +kernel
theorem dL_span_17 : decode cL_span 17 = .ok (.ireturn, 1) := by decide +kernel
theorem dL_span_10 : decode cL_span 10 = .ok (.astore 4, 2) := by decide +kernel
theorem dL_span_12 : decode cL_span 12 = .ok (.iconst 1, 1) := by decide +kernel
theorem dL_span_13 : decode cL_span 13 = .ok (.ireturn, 1) := by decide +kernel
theorem dL_call_0 : decode cL_call 0 = .ok (.aload_n 3, 1) := by decide +kernel
theorem dL_call_1 : decode cL_call 1 = .ok (.iconst 0, 1) := by decide +kernel
theorem dL_call_2 : decode cL_call 2 = .ok (.aload_n 0, 1) := by decide +kernel
theorem dL_call_3 : decode cL_call 3 = .ok (.iload_n 1, 1) := by decide +kernel
theorem dL_call_4 : decode cL_call 4 = .ok (.iload_n 2, 1) := by decide +kernel
theorem dL_call_5 : decode cL_call 5 = .ok (.invokevirtual 241, 3) := by decide +kernel
theorem dL_call_8 : decode cL_call 8 = .ok (.i2l, 1) := by decide +kernel
theorem dL_call_9 : decode cL_call 9 = .ok (.lastore, 1) := by decide +kernel
theorem dL_call_10 : decode cL_call 10 = .ok (.goto 11, 3) := by decide +kernel
theorem dL_call_21 : decode cL_call 21 = .ok (.iconst 0, 1) := by decide +kernel
theorem dL_call_22 : decode cL_call 22 = .ok (.ireturn, 1) := by decide +kernel
theorem dL_call_17 : decode cL_call 17 = .ok (.astore 4, 2) := by decide +kernel
theorem dL_call_19 : decode cL_call 19 = .ok (.iconst 2, 1) := by decide +kernel
theorem dL_call_20 : decode cL_call 20 = .ok (.ireturn, 1) := by decide +kernel
theorem dL_call_13 : decode cL_call 13 = .ok (.astore 4, 2) := by decide +kernel
theorem dL_call_15 : decode cL_call 15 = .ok (.iconst 1, 1) := by decide +kernel
theorem dL_call_16 : decode cL_call 16 = .ok (.ireturn, 1) := by decide +kernel
theorem dL_begin_0 : decode cL_begin 0 = .ok (.aload_n 3, 1) := by decide +kernel
theorem dL_begin_1 : decode cL_begin 1 = .ok (.iconst 0, 1) := by decide +kernel
theorem dL_begin_2 : decode cL_begin 2 = .ok (.aload_n 0, 1) := by decide +kernel
theorem dL_begin_3 : decode cL_begin 3 = .ok (.iload_n 1, 1) := by decide +kernel
theorem dL_begin_4 : decode cL_begin 4 = .ok (.iload_n 2, 1) := by decide +kernel
theorem dL_begin_5 : decode cL_begin 5 = .ok (.invokevirtual 244, 3) := by decide +kernel
theorem dL_begin_8 : decode cL_begin 8 = .ok (.ifCond .eq 7, 3) := by decide +kernel
theorem dL_begin_15 : decode cL_begin 15 = .ok (.lconst 0, 1) := by decide +kernel
theorem dL_begin_16 : decode cL_begin 16 = .ok (.lastore, 1) := by decide +kernel
theorem dL_begin_17 : decode cL_begin 17 = .ok (.goto 11, 3) := by decide +kernel
theorem dL_begin_28 : decode cL_begin 28 = .ok (.iconst 0, 1) := by decide +kernel
theorem dL_begin_29 : decode cL_begin 29 = .ok (.ireturn, 1) := by decide +kernel
theorem dL_begin_11 : decode cL_begin 11 = .ok (.lconst 1, 1) := by decide +kernel
theorem dL_begin_12 : decode cL_begin 12 = .ok (.goto 4, 3) := by decide +kernel
theorem dL_begin_24 : decode cL_begin 24 = .ok (.astore 4, 2) := by decide +kernel
theorem dL_begin_26 : decode cL_begin 26 = .ok (.iconst 2, 1) := by decide +kernel
theorem dL_begin_27 : decode cL_begin 27 = .ok (.ireturn, 1) := by decide +kernel
theorem dL_begin_20 : decode cL_begin 20 = .ok (.astore 4, 2) := by decide +kernel
theorem dL_begin_22 : decode cL_begin 22 = .ok (.iconst 1, 1) := by decide +kernel
theorem dL_begin_23 : decode cL_begin 23 = .ok (.ireturn, 1) := by decide +kernel
theorem dL_done_0 : decode cL_done 0 = .ok (.aload_n 0, 1) := by decide +kernel
theorem dL_done_1 : decode cL_done 1 = .ok (.iload_n 1, 1) := by decide +kernel
theorem dL_done_2 : decode cL_done 2 = .ok (.invokevirtual 248, 3) := by decide +kernel
theorem dL_done_5 : decode cL_done 5 = .ok (.goto 9, 3) := by decide +kernel
theorem dL_done_14 : decode cL_done 14 = .ok (.iconst 0, 1) := by decide +kernel
theorem dL_done_15 : decode cL_done 15 = .ok (.ireturn, 1) := by decide +kernel
theorem dL_done_11 : decode cL_done 11 = .ok (.astore_n 2, 1) := by decide +kernel
theorem dL_done_12 : decode cL_done 12 = .ok (.iconst 2, 1) := by decide +kernel
theorem dL_done_13 : decode cL_done 13 = .ok (.ireturn, 1) := by decide +kernel
theorem dL_done_8 : decode cL_done 8 = .ok (.astore_n 2, 1) := by decide +kernel
theorem dL_done_9 : decode cL_done 9 = .ok (.iconst 1, 1) := by decide +kernel
theorem dL_done_10 : decode cL_done 10 = .ok (.ireturn, 1) := by decide +kernel
theorem dL_give_0 : decode cL_give 0 = .ok (.aload_n 1, 1) := by decide +kernel
theorem dL_give_1 : decode cL_give 1 = .ok (.iconst 0, 1) := by decide +kernel
theorem dL_give_2 : decode cL_give 2 = .ok (.aload_n 0, 1) := by decide +kernel
theorem dL_give_3 : decode cL_give 3 = .ok (.invokevirtual 252, 3) := by decide +kernel
theorem dL_give_6 : decode cL_give 6 = .ok (.lastore, 1) := by decide +kernel
theorem dL_give_7 : decode cL_give 7 = .ok (.goto 6, 3) := by decide +kernel
theorem dL_give_13 : decode cL_give 13 = .ok (.iconst 0, 1) := by decide +kernel
theorem dL_give_14 : decode cL_give 14 = .ok (.ireturn, 1) := by decide +kernel
theorem dL_give_10 : decode cL_give 10 = .ok (.astore_n 2, 1) := by decide +kernel
theorem dL_give_11 : decode cL_give 11 = .ok (.iconst 1, 1) := by decide +kernel
theorem dL_give_12 : decode cL_give 12 = .ok (.ireturn, 1) := by decide +kernel
theorem dL_given_0 : decode cL_given 0 = .ok (.aload_n 3, 1) := by decide +kernel
theorem dL_given_1 : decode cL_given 1 = .ok (.iconst 0, 1) := by decide +kernel
theorem dL_given_2 : decode cL_given 2 = .ok (.aload_n 0, 1) := by decide +kernel
theorem dL_given_3 : decode cL_given 3 = .ok (.iload_n 1, 1) := by decide +kernel
theorem dL_given_4 : decode cL_given 4 = .ok (.iload_n 2, 1) := by decide +kernel
theorem dL_given_5 : decode cL_given 5 = .ok (.invokevirtual 256, 3) := by decide +kernel
theorem dL_given_8 : decode cL_given 8 = .ok (.i2l, 1) := by decide +kernel
theorem dL_given_9 : decode cL_given 9 = .ok (.lastore, 1) := by decide +kernel
theorem dL_given_10 : decode cL_given 10 = .ok (.goto 11, 3) := by decide +kernel
theorem dL_given_21 : decode cL_given 21 = .ok (.iconst 0, 1) := by decide +kernel
theorem dL_given_22 : decode cL_given 22 = .ok (.ireturn, 1) := by decide +kernel
theorem dL_given_17 : decode cL_given 17 = .ok (.astore 4, 2) := by decide +kernel
theorem dL_given_19 : decode cL_given 19 = .ok (.iconst 2, 1) := by decide +kernel
theorem dL_given_20 : decode cL_given 20 = .ok (.ireturn, 1) := by decide +kernel
theorem dL_given_13 : decode cL_given 13 = .ok (.astore 4, 2) := by decide +kernel
theorem dL_given_15 : decode cL_given 15 = .ok (.iconst 1, 1) := by decide +kernel
theorem dL_given_16 : decode cL_given 16 = .ok (.ireturn, 1) := by decide +kernel
theorem dL_fire_0 : decode cL_fire 0 = .ok (.aload_n 3, 1) := by decide +kernel
theorem dL_fire_1 : decode cL_fire 1 = .ok (.iconst 0, 1) := by decide +kernel
theorem dL_fire_2 : decode cL_fire 2 = .ok (.aload_n 0, 1) := by decide +kernel
theorem dL_fire_3 : decode cL_fire 3 = .ok (.iload_n 1, 1) := by decide +kernel
theorem dL_fire_4 : decode cL_fire 4 = .ok (.iload_n 2, 1) := by decide +kernel
theorem dL_fire_5 : decode cL_fire 5 = .ok (.invokevirtual 259, 3) := by decide +kernel
theorem dL_fire_8 : decode cL_fire 8 = .ok (.ifCond .eq 7, 3) := by decide +kernel
theorem dL_fire_15 : decode cL_fire 15 = .ok (.lconst 0, 1) := by decide +kernel
theorem dL_fire_16 : decode cL_fire 16 = .ok (.lastore, 1) := by decide +kernel
theorem dL_fire_17 : decode cL_fire 17 = .ok (.goto 11, 3) := by decide +kernel
theorem dL_fire_28 : decode cL_fire 28 = .ok (.iconst 0, 1) := by decide +kernel
theorem dL_fire_29 : decode cL_fire 29 = .ok (.ireturn, 1) := by decide +kernel
theorem dL_fire_11 : decode cL_fire 11 = .ok (.lconst 1, 1) := by decide +kernel
theorem dL_fire_12 : decode cL_fire 12 = .ok (.goto 4, 3) := by decide +kernel
theorem dL_fire_24 : decode cL_fire 24 = .ok (.astore 4, 2) := by decide +kernel
theorem dL_fire_26 : decode cL_fire 26 = .ok (.iconst 2, 1) := by decide +kernel
theorem dL_fire_27 : decode cL_fire 27 = .ok (.ireturn, 1) := by decide +kernel
theorem dL_fire_20 : decode cL_fire 20 = .ok (.astore 4, 2) := by decide +kernel
theorem dL_fire_22 : decode cL_fire 22 = .ok (.iconst 1, 1) := by decide +kernel
theorem dL_fire_23 : decode cL_fire 23 = .ok (.ireturn, 1) := by decide +kernel
theorem dL_cell_0 : decode cL_cell 0 = .ok (.aload 4, 2) := by decide +kernel
theorem dL_cell_2 : decode cL_cell 2 = .ok (.iconst 0, 1) := by decide +kernel
theorem dL_cell_3 : decode cL_cell 3 = .ok (.aload_n 0, 1) := by decide +kernel
theorem dL_cell_4 : decode cL_cell 4 = .ok (.iload_n 1, 1) := by decide +kernel
theorem dL_cell_5 : decode cL_cell 5 = .ok (.iload_n 2, 1) := by decide +kernel
theorem dL_cell_6 : decode cL_cell 6 = .ok (.iload_n 3, 1) := by decide +kernel
theorem dL_cell_7 : decode cL_cell 7 = .ok (.invokevirtual 262, 3) := by decide +kernel
theorem dL_cell_10 : decode cL_cell 10 = .ok (.i2l, 1) := by decide +kernel
theorem dL_cell_11 : decode cL_cell 11 = .ok (.lastore, 1) := by decide +kernel
theorem dL_cell_12 : decode cL_cell 12 = .ok (.goto 11, 3) := by decide +kernel
theorem dL_cell_23 : decode cL_cell 23 = .ok (.iconst 0, 1) := by decide +kernel
theorem dL_cell_24 : decode cL_cell 24 = .ok (.ireturn, 1) := by decide +kernel
theorem dL_cell_19 : decode cL_cell 19 = .ok (.astore 5, 2) := by decide +kernel
theorem dL_cell_21 : decode cL_cell 21 = .ok (.iconst 2, 1) := by decide +kernel
theorem dL_cell_22 : decode cL_cell 22 = .ok (.ireturn, 1) := by decide +kernel
theorem dL_cell_15 : decode cL_cell 15 = .ok (.astore 5, 2) := by decide +kernel
theorem dL_cell_17 : decode cL_cell 17 = .ok (.iconst 1, 1) := by decide +kernel
theorem dL_cell_18 : decode cL_cell 18 = .ok (.ireturn, 1) := by decide +kernel
theorem dL_pass_0 : decode cL_pass 0 = .ok (.aload_n 2, 1) := by decide +kernel
theorem dL_pass_1 : decode cL_pass 1 = .ok (.iconst 0, 1) := by decide +kernel
theorem dL_pass_2 : decode cL_pass 2 = .ok (.aload_n 0, 1) := by decide +kernel
theorem dL_pass_3 : decode cL_pass 3 = .ok (.iload_n 1, 1) := by decide +kernel
theorem dL_pass_4 : decode cL_pass 4 = .ok (.invokevirtual 265, 3) := by decide +kernel
theorem dL_pass_7 : decode cL_pass 7 = .ok (.i2l, 1) := by decide +kernel
theorem dL_pass_8 : decode cL_pass 8 = .ok (.lastore, 1) := by decide +kernel
theorem dL_pass_9 : decode cL_pass 9 = .ok (.goto 9, 3) := by decide +kernel
theorem dL_pass_18 : decode cL_pass 18 = .ok (.iconst 0, 1) := by decide +kernel
theorem dL_pass_19 : decode cL_pass 19 = .ok (.ireturn, 1) := by decide +kernel
theorem dL_pass_15 : decode cL_pass 15 = .ok (.astore_n 3, 1) := by decide +kernel
theorem dL_pass_16 : decode cL_pass 16 = .ok (.iconst 2, 1) := by decide +kernel
theorem dL_pass_17 : decode cL_pass 17 = .ok (.ireturn, 1) := by decide +kernel
theorem dL_pass_12 : decode cL_pass 12 = .ok (.astore_n 3, 1) := by decide +kernel
theorem dL_pass_13 : decode cL_pass 13 = .ok (.iconst 1, 1) := by decide +kernel
theorem dL_pass_14 : decode cL_pass 14 = .ok (.ireturn, 1) := by decide +kernel
theorem dL_told_0 : decode cL_told 0 = .ok (.aload_n 2, 1) := by decide +kernel
theorem dL_told_1 : decode cL_told 1 = .ok (.iconst 0, 1) := by decide +kernel
theorem dL_told_2 : decode cL_told 2 = .ok (.aload_n 0, 1) := by decide +kernel
theorem dL_told_3 : decode cL_told 3 = .ok (.iload_n 1, 1) := by decide +kernel
theorem dL_told_4 : decode cL_told 4 = .ok (.invokevirtual 268, 3) := by decide +kernel
theorem dL_told_7 : decode cL_told 7 = .ok (.i2l, 1) := by decide +kernel
theorem dL_told_8 : decode cL_told 8 = .ok (.lastore, 1) := by decide +kernel
theorem dL_told_9 : decode cL_told 9 = .ok (.goto 9, 3) := by decide +kernel
theorem dL_told_18 : decode cL_told 18 = .ok (.iconst 0, 1) := by decide +kernel
theorem dL_told_19 : decode cL_told 19 = .ok (.ireturn, 1) := by decide +kernel
theorem dL_told_15 : decode cL_told 15 = .ok (.astore_n 3, 1) := by decide +kernel
theorem dL_told_16 : decode cL_told 16 = .ok (.iconst 2, 1) := by decide +kernel
theorem dL_told_17 : decode cL_told 17 = .ok (.ireturn, 1) := by decide +kernel
theorem dL_told_12 : decode cL_told 12 = .ok (.astore_n 3, 1) := by decide +kernel
theorem dL_told_13 : decode cL_told 13 = .ok (.iconst 1, 1) := by decide +kernel
theorem dL_told_14 : decode cL_told 14 = .ok (.ireturn, 1) := by decide +kernel
theorem zl_L_138 : zm_L zk_E RL 138 yX11_cutText (.code yX11_cutText cX11_cutText 2 (some .int)) 1 ∧ Cond.instanceMethod yX11_cutText ∈ zk_E.2.2.1 ∧ Cond.selects yX11_cutText.cls yX11_cutText yX11_cutText ∈ zk_E.2.2.1 := ⟨⟨zk_b9 149 (by decide +kernel) rfl, zk_b1 1 (by decide +kernel) rfl, zk_b9 146 (by decide +kernel) rfl, by decide +kernel, by decide +kernel, by decide +kernel⟩, zk_b9 147 (by decide +kernel) rfl, zk_b9 148 (by decide +kernel) rfl⟩
theorem zl_L_141 : zm_L zk_E RL 141 yX11_matrix (.code yX11_matrix cX11_matrix 1 (some .int)) 0 ∧ Cond.instanceMethod yX11_matrix ∈ zk_E.2.2.1 ∧ Cond.selects yX11_matrix.cls yX11_matrix yX11_matrix ∈ zk_E.2.2.1 := ⟨⟨zk_b9 156 (by decide +kernel) rfl, zk_b1 1 (by decide +kernel) rfl, zk_b9 153 (by decide +kernel) rfl, by decide +kernel, by decide +kernel, by decide +kernel⟩, zk_b9 154 (by decide +kernel) rfl, zk_b9 155 (by decide +kernel) rfl⟩
theorem zl_L_144 : zm_L zk_E RL 144 yX11_signal (.code yX11_signal cX11_signal 4 (some .int)) 2 ∧ Cond.instanceMethod yX11_signal ∈ zk_E.2.2.1 ∧ Cond.selects yX11_signal.cls yX11_signal yX11_signal ∈ zk_E.2.2.1 := ⟨⟨zk_b10 3 (by decide +kernel) rfl, zk_b1 1 (by decide +kernel) rfl, zk_b10 0 (by decide +kernel) rfl, by decide +kernel, by decide +kernel, by decide +kernel⟩, zk_b10 1 (by decide +kernel) rfl, zk_b10 2 (by decide +kernel) rfl⟩
theorem zl_L_147 : zm_L zk_E RL 147 yX11_fault (.code yX11_fault cX11_fault 4 (some .boolean)) 2 ∧ Cond.instanceMethod yX11_fault ∈ zk_E.2.2.1 ∧ Cond.selects yX11_fault.cls yX11_fault yX11_fault ∈ zk_E.2.2.1 := ⟨⟨zk_b10 10 (by decide +kernel) rfl, zk_b1 1 (by decide +kernel) rfl, zk_b10 7 (by decide +kernel) rfl, by decide +kernel, by decide +kernel, by decide +kernel⟩, zk_b10 8 (by decide +kernel) rfl, zk_b10 9 (by decide +kernel) rfl⟩
theorem zl_L_150 : zm_L zk_E RL 150 yX11_disable (.code yX11_disable cX11_disable 4 (some .int)) 2 ∧ Cond.instanceMethod yX11_disable ∈ zk_E.2.2.1 ∧ Cond.selects yX11_disable.cls yX11_disable yX11_disable ∈ zk_E.2.2.1 := ⟨⟨zk_b10 17 (by decide +kernel) rfl, zk_b1 1 (by decide +kernel) rfl, zk_b10 14 (by decide +kernel) rfl, by decide +kernel, by decide +kernel, by decide +kernel⟩, zk_b10 15 (by decide +kernel) rfl, zk_b10 16 (by decide +kernel) rfl⟩
theorem zl_L_153 : zm_L zk_E RL 153 yX11_attend (.code yX11_attend cX11_attend 2 (some .int)) 1 ∧ Cond.instanceMethod yX11_attend ∈ zk_E.2.2.1 ∧ Cond.selects yX11_attend.cls yX11_attend yX11_attend ∈ zk_E.2.2.1 := ⟨⟨zk_b10 24 (by decide +kernel) rfl, zk_b1 1 (by decide +kernel) rfl, zk_b10 21 (by decide +kernel) rfl, by decide +kernel, by decide +kernel, by decide +kernel⟩, zk_b10 22 (by decide +kernel) rfl, zk_b10 23 (by decide +kernel) rfl⟩
theorem zl_L_156 : zm_L zk_E RL 156 yX11_reset (.code yX11_reset cX11_reset 1 (some .int)) 0 ∧ Cond.instanceMethod yX11_reset ∈ zk_E.2.2.1 ∧ Cond.selects yX11_reset.cls yX11_reset yX11_reset ∈ zk_E.2.2.1 := ⟨⟨zk_b10 39 (by decide +kernel) rfl, zk_b1 1 (by decide +kernel) rfl, zk_b10 36 (by decide +kernel) rfl, by decide +kernel, by decide +kernel, by decide +kernel⟩, zk_b10 37 (by decide +kernel) rfl, zk_b10 38 (by decide +kernel) rfl⟩
theorem zl_L_159 : zm_L zk_E RL 159 yX11_act (.code yX11_act cX11_act 3 (some .int)) 2 ∧ Cond.instanceMethod yX11_act ∈ zk_E.2.2.1 ∧ Cond.selects yX11_act.cls yX11_act yX11_act ∈ zk_E.2.2.1 := ⟨⟨zk_b10 99 (by decide +kernel) rfl, zk_b1 1 (by decide +kernel) rfl, zk_b10 96 (by decide +kernel) rfl, by decide +kernel, by decide +kernel, by decide +kernel⟩, zk_b10 97 (by decide +kernel) rfl, zk_b10 98 (by decide +kernel) rfl⟩
theorem zl_L_162 : zm_L zk_E RL 162 yX11_zone (.code yX11_zone cX11_zone 3 (some .int)) 2 ∧ Cond.instanceMethod yX11_zone ∈ zk_E.2.2.1 ∧ Cond.selects yX11_zone.cls yX11_zone yX11_zone ∈ zk_E.2.2.1 := ⟨⟨zk_b10 114 (by decide +kernel) rfl, zk_b1 1 (by decide +kernel) rfl, zk_b10 111 (by decide +kernel) rfl, by decide +kernel, by decide +kernel, by decide +kernel⟩, zk_b10 112 (by decide +kernel) rfl, zk_b10 113 (by decide +kernel) rfl⟩
theorem zl_L_165 : zm_L zk_E RL 165 yX11_event (.code yX11_event cX11_event 3 (some .int)) 2 ∧ Cond.instanceMethod yX11_event ∈ zk_E.2.2.1 ∧ Cond.selects yX11_event.cls yX11_event yX11_event ∈ zk_E.2.2.1 := ⟨⟨zk_b10 126 (by decide +kernel) rfl, zk_b1 1 (by decide +kernel) rfl, zk_b10 123 (by decide +kernel) rfl, by decide +kernel, by decide +kernel, by decide +kernel⟩, zk_b10 124 (by decide +kernel) rfl, zk_b10 125 (by decide +kernel) rfl⟩
theorem zl_L_168 : zm_L zk_E RL 168 yX11_block (.code yX11_block cX11_block 2 (some .int)) 1 ∧ Cond.instanceMethod yX11_block ∈ zk_E.2.2.1 ∧ Cond.selects yX11_block.cls yX11_block yX11_block ∈ zk_E.2.2.1 := ⟨⟨zk_b10 142 (by decide +kernel) rfl, zk_b1 1 (by decide +kernel) rfl, zk_b10 139 (by decide +kernel) rfl, by decide +kernel, by decide +kernel, by decide +kernel⟩, zk_b10 140 (by decide +kernel) rfl, zk_b10 141 (by decide +kernel) rfl⟩
theorem zl_L_171 : zm_L zk_E RL 171 yX11_wire (.code yX11_wire cX11_wire 4 (some .int)) 3 ∧ Cond.instanceMethod yX11_wire ∈ zk_E.2.2.1 ∧ Cond.selects yX11_wire.cls yX11_wire yX11_wire ∈ zk_E.2.2.1 := ⟨⟨zk_b10 154 (by decide +kernel) rfl, zk_b1 1 (by decide +kernel) rfl, zk_b10 151 (by decide +kernel) rfl, by decide +kernel, by decide +kernel, by decide +kernel⟩, zk_b10 152 (by decide +kernel) rfl, zk_b10 153 (by decide +kernel) rfl⟩
theorem zl_L_174 : zm_L zk_E RL 174 yX11_numbers (.code yX11_numbers cX11_numbers 4 none) 3 ∧ Cond.instanceMethod yX11_numbers ∈ zk_E.2.2.1 ∧ Cond.selects yX11_numbers.cls yX11_numbers yX11_numbers ∈ zk_E.2.2.1 := ⟨⟨zk_b10 169 (by decide +kernel) rfl, zk_b1 1 (by decide +kernel) rfl, zk_b10 166 (by decide +kernel) rfl, by decide +kernel, by decide +kernel, by decide +kernel⟩, zk_b10 167 (by decide +kernel) rfl, zk_b10 168 (by decide +kernel) rfl⟩
theorem zl_L_178 : zm_L zk_E RL 178 yX11_row (.code yX11_row cX11_row 5 (some .int)) 3 ∧ Cond.instanceMethod yX11_row ∈ zk_E.2.2.1 ∧ Cond.selects yX11_row.cls yX11_row yX11_row ∈ zk_E.2.2.1 := ⟨⟨zk_b10 176 (by decide +kernel) rfl, zk_b1 1 (by decide +kernel) rfl, zk_b10 173 (by decide +kernel) rfl, by decide +kernel, by decide +kernel, by decide +kernel⟩, zk_b10 174 (by decide +kernel) rfl, zk_b10 175 (by decide +kernel) rfl⟩
theorem zl_L_181 : zm_L zk_E RL 181 yX11_safe (.code yX11_safe cX11_safe 4 (some .int)) 2 ∧ Cond.instanceMethod yX11_safe ∈ zk_E.2.2.1 ∧ Cond.selects yX11_safe.cls yX11_safe yX11_safe ∈ zk_E.2.2.1 := ⟨⟨zk_b10 183 (by decide +kernel) rfl, zk_b1 1 (by decide +kernel) rfl, zk_b10 180 (by decide +kernel) rfl, by decide +kernel, by decide +kernel, by decide +kernel⟩, zk_b10 181 (by decide +kernel) rfl, zk_b10 182 (by decide +kernel) rfl⟩
theorem zl_L_184 : zm_L zk_E RL 184 yX11_hand (.code yX11_hand cX11_hand 5 (some .boolean)) 3 ∧ Cond.instanceMethod yX11_hand ∈ zk_E.2.2.1 ∧ Cond.selects yX11_hand.cls yX11_hand yX11_hand ∈ zk_E.2.2.1 := ⟨⟨zk_b10 190 (by decide +kernel) rfl, zk_b1 1 (by decide +kernel) rfl, zk_b10 187 (by decide +kernel) rfl, by decide +kernel, by decide +kernel, by decide +kernel⟩, zk_b10 188 (by decide +kernel) rfl, zk_b10 189 (by decide +kernel) rfl⟩
theorem zl_L_188 : zm_L zk_E RL 188 yX11_bind (.code yX11_bind cX11_bind 4 (some .int)) 2 ∧ Cond.instanceMethod yX11_bind ∈ zk_E.2.2.1 ∧ Cond.selects yX11_bind.cls yX11_bind yX11_bind ∈ zk_E.2.2.1 := ⟨⟨zk_b10 197 (by decide +kernel) rfl, zk_b1 1 (by decide +kernel) rfl, zk_b10 194 (by decide +kernel) rfl, by decide +kernel, by decide +kernel, by decide +kernel⟩, zk_b10 195 (by decide +kernel) rfl, zk_b10 196 (by decide +kernel) rfl⟩
theorem zl_L_191 : zm_L zk_E RL 191 yX11_point (.code yX11_point cX11_point 4 (some .int)) 2 ∧ Cond.instanceMethod yX11_point ∈ zk_E.2.2.1 ∧ Cond.selects yX11_point.cls yX11_point yX11_point ∈ zk_E.2.2.1 := ⟨⟨zk_b10 204 (by decide +kernel) rfl, zk_b1 1 (by decide +kernel) rfl, zk_b10 201 (by decide +kernel) rfl, by decide +kernel, by decide +kernel, by decide +kernel⟩, zk_b10 202 (by decide +kernel) rfl, zk_b10 203 (by decide +kernel) rfl⟩
theorem zl_L_194 : zm_L zk_E RL 194 yX11_pointAt (.code yX11_pointAt cX11_pointAt 2 (some .int)) 1 ∧ Cond.instanceMethod yX11_pointAt ∈ zk_E.2.2.1 ∧ Cond.selects yX11_pointAt.cls yX11_pointAt yX11_pointAt ∈ zk_E.2.2.1 := ⟨⟨zk_b10 211 (by decide +kernel) rfl, zk_b1 1 (by decide +kernel) rfl, zk_b10 208 (by decide +kernel) rfl, by decide +kernel, by decide +kernel, by decide +kernel⟩, zk_b10 209 (by decide +kernel) rfl, zk_b10 210 (by decide +kernel) rfl⟩
theorem zl_L_197 : zm_L zk_E RL 197 yX11_order (.code yX11_order cX11_order 1 (some .int)) 0 ∧ Cond.instanceMethod yX11_order ∈ zk_E.2.2.1 ∧ Cond.selects yX11_order.cls yX11_order yX11_order ∈ zk_E.2.2.1 := ⟨⟨zk_b10 218 (by decide +kernel) rfl, zk_b1 1 (by decide +kernel) rfl, zk_b10 215 (by decide +kernel) rfl, by decide +kernel, by decide +kernel, by decide +kernel⟩, zk_b10 216 (by decide +kernel) rfl, zk_b10 217 (by decide +kernel) rfl⟩
theorem zl_L_200 : zm_L zk_E RL 200 yX11_out (.code yX11_out cX11_out 3 (some .int)) 2 ∧ Cond.instanceMethod yX11_out ∈ zk_E.2.2.1 ∧ Cond.selects yX11_out.cls yX11_out yX11_out ∈ zk_E.2.2.1 := ⟨⟨zk_b11 3 (by decide +kernel) rfl, zk_b1 1 (by decide +kernel) rfl, zk_b11 0 (by decide +kernel) rfl, by decide +kernel, by decide +kernel, by decide +kernel⟩, zk_b11 1 (by decide +kernel) rfl, zk_b11 2 (by decide +kernel) rfl⟩
theorem zl_L_203 : zm_L zk_E RL 203 yX11_failed (.code yX11_failed cX11_failed 2 (some .int)) 1 ∧ Cond.instanceMethod yX11_failed ∈ zk_E.2.2.1 ∧ Cond.selects yX11_failed.cls yX11_failed yX11_failed ∈ zk_E.2.2.1 := ⟨⟨zk_b11 15 (by decide +kernel) rfl, zk_b1 1 (by decide +kernel) rfl, zk_b11 12 (by decide +kernel) rfl, by decide +kernel, by decide +kernel, by decide +kernel⟩, zk_b11 13 (by decide +kernel) rfl, zk_b11 14 (by decide +kernel) rfl⟩
theorem zl_L_206 : zm_L zk_E RL 206 yX11_address (.code yX11_address cX11_address 3 (some .int)) 2 ∧ Cond.instanceMethod yX11_address ∈ zk_E.2.2.1 ∧ Cond.selects yX11_address.cls yX11_address yX11_address ∈ zk_E.2.2.1 := ⟨⟨zk_b11 22 (by decide +kernel) rfl, zk_b1 1 (by decide +kernel) rfl, zk_b11 19 (by decide +kernel) rfl, by decide +kernel, by decide +kernel, by decide +kernel⟩, zk_b11 20 (by decide +kernel) rfl, zk_b11 21 (by decide +kernel) rfl⟩
theorem zl_L_209 : zm_L zk_E RL 209 yX11_listen (.code yX11_listen cX11_listen 4 (some .boolean)) 3 ∧ Cond.instanceMethod yX11_listen ∈ zk_E.2.2.1 ∧ Cond.selects yX11_listen.cls yX11_listen yX11_listen ∈ zk_E.2.2.1 := ⟨⟨zk_b11 37 (by decide +kernel) rfl, zk_b1 1 (by decide +kernel) rfl, zk_b11 34 (by decide +kernel) rfl, by decide +kernel, by decide +kernel, by decide +kernel⟩, zk_b11 35 (by decide +kernel) rfl, zk_b11 36 (by decide +kernel) rfl⟩
theorem zl_L_212 : zm_L zk_E RL 212 yX11_busy (.code yX11_busy cX11_busy 3 (some .boolean)) 2 ∧ Cond.instanceMethod yX11_busy ∈ zk_E.2.2.1 ∧ Cond.selects yX11_busy.cls yX11_busy yX11_busy ∈ zk_E.2.2.1 := ⟨⟨zk_b11 48 (by decide +kernel) rfl, zk_b1 1 (by decide +kernel) rfl, zk_b11 45 (by decide +kernel) rfl, by decide +kernel, by decide +kernel, by decide +kernel⟩, zk_b11 46 (by decide +kernel) rfl, zk_b11 47 (by decide +kernel) rfl⟩
theorem zl_L_215 : zm_L zk_E RL 215 yX11_send (.code yX11_send cX11_send 7 (some .int)) 6 ∧ Cond.instanceMethod yX11_send ∈ zk_E.2.2.1 ∧ Cond.selects yX11_send.cls yX11_send yX11_send ∈ zk_E.2.2.1 := ⟨⟨zk_b11 59 (by decide +kernel) rfl, zk_b1 1 (by decide +kernel) rfl, zk_b11 56 (by decide +kernel) rfl, by decide +kernel, by decide +kernel, by decide +kernel⟩, zk_b11 57 (by decide +kernel) rfl, zk_b11 58 (by decide +kernel) rfl⟩
theorem zl_L_219 : zm_L zk_E RL 219 yX11_disturb (.code yX11_disturb cX11_disturb 2 (some .boolean)) 1 ∧ Cond.instanceMethod yX11_disturb ∈ zk_E.2.2.1 ∧ Cond.selects yX11_disturb.cls yX11_disturb yX11_disturb ∈ zk_E.2.2.1 := ⟨⟨zk_b11 68 (by decide +kernel) rfl, zk_b1 1 (by decide +kernel) rfl, zk_b11 65 (by decide +kernel) rfl, by decide +kernel, by decide +kernel, by decide +kernel⟩, zk_b11 66 (by decide +kernel) rfl, zk_b11 67 (by decide +kernel) rfl⟩
theorem zl_L_223 : zm_L zk_E RL 223 yX11_station (.code yX11_station cX11_station 3 (some .int)) 2 ∧ Cond.instanceMethod yX11_station ∈ zk_E.2.2.1 ∧ Cond.selects yX11_station.cls yX11_station yX11_station ∈ zk_E.2.2.1 := ⟨⟨zk_b11 79 (by decide +kernel) rfl, zk_b1 1 (by decide +kernel) rfl, zk_b11 76 (by decide +kernel) rfl, by decide +kernel, by decide +kernel, by decide +kernel⟩, zk_b11 77 (by decide +kernel) rfl, zk_b11 78 (by decide +kernel) rfl⟩
theorem zl_L_226 : zm_L zk_E RL 226 yX11_heard (.code yX11_heard cX11_heard 2 (some .int)) 1 ∧ Cond.instanceMethod yX11_heard ∈ zk_E.2.2.1 ∧ Cond.selects yX11_heard.cls yX11_heard yX11_heard ∈ zk_E.2.2.1 := ⟨⟨zk_b11 90 (by decide +kernel) rfl, zk_b1 1 (by decide +kernel) rfl, zk_b11 87 (by decide +kernel) rfl, by decide +kernel, by decide +kernel, by decide +kernel⟩, zk_b11 88 (by decide +kernel) rfl, zk_b11 89 (by decide +kernel) rfl⟩
theorem zl_L_229 : zm_L zk_E RL 229 yX11_byteAt (.code yX11_byteAt cX11_byteAt 2 (some .int)) 1 ∧ Cond.instanceMethod yX11_byteAt ∈ zk_E.2.2.1 ∧ Cond.selects yX11_byteAt.cls yX11_byteAt yX11_byteAt ∈ zk_E.2.2.1 := ⟨⟨zk_b11 97 (by decide +kernel) rfl, zk_b1 1 (by decide +kernel) rfl, zk_b11 94 (by decide +kernel) rfl, by decide +kernel, by decide +kernel, by decide +kernel⟩, zk_b11 95 (by decide +kernel) rfl, zk_b11 96 (by decide +kernel) rfl⟩
theorem zl_L_232 : zm_L zk_E RL 232 yX11_car (.code yX11_car cX11_car 3 (some .int)) 2 ∧ Cond.instanceMethod yX11_car ∈ zk_E.2.2.1 ∧ Cond.selects yX11_car.cls yX11_car yX11_car ∈ zk_E.2.2.1 := ⟨⟨zk_b11 104 (by decide +kernel) rfl, zk_b1 1 (by decide +kernel) rfl, zk_b11 101 (by decide +kernel) rfl, by decide +kernel, by decide +kernel, by decide +kernel⟩, zk_b11 102 (by decide +kernel) rfl, zk_b11 103 (by decide +kernel) rfl⟩
theorem zl_L_235 : zm_L zk_E RL 235 yX11_free (.code yX11_free cX11_free 4 none) 3 ∧ Cond.instanceMethod yX11_free ∈ zk_E.2.2.1 ∧ Cond.selects yX11_free.cls yX11_free yX11_free ∈ zk_E.2.2.1 := ⟨⟨zk_b11 118 (by decide +kernel) rfl, zk_b1 1 (by decide +kernel) rfl, zk_b11 115 (by decide +kernel) rfl, by decide +kernel, by decide +kernel, by decide +kernel⟩, zk_b11 116 (by decide +kernel) rfl, zk_b11 117 (by decide +kernel) rfl⟩
theorem zl_L_238 : zm_L zk_E RL 238 yX11_span (.code yX11_span cX11_span 4 none) 3 ∧ Cond.instanceMethod yX11_span ∈ zk_E.2.2.1 ∧ Cond.selects yX11_span.cls yX11_span yX11_span ∈ zk_E.2.2.1 := ⟨⟨zk_b11 134 (by decide +kernel) rfl, zk_b1 1 (by decide +kernel) rfl, zk_b11 131 (by decide +kernel) rfl, by decide +kernel, by decide +kernel, by decide +kernel⟩, zk_b11 132 (by decide +kernel) rfl, zk_b11 133 (by decide +kernel) rfl⟩
theorem zl_L_241 : zm_L zk_E RL 241 yX11_call (.code yX11_call cX11_call 3 (some .int)) 2 ∧ Cond.instanceMethod yX11_call ∈ zk_E.2.2.1 ∧ Cond.selects yX11_call.cls yX11_call yX11_call ∈ zk_E.2.2.1 := ⟨⟨zk_b11 145 (by decide +kernel) rfl, zk_b1 1 (by decide +kernel) rfl, zk_b11 142 (by decide +kernel) rfl, by decide +kernel, by decide +kernel, by decide +kernel⟩, zk_b11 143 (by decide +kernel) rfl, zk_b11 144 (by decide +kernel) rfl⟩
theorem zl_L_244 : zm_L zk_E RL 244 yX11_begin (.code yX11_begin cX11_begin 3 (some .boolean)) 2 ∧ Cond.instanceMethod yX11_begin ∈ zk_E.2.2.1 ∧ Cond.selects yX11_begin.cls yX11_begin yX11_begin ∈ zk_E.2.2.1 := ⟨⟨zk_b11 157 (by decide +kernel) rfl, zk_b1 1 (by decide +kernel) rfl, zk_b11 154 (by decide +kernel) rfl, by decide +kernel, by decide +kernel, by decide +kernel⟩, zk_b11 155 (by decide +kernel) rfl, zk_b11 156 (by decide +kernel) rfl⟩
theorem zl_L_248 : zm_L zk_E RL 248 yX11_done (.code yX11_done cX11_done 2 none) 1 ∧ Cond.instanceMethod yX11_done ∈ zk_E.2.2.1 ∧ Cond.selects yX11_done.cls yX11_done yX11_done ∈ zk_E.2.2.1 := ⟨⟨zk_b11 186 (by decide +kernel) rfl, zk_b1 1 (by decide +kernel) rfl, zk_b11 183 (by decide +kernel) rfl, by decide +kernel, by decide +kernel, by decide +kernel⟩, zk_b11 184 (by decide +kernel) rfl, zk_b11 185 (by decide +kernel) rfl⟩
theorem zl_L_252 : zm_L zk_E RL 252 yX11_give (.code yX11_give cX11_give 1 (some .long)) 0 ∧ Cond.instanceMethod yX11_give ∈ zk_E.2.2.1 ∧ Cond.selects yX11_give.cls yX11_give yX11_give ∈ zk_E.2.2.1 := ⟨⟨zk_b11 198 (by decide +kernel) rfl, zk_b1 1 (by decide +kernel) rfl, zk_b11 195 (by decide +kernel) rfl, by decide +kernel, by decide +kernel, by decide +kernel⟩, zk_b11 196 (by decide +kernel) rfl, zk_b11 197 (by decide +kernel) rfl⟩
theorem zl_L_256 : zm_L zk_E RL 256 yX11_given (.code yX11_given cX11_given 3 (some .int)) 2 ∧ Cond.instanceMethod yX11_given ∈ zk_E.2.2.1 ∧ Cond.selects yX11_given.cls yX11_given yX11_given ∈ zk_E.2.2.1 := ⟨⟨zk_b12 23 (by decide +kernel) rfl, zk_b1 1 (by decide +kernel) rfl, zk_b12 20 (by decide +kernel) rfl, by decide +kernel, by decide +kernel, by decide +kernel⟩, zk_b12 21 (by decide +kernel) rfl, zk_b12 22 (by decide +kernel) rfl⟩
theorem zl_L_259 : zm_L zk_E RL 259 yX11_fire (.code yX11_fire cX11_fire 3 (some .boolean)) 2 ∧ Cond.instanceMethod yX11_fire ∈ zk_E.2.2.1 ∧ Cond.selects yX11_fire.cls yX11_fire yX11_fire ∈ zk_E.2.2.1 := ⟨⟨zk_b12 30 (by decide +kernel) rfl, zk_b1 1 (by decide +kernel) rfl, zk_b12 27 (by decide +kernel) rfl, by decide +kernel, by decide +kernel, by decide +kernel⟩, zk_b12 28 (by decide +kernel) rfl, zk_b12 29 (by decide +kernel) rfl⟩
theorem zl_L_262 : zm_L zk_E RL 262 yX11_cell (.code yX11_cell cX11_cell 4 (some .int)) 3 ∧ Cond.instanceMethod yX11_cell ∈ zk_E.2.2.1 ∧ Cond.selects yX11_cell.cls yX11_cell yX11_cell ∈ zk_E.2.2.1 := ⟨⟨zk_b12 42 (by decide +kernel) rfl, zk_b1 1 (by decide +kernel) rfl, zk_b12 39 (by decide +kernel) rfl, by decide +kernel, by decide +kernel, by decide +kernel⟩, zk_b12 40 (by decide +kernel) rfl, zk_b12 41 (by decide +kernel) rfl⟩
theorem zl_L_265 : zm_L zk_E RL 265 yX11_pass (.code yX11_pass cX11_pass 3 (some .int)) 1 ∧ Cond.instanceMethod yX11_pass ∈ zk_E.2.2.1 ∧ Cond.selects yX11_pass.cls yX11_pass yX11_pass ∈ zk_E.2.2.1 := ⟨⟨zk_b12 63 (by decide +kernel) rfl, zk_b1 1 (by decide +kernel) rfl, zk_b12 60 (by decide +kernel) rfl, by decide +kernel, by decide +kernel, by decide +kernel⟩, zk_b12 61 (by decide +kernel) rfl, zk_b12 62 (by decide +kernel) rfl⟩
theorem zl_L_268 : zm_L zk_E RL 268 yX11_told (.code yX11_told cX11_told 2 (some .int)) 1 ∧ Cond.instanceMethod yX11_told ∈ zk_E.2.2.1 ∧ Cond.selects yX11_told.cls yX11_told yX11_told ∈ zk_E.2.2.1 := ⟨⟨zk_b13 61 (by decide +kernel) rfl, zk_b1 1 (by decide +kernel) rfl, zk_b13 58 (by decide +kernel) rfl, by decide +kernel, by decide +kernel, by decide +kernel⟩, zk_b13 59 (by decide +kernel) rfl, zk_b13 60 (by decide +kernel) rfl⟩
set_option maxHeartbeats 4000000 in
set_option maxRecDepth 100000 in
theorem zt_L_cutText {l : Launch} {V : zm_V} (hlt : l.stackTraces = false) {N : Nat} {S : zm_S} {out : (Int32 × zm_S)} {d : Nat} {a0 : Nat} {i1 : Int32} {a2 : Nat} (hd : 8 ≤ d) (h : zf_L_cutText N a0 i1 a2 S = some out) : zm_Met l zk_E V yL_cutText (.codeWith yL_cutText cL_cutText 4 (some .int) [(0, 9, 12, 13), (0, 9, 15, 15)]) d [.ref a0, .int i1, .ref a2] S 2 12 (zo_i out) zo_x := by
  refine zm_ofH (by decide +kernel) (Nat.le_of_ble_eq_true rfl) ?_
  intro p e R s m args below meth c hRR hX hr hxt
  have hR : R.frames = d ∧ R.locals = 64 * d := by rw [hRR]; exact ⟨rfl, rfl⟩
  have hX : zm_X p R s m args meth c RL "cutText" cL_cutText 4 zk_E V 2 12 := hX
  unfold zf_L_cutText at h
  refine zw_sub (lv' := [(0, .ref a0), (1, .int i1), (2, .ref a2)]) (List.forall_mem_cons.mpr ⟨rfl, (List.forall_mem_cons.mpr ⟨rfl, (List.forall_mem_cons.mpr ⟨rfl, zs_nil⟩)⟩)⟩) ?_
  refine zw_aload_n hX dL_cutText_0 rfl ?_
  refine zw_iconst (v := (0 : Int32)) hX dL_cutText_1 (by decide) ?_
  refine zw_aload_n hX dL_cutText_2 rfl ?_
  refine zw_iload_n hX dL_cutText_3 rfl ?_
  obtain ⟨_, gi, h⟩ := zb_some h
  obtain ⟨r, g, h⟩ := zb_some h
  refine zc_V (as := [.int i1]) hX (zt_X11_cutText hlt (d := d - 1) (by omega) g) zl_L_138 rfl dL_cutText_4 (zi_spec gi) ⟨rfl, rfl, Nat.le_of_ble_eq_true rfl⟩ ⟨by omega, by omega⟩ ⟨by omega, by omega⟩ ?_ ?_
  · rintro _ S2 ⟨v1, rfl, rfl⟩
    try dsimp only at h
    refine zw_i2l hX dL_cutText_7 ?_
    obtain ⟨S3, g, h⟩ := zb_some h
    refine zw_sl hX dL_cutText_8 g ?_
    refine zw_goto (tgt := 18) hX dL_cutText_9 (by decide) ?_
    refine zw_iconst (v := (0 : Int32)) hX dL_cutText_18 (by decide) ?_
    obtain rfl := Option.some.inj h
    exact zw_iret hX hr dL_cutText_19 rfl ⟨rfl, rfl⟩
  · rintro X S9 rfl
    try dsimp only at h
    by_cases cx0 : X = "java/lang/IllegalArgumentException"
    · rw [if_pos cx0] at h
      subst cx0
      refine zx_catch (name := "java/lang/IllegalArgumentException") (i := 3) (h9 := 12) (k9 := 1) hX [] { startPc := 0, endPc := 9, handlerPc := 12, catchType := 13 } [{ startPc := 0, endPc := 9, handlerPc := 15, catchType := 15 }] hxt (fun _ h => absurd h List.not_mem_nil) (by decide) (by decide) zl_L_c13 zl_cast_IllegalArgumentException rfl (by decide) (Or.inr ⟨3, rfl, dL_cutText_12⟩) (by rw [dL_cutText_12]; rfl) ?_
      refine zw_sub (lv' := []) zs_nil ?_
      refine zw_iconst (v := (1 : Int32)) hX dL_cutText_13 (by decide) ?_
      obtain rfl := Option.some.inj h
      exact zw_iret hX hr dL_cutText_14 rfl ⟨rfl, rfl⟩
    · rw [if_neg cx0] at h
      by_cases cx1 : X = "java/lang/IllegalStateException"
      · rw [if_pos cx1] at h
        subst cx1
        refine zx_catch (name := "java/lang/IllegalStateException") (i := 3) (h9 := 15) (k9 := 1) hX [{ startPc := 0, endPc := 9, handlerPc := 12, catchType := 13 }] { startPc := 0, endPc := 9, handlerPc := 15, catchType := 15 } [] hxt (List.forall_mem_cons.mpr ⟨Or.inr ⟨by decide, _, zl_L_c13, zx_nc hX⟩, fun _ h => absurd h List.not_mem_nil⟩) (by decide) (by decide) zl_L_c15 zl_cast_IllegalStateException rfl (by decide) (Or.inr ⟨3, rfl, dL_cutText_15⟩) (by rw [dL_cutText_15]; rfl) ?_
        refine zw_sub (lv' := []) zs_nil ?_
        refine zw_iconst (v := (2 : Int32)) hX dL_cutText_16 (by decide) ?_
        obtain rfl := Option.some.inj h
        exact zw_iret hX hr dL_cutText_17 rfl ⟨rfl, rfl⟩
      · rw [if_neg cx1] at h
        cases h
set_option maxHeartbeats 4000000 in
set_option maxRecDepth 100000 in
theorem zt_L_matrix {l : Launch} {V : zm_V} (hlt : l.stackTraces = false) {N : Nat} {S : zm_S} {out : (Int32 × zm_S)} {d : Nat} {a0 : Nat} {a1 : Nat} (hd : 9 ≤ d) (h : zf_L_matrix N a0 a1 S = some out) : zm_Met l zk_E V yL_matrix (.codeWith yL_matrix cL_matrix 3 (some .int) [(0, 8, 11, 15)]) d [.ref a0, .ref a1] S 1 6 (zo_i out) zo_x := by
  refine zm_ofH (by decide +kernel) (Nat.le_of_ble_eq_true rfl) ?_
  intro p e R s m args below meth c hRR hX hr hxt
  have hR : R.frames = d ∧ R.locals = 64 * d := by rw [hRR]; exact ⟨rfl, rfl⟩
  have hX : zm_X p R s m args meth c RL "matrix" cL_matrix 3 zk_E V 1 6 := hX
  unfold zf_L_matrix at h
  refine zw_sub (lv' := [(0, .ref a0), (1, .ref a1)]) (List.forall_mem_cons.mpr ⟨rfl, (List.forall_mem_cons.mpr ⟨rfl, zs_nil⟩)⟩) ?_
  refine zw_aload_n hX dL_matrix_0 rfl ?_
  refine zw_iconst (v := (0 : Int32)) hX dL_matrix_1 (by decide) ?_
  refine zw_aload_n hX dL_matrix_2 rfl ?_
  obtain ⟨_, gi, h⟩ := zb_some h
  obtain ⟨r, g, h⟩ := zb_some h
  refine zc_V (as := []) hX (zt_X11_matrix hlt (d := d - 1) (by omega) g) zl_L_141 rfl dL_matrix_3 (zi_spec gi) ⟨rfl, rfl, Nat.le_of_ble_eq_true rfl⟩ ⟨by omega, by omega⟩ ⟨by omega, by omega⟩ ?_ ?_
  · rintro _ S2 ⟨v1, rfl, rfl⟩
    try dsimp only at h
    refine zw_i2l hX dL_matrix_6 ?_
    obtain ⟨S3, g, h⟩ := zb_some h
    refine zw_sl hX dL_matrix_7 g ?_
    refine zw_goto (tgt := 14) hX dL_matrix_8 (by decide) ?_
    refine zw_iconst (v := (0 : Int32)) hX dL_matrix_14 (by decide) ?_
    obtain rfl := Option.some.inj h
    exact zw_iret hX hr dL_matrix_15 rfl ⟨rfl, rfl⟩
  · rintro X S9 rfl
    try dsimp only at h
    by_cases cx0 : X = "java/lang/IllegalStateException"
    · rw [if_pos cx0] at h
      subst cx0
      refine zx_catch (name := "java/lang/IllegalStateException") (i := 2) (h9 := 11) (k9 := 1) hX [] { startPc := 0, endPc := 8, handlerPc := 11, catchType := 15 } [] hxt (fun _ h => absurd h List.not_mem_nil) (by decide) (by decide) zl_L_c15 zl_cast_IllegalStateException rfl (by decide) (Or.inr ⟨2, rfl, dL_matrix_11⟩) (by rw [dL_matrix_11]; rfl) ?_
      refine zw_sub (lv' := []) zs_nil ?_
      refine zw_iconst (v := (1 : Int32)) hX dL_matrix_12 (by decide) ?_
      obtain rfl := Option.some.inj h
      exact zw_iret hX hr dL_matrix_13 rfl ⟨rfl, rfl⟩
    · rw [if_neg cx0] at h
      cases h
set_option maxHeartbeats 4000000 in
set_option maxRecDepth 100000 in
theorem zt_L_signal {l : Launch} {V : zm_V} (hlt : l.stackTraces = false) {N : Nat} {S : zm_S} {out : (Int32 × zm_S)} {d : Nat} {a0 : Nat} {i1 : Int32} {i2 : Int32} {a3 : Nat} (hd : 8 ≤ d) (h : zf_L_signal N a0 i1 i2 a3 S = some out) : zm_Met l zk_E V yL_signal (.codeWith yL_signal cL_signal 5 (some .int) [(0, 10, 13, 13), (0, 10, 17, 15)]) d [.ref a0, .int i1, .int i2, .ref a3] S 2 12 (zo_i out) zo_x := by
  refine zm_ofH (by decide +kernel) (Nat.le_of_ble_eq_true rfl) ?_
  intro p e R s m args below meth c hRR hX hr hxt
  have hR : R.frames = d ∧ R.locals = 64 * d := by rw [hRR]; exact ⟨rfl, rfl⟩
  have hX : zm_X p R s m args meth c RL "signal" cL_signal 5 zk_E V 2 12 := hX
  unfold zf_L_signal at h
  refine zw_sub (lv' := [(0, .ref a0), (1, .int i1), (2, .int i2), (3, .ref a3)]) (List.forall_mem_cons.mpr ⟨rfl, (List.forall_mem_cons.mpr ⟨rfl, (List.forall_mem_cons.mpr ⟨rfl, (List.forall_mem_cons.mpr ⟨rfl, zs_nil⟩)⟩)⟩)⟩) ?_
  refine zw_aload_n hX dL_signal_0 rfl ?_
  refine zw_iconst (v := (0 : Int32)) hX dL_signal_1 (by decide) ?_
  refine zw_aload_n hX dL_signal_2 rfl ?_
  refine zw_iload_n hX dL_signal_3 rfl ?_
  refine zw_iload_n hX dL_signal_4 rfl ?_
  obtain ⟨_, gi, h⟩ := zb_some h
  obtain ⟨r, g, h⟩ := zb_some h
  refine zc_V (as := [.int i1, .int i2]) hX (zt_X11_signal hlt (d := d - 1) (by omega) g) zl_L_144 rfl dL_signal_5 (zi_spec gi) ⟨rfl, rfl, Nat.le_of_ble_eq_true rfl⟩ ⟨by omega, by omega⟩ ⟨by omega, by omega⟩ ?_ ?_
  · rintro _ S2 ⟨v1, rfl, rfl⟩
    try dsimp only at h
    refine zw_i2l hX dL_signal_8 ?_
    obtain ⟨S3, g, h⟩ := zb_some h
    refine zw_sl hX dL_signal_9 g ?_
    refine zw_goto (tgt := 21) hX dL_signal_10 (by decide) ?_
    refine zw_iconst (v := (0 : Int32)) hX dL_signal_21 (by decide) ?_
    obtain rfl := Option.some.inj h
    exact zw_iret hX hr dL_signal_22 rfl ⟨rfl, rfl⟩
  · rintro X S9 rfl
    try dsimp only at h
    by_cases cx0 : X = "java/lang/IllegalArgumentException"
    · rw [if_pos cx0] at h
      subst cx0
      refine zx_catch (name := "java/lang/IllegalArgumentException") (i := 4) (h9 := 13) (k9 := 2) hX [] { startPc := 0, endPc := 10, handlerPc := 13, catchType := 13 } [{ startPc := 0, endPc := 10, handlerPc := 17, catchType := 15 }] hxt (fun _ h => absurd h List.not_mem_nil) (by decide) (by decide) zl_L_c13 zl_cast_IllegalArgumentException rfl (by decide) (Or.inl dL_signal_13) (by rw [dL_signal_13]; rfl) ?_
      refine zw_sub (lv' := []) zs_nil ?_
      refine zw_iconst (v := (1 : Int32)) hX dL_signal_15 (by decide) ?_
      obtain rfl := Option.some.inj h
      exact zw_iret hX hr dL_signal_16 rfl ⟨rfl, rfl⟩
    · rw [if_neg cx0] at h
      by_cases cx1 : X = "java/lang/IllegalStateException"
      · rw [if_pos cx1] at h
        subst cx1
        refine zx_catch (name := "java/lang/IllegalStateException") (i := 4) (h9 := 17) (k9 := 2) hX [{ startPc := 0, endPc := 10, handlerPc := 13, catchType := 13 }] { startPc := 0, endPc := 10, handlerPc := 17, catchType := 15 } [] hxt (List.forall_mem_cons.mpr ⟨Or.inr ⟨by decide, _, zl_L_c13, zx_nc hX⟩, fun _ h => absurd h List.not_mem_nil⟩) (by decide) (by decide) zl_L_c15 zl_cast_IllegalStateException rfl (by decide) (Or.inl dL_signal_17) (by rw [dL_signal_17]; rfl) ?_
        refine zw_sub (lv' := []) zs_nil ?_
        refine zw_iconst (v := (2 : Int32)) hX dL_signal_19 (by decide) ?_
        obtain rfl := Option.some.inj h
        exact zw_iret hX hr dL_signal_20 rfl ⟨rfl, rfl⟩
      · rw [if_neg cx1] at h
        cases h
set_option maxHeartbeats 4000000 in
set_option maxRecDepth 100000 in
theorem zt_L_fault_J16 {p : Program} {l : Launch} {e : Env} {R : Room} {s : State} {m : MethodId} {args : Array Value} {below : List Frame} {meth : Method} {c : Code} {V : zm_V} {mc ms d rc rs : Nat} (hlt : l.stackTraces = false) (hxt : c.exceptionTable.toList = tableOf [(0, 17, 20, 13), (0, 17, 24, 15)]) (hX : zm_X p R s m args meth c RL "fault" cL_fault 5 zk_E V mc ms) (hr : meth.sig.returnType = (some .int)) (hR : R.frames = d ∧ R.locals = 64 * d) (hd : 8 ≤ d) {N : Nat} {t0 : Nat} {t1 : Int32} {t2 : Int64} {out : (Int32 × zm_S)} (hc : 0 ≤ rc ∧ 0 ≤ rs) {S : zm_S} (h : zf_L_fault_J16 N t0 t1 t2 S = some out) : zw p l e R s m args below meth c (vx_MQ below (zm_Qc zk_E V (zo_i out)) (zm_XC zk_E V zo_x) args s mc ms (fun q => V.2.2.2.1 ≤ q)) 5 zk_E V mc ms 16 [] [.long t2, .int t1, .ref t0] S rc rs := by
  unfold zf_L_fault_J16 at h
  obtain ⟨S3, g, h⟩ := zb_some h
  refine zw_sl hX dL_fault_16 g ?_
  refine zw_goto (tgt := 28) hX dL_fault_17 (by decide) ?_
  refine zw_iconst (v := (0 : Int32)) hX dL_fault_28 (by decide) ?_
  obtain rfl := Option.some.inj h
  exact zw_iret hX hr dL_fault_29 rfl ⟨rfl, rfl⟩
set_option maxHeartbeats 4000000 in
set_option maxRecDepth 100000 in
theorem zt_L_fault {l : Launch} {V : zm_V} (hlt : l.stackTraces = false) {N : Nat} {S : zm_S} {out : (Int32 × zm_S)} {d : Nat} {a0 : Nat} {i1 : Int32} {i2 : Int32} {a3 : Nat} (hd : 8 ≤ d) (h : zf_L_fault N a0 i1 i2 a3 S = some out) : zm_Met l zk_E V yL_fault (.codeWith yL_fault cL_fault 5 (some .int) [(0, 17, 20, 13), (0, 17, 24, 15)]) d [.ref a0, .int i1, .int i2, .ref a3] S 2 12 (zo_i out) zo_x := by
  refine zm_ofH (by decide +kernel) (Nat.le_of_ble_eq_true rfl) ?_
  intro p e R s m args below meth c hRR hX hr hxt
  have hR : R.frames = d ∧ R.locals = 64 * d := by rw [hRR]; exact ⟨rfl, rfl⟩
  have hX : zm_X p R s m args meth c RL "fault" cL_fault 5 zk_E V 2 12 := hX
  unfold zf_L_fault at h
  refine zw_sub (lv' := [(0, .ref a0), (1, .int i1), (2, .int i2), (3, .ref a3)]) (List.forall_mem_cons.mpr ⟨rfl, (List.forall_mem_cons.mpr ⟨rfl, (List.forall_mem_cons.mpr ⟨rfl, (List.forall_mem_cons.mpr ⟨rfl, zs_nil⟩)⟩)⟩)⟩) ?_
  refine zw_aload_n hX dL_fault_0 rfl ?_
  refine zw_iconst (v := (0 : Int32)) hX dL_fault_1 (by decide) ?_
  refine zw_aload_n hX dL_fault_2 rfl ?_
  refine zw_iload_n hX dL_fault_3 rfl ?_
  refine zw_iload_n hX dL_fault_4 rfl ?_
  obtain ⟨_, gi, h⟩ := zb_some h
  obtain ⟨r, g, h⟩ := zb_some h
  refine zc_V (as := [.int i1, .int i2]) hX (zt_X11_fault hlt (d := d - 1) (by omega) g) zl_L_147 rfl dL_fault_5 (zi_spec gi) ⟨rfl, rfl, Nat.le_of_ble_eq_true rfl⟩ ⟨by omega, by omega⟩ ⟨by omega, by omega⟩ ?_ ?_
  · rintro _ S2 ⟨v1, rfl, rfl⟩
    try dsimp only at h
    refine zw_if_eq (tgt := 15) hX dL_fault_8 (by decide) (fun c8 => ?_) (fun c8 => ?_)
    · rw [if_pos c8] at h
      refine zw_lconst (v := (0 : Int64)) hX dL_fault_15 (by decide) ?_
      refine zw_sub (lv' := []) zs_nil ?_
      exact zt_L_fault_J16 hlt hxt hX hr hR hd ⟨by omega, by omega⟩ h
    · rw [if_neg c8] at h
      refine zw_lconst (v := (1 : Int64)) hX dL_fault_11 (by decide) ?_
      refine zw_goto (tgt := 16) hX dL_fault_12 (by decide) ?_
      refine zw_sub (lv' := []) zs_nil ?_
      exact zt_L_fault_J16 hlt hxt hX hr hR hd ⟨by omega, by omega⟩ h
  · rintro X S9 rfl
    try dsimp only at h
    by_cases cx0 : X = "java/lang/IllegalArgumentException"
    · rw [if_pos cx0] at h
      subst cx0
      refine zx_catch (name := "java/lang/IllegalArgumentException") (i := 4) (h9 := 20) (k9 := 2) hX [] { startPc := 0, endPc := 17, handlerPc := 20, catchType := 13 } [{ startPc := 0, endPc := 17, handlerPc := 24, catchType := 15 }] hxt (fun _ h => absurd h List.not_mem_nil) (by decide) (by decide) zl_L_c13 zl_cast_IllegalArgumentException rfl (by decide) (Or.inl dL_fault_20) (by rw [dL_fault_20]; rfl) ?_
      refine zw_sub (lv' := []) zs_nil ?_
      refine zw_iconst (v := (1 : Int32)) hX dL_fault_22 (by decide) ?_
      obtain rfl := Option.some.inj h
      exact zw_iret hX hr dL_fault_23 rfl ⟨rfl, rfl⟩
    · rw [if_neg cx0] at h
      by_cases cx1 : X = "java/lang/IllegalStateException"
      · rw [if_pos cx1] at h
        subst cx1
        refine zx_catch (name := "java/lang/IllegalStateException") (i := 4) (h9 := 24) (k9 := 2) hX [{ startPc := 0, endPc := 17, handlerPc := 20, catchType := 13 }] { startPc := 0, endPc := 17, handlerPc := 24, catchType := 15 } [] hxt (List.forall_mem_cons.mpr ⟨Or.inr ⟨by decide, _, zl_L_c13, zx_nc hX⟩, fun _ h => absurd h List.not_mem_nil⟩) (by decide) (by decide) zl_L_c15 zl_cast_IllegalStateException rfl (by decide) (Or.inl dL_fault_24) (by rw [dL_fault_24]; rfl) ?_
        refine zw_sub (lv' := []) zs_nil ?_
        refine zw_iconst (v := (2 : Int32)) hX dL_fault_26 (by decide) ?_
        obtain rfl := Option.some.inj h
        exact zw_iret hX hr dL_fault_27 rfl ⟨rfl, rfl⟩
      · rw [if_neg cx1] at h
        cases h
set_option maxHeartbeats 4000000 in
set_option maxRecDepth 100000 in
theorem zt_L_disable {l : Launch} {V : zm_V} (hlt : l.stackTraces = false) {N : Nat} {S : zm_S} {out : (Int32 × zm_S)} {d : Nat} {a0 : Nat} {i1 : Int32} {i2 : Int32} {a3 : Nat} (hd : 8 ≤ d) (h : zf_L_disable N a0 i1 i2 a3 S = some out) : zm_Met l zk_E V yL_disable (.codeWith yL_disable cL_disable 5 (some .int) [(0, 10, 13, 13), (0, 10, 17, 15)]) d [.ref a0, .int i1, .int i2, .ref a3] S 2 12 (zo_i out) zo_x := by
  refine zm_ofH (by decide +kernel) (Nat.le_of_ble_eq_true rfl) ?_
  intro p e R s m args below meth c hRR hX hr hxt
  have hR : R.frames = d ∧ R.locals = 64 * d := by rw [hRR]; exact ⟨rfl, rfl⟩
  have hX : zm_X p R s m args meth c RL "disable" cL_disable 5 zk_E V 2 12 := hX
  unfold zf_L_disable at h
  refine zw_sub (lv' := [(0, .ref a0), (1, .int i1), (2, .int i2), (3, .ref a3)]) (List.forall_mem_cons.mpr ⟨rfl, (List.forall_mem_cons.mpr ⟨rfl, (List.forall_mem_cons.mpr ⟨rfl, (List.forall_mem_cons.mpr ⟨rfl, zs_nil⟩)⟩)⟩)⟩) ?_
  refine zw_aload_n hX dL_disable_0 rfl ?_
  refine zw_iconst (v := (0 : Int32)) hX dL_disable_1 (by decide) ?_
  refine zw_aload_n hX dL_disable_2 rfl ?_
  refine zw_iload_n hX dL_disable_3 rfl ?_
  refine zw_iload_n hX dL_disable_4 rfl ?_
  obtain ⟨_, gi, h⟩ := zb_some h
  obtain ⟨r, g, h⟩ := zb_some h
  refine zc_V (as := [.int i1, .int i2]) hX (zt_X11_disable hlt (d := d - 1) (by omega) g) zl_L_150 rfl dL_disable_5 (zi_spec gi) ⟨rfl, rfl, Nat.le_of_ble_eq_true rfl⟩ ⟨by omega, by omega⟩ ⟨by omega, by omega⟩ ?_ ?_
  · rintro _ S2 ⟨v1, rfl, rfl⟩
    try dsimp only at h
    refine zw_i2l hX dL_disable_8 ?_
    obtain ⟨S3, g, h⟩ := zb_some h
    refine zw_sl hX dL_disable_9 g ?_
    refine zw_goto (tgt := 21) hX dL_disable_10 (by decide) ?_
    refine zw_iconst (v := (0 : Int32)) hX dL_disable_21 (by decide) ?_
    obtain rfl := Option.some.inj h
    exact zw_iret hX hr dL_disable_22 rfl ⟨rfl, rfl⟩
  · rintro X S9 rfl
    try dsimp only at h
    by_cases cx0 : X = "java/lang/IllegalArgumentException"
    · rw [if_pos cx0] at h
      subst cx0
      refine zx_catch (name := "java/lang/IllegalArgumentException") (i := 4) (h9 := 13) (k9 := 2) hX [] { startPc := 0, endPc := 10, handlerPc := 13, catchType := 13 } [{ startPc := 0, endPc := 10, handlerPc := 17, catchType := 15 }] hxt (fun _ h => absurd h List.not_mem_nil) (by decide) (by decide) zl_L_c13 zl_cast_IllegalArgumentException rfl (by decide) (Or.inl dL_disable_13) (by rw [dL_disable_13]; rfl) ?_
      refine zw_sub (lv' := []) zs_nil ?_
      refine zw_iconst (v := (1 : Int32)) hX dL_disable_15 (by decide) ?_
      obtain rfl := Option.some.inj h
      exact zw_iret hX hr dL_disable_16 rfl ⟨rfl, rfl⟩
    · rw [if_neg cx0] at h
      by_cases cx1 : X = "java/lang/IllegalStateException"
      · rw [if_pos cx1] at h
        subst cx1
        refine zx_catch (name := "java/lang/IllegalStateException") (i := 4) (h9 := 17) (k9 := 2) hX [{ startPc := 0, endPc := 10, handlerPc := 13, catchType := 13 }] { startPc := 0, endPc := 10, handlerPc := 17, catchType := 15 } [] hxt (List.forall_mem_cons.mpr ⟨Or.inr ⟨by decide, _, zl_L_c13, zx_nc hX⟩, fun _ h => absurd h List.not_mem_nil⟩) (by decide) (by decide) zl_L_c15 zl_cast_IllegalStateException rfl (by decide) (Or.inl dL_disable_17) (by rw [dL_disable_17]; rfl) ?_
        refine zw_sub (lv' := []) zs_nil ?_
        refine zw_iconst (v := (2 : Int32)) hX dL_disable_19 (by decide) ?_
        obtain rfl := Option.some.inj h
        exact zw_iret hX hr dL_disable_20 rfl ⟨rfl, rfl⟩
      · rw [if_neg cx1] at h
        cases h
set_option maxHeartbeats 4000000 in
set_option maxRecDepth 100000 in
theorem zt_L_attend {l : Launch} {V : zm_V} (hlt : l.stackTraces = false) {N : Nat} {S : zm_S} {out : (Int32 × zm_S)} {d : Nat} {a0 : Nat} {i1 : Int32} {a2 : Nat} (hd : 8 ≤ d) (h : zf_L_attend N a0 i1 a2 S = some out) : zm_Met l zk_E V yL_attend (.codeWith yL_attend cL_attend 4 (some .int) [(0, 9, 12, 13), (0, 9, 15, 15)]) d [.ref a0, .int i1, .ref a2] S 2 12 (zo_i out) zo_x := by
  refine zm_ofH (by decide +kernel) (Nat.le_of_ble_eq_true rfl) ?_
  intro p e R s m args below meth c hRR hX hr hxt
  have hR : R.frames = d ∧ R.locals = 64 * d := by rw [hRR]; exact ⟨rfl, rfl⟩
  have hX : zm_X p R s m args meth c RL "attend" cL_attend 4 zk_E V 2 12 := hX
  unfold zf_L_attend at h
  refine zw_sub (lv' := [(0, .ref a0), (1, .int i1), (2, .ref a2)]) (List.forall_mem_cons.mpr ⟨rfl, (List.forall_mem_cons.mpr ⟨rfl, (List.forall_mem_cons.mpr ⟨rfl, zs_nil⟩)⟩)⟩) ?_
  refine zw_aload_n hX dL_attend_0 rfl ?_
  refine zw_iconst (v := (0 : Int32)) hX dL_attend_1 (by decide) ?_
  refine zw_aload_n hX dL_attend_2 rfl ?_
  refine zw_iload_n hX dL_attend_3 rfl ?_
  obtain ⟨_, gi, h⟩ := zb_some h
  obtain ⟨r, g, h⟩ := zb_some h
  refine zc_V (as := [.int i1]) hX (zt_X11_attend hlt (d := d - 1) (by omega) g) zl_L_153 rfl dL_attend_4 (zi_spec gi) ⟨rfl, rfl, Nat.le_of_ble_eq_true rfl⟩ ⟨by omega, by omega⟩ ⟨by omega, by omega⟩ ?_ ?_
  · rintro _ S2 ⟨v1, rfl, rfl⟩
    try dsimp only at h
    refine zw_i2l hX dL_attend_7 ?_
    obtain ⟨S3, g, h⟩ := zb_some h
    refine zw_sl hX dL_attend_8 g ?_
    refine zw_goto (tgt := 18) hX dL_attend_9 (by decide) ?_
    refine zw_iconst (v := (0 : Int32)) hX dL_attend_18 (by decide) ?_
    obtain rfl := Option.some.inj h
    exact zw_iret hX hr dL_attend_19 rfl ⟨rfl, rfl⟩
  · rintro X S9 rfl
    try dsimp only at h
    by_cases cx0 : X = "java/lang/IllegalArgumentException"
    · rw [if_pos cx0] at h
      subst cx0
      refine zx_catch (name := "java/lang/IllegalArgumentException") (i := 3) (h9 := 12) (k9 := 1) hX [] { startPc := 0, endPc := 9, handlerPc := 12, catchType := 13 } [{ startPc := 0, endPc := 9, handlerPc := 15, catchType := 15 }] hxt (fun _ h => absurd h List.not_mem_nil) (by decide) (by decide) zl_L_c13 zl_cast_IllegalArgumentException rfl (by decide) (Or.inr ⟨3, rfl, dL_attend_12⟩) (by rw [dL_attend_12]; rfl) ?_
      refine zw_sub (lv' := []) zs_nil ?_
      refine zw_iconst (v := (1 : Int32)) hX dL_attend_13 (by decide) ?_
      obtain rfl := Option.some.inj h
      exact zw_iret hX hr dL_attend_14 rfl ⟨rfl, rfl⟩
    · rw [if_neg cx0] at h
      by_cases cx1 : X = "java/lang/IllegalStateException"
      · rw [if_pos cx1] at h
        subst cx1
        refine zx_catch (name := "java/lang/IllegalStateException") (i := 3) (h9 := 15) (k9 := 1) hX [{ startPc := 0, endPc := 9, handlerPc := 12, catchType := 13 }] { startPc := 0, endPc := 9, handlerPc := 15, catchType := 15 } [] hxt (List.forall_mem_cons.mpr ⟨Or.inr ⟨by decide, _, zl_L_c13, zx_nc hX⟩, fun _ h => absurd h List.not_mem_nil⟩) (by decide) (by decide) zl_L_c15 zl_cast_IllegalStateException rfl (by decide) (Or.inr ⟨3, rfl, dL_attend_15⟩) (by rw [dL_attend_15]; rfl) ?_
        refine zw_sub (lv' := []) zs_nil ?_
        refine zw_iconst (v := (2 : Int32)) hX dL_attend_16 (by decide) ?_
        obtain rfl := Option.some.inj h
        exact zw_iret hX hr dL_attend_17 rfl ⟨rfl, rfl⟩
      · rw [if_neg cx1] at h
        cases h
set_option maxHeartbeats 4000000 in
set_option maxRecDepth 100000 in
theorem zt_L_reset {l : Launch} {V : zm_V} (hlt : l.stackTraces = false) {N : Nat} {S : zm_S} {out : (Int32 × zm_S)} {d : Nat} {a0 : Nat} {a1 : Nat} (hd : 8 ≤ d) (h : zf_L_reset N a0 a1 S = some out) : zm_Met l zk_E V yL_reset (.codeWith yL_reset cL_reset 3 (some .int) [(0, 8, 11, 15)]) d [.ref a0, .ref a1] S 1 6 (zo_i out) zo_x := by
  refine zm_ofH (by decide +kernel) (Nat.le_of_ble_eq_true rfl) ?_
  intro p e R s m args below meth c hRR hX hr hxt
  have hR : R.frames = d ∧ R.locals = 64 * d := by rw [hRR]; exact ⟨rfl, rfl⟩
  have hX : zm_X p R s m args meth c RL "reset" cL_reset 3 zk_E V 1 6 := hX
  unfold zf_L_reset at h
  refine zw_sub (lv' := [(0, .ref a0), (1, .ref a1)]) (List.forall_mem_cons.mpr ⟨rfl, (List.forall_mem_cons.mpr ⟨rfl, zs_nil⟩)⟩) ?_
  refine zw_aload_n hX dL_reset_0 rfl ?_
  refine zw_iconst (v := (0 : Int32)) hX dL_reset_1 (by decide) ?_
  refine zw_aload_n hX dL_reset_2 rfl ?_
  obtain ⟨_, gi, h⟩ := zb_some h
  obtain ⟨r, g, h⟩ := zb_some h
  refine zc_V (as := []) hX (zt_X11_reset hlt (d := d - 1) (by omega) g) zl_L_156 rfl dL_reset_3 (zi_spec gi) ⟨rfl, rfl, Nat.le_of_ble_eq_true rfl⟩ ⟨by omega, by omega⟩ ⟨by omega, by omega⟩ ?_ ?_
  · rintro _ S2 ⟨v1, rfl, rfl⟩
    try dsimp only at h
    refine zw_i2l hX dL_reset_6 ?_
    obtain ⟨S3, g, h⟩ := zb_some h
    refine zw_sl hX dL_reset_7 g ?_
    refine zw_goto (tgt := 14) hX dL_reset_8 (by decide) ?_
    refine zw_iconst (v := (0 : Int32)) hX dL_reset_14 (by decide) ?_
    obtain rfl := Option.some.inj h
    exact zw_iret hX hr dL_reset_15 rfl ⟨rfl, rfl⟩
  · rintro X S9 rfl
    try dsimp only at h
    by_cases cx0 : X = "java/lang/IllegalStateException"
    · rw [if_pos cx0] at h
      subst cx0
      refine zx_catch (name := "java/lang/IllegalStateException") (i := 2) (h9 := 11) (k9 := 1) hX [] { startPc := 0, endPc := 8, handlerPc := 11, catchType := 15 } [] hxt (fun _ h => absurd h List.not_mem_nil) (by decide) (by decide) zl_L_c15 zl_cast_IllegalStateException rfl (by decide) (Or.inr ⟨2, rfl, dL_reset_11⟩) (by rw [dL_reset_11]; rfl) ?_
      refine zw_sub (lv' := []) zs_nil ?_
      refine zw_iconst (v := (1 : Int32)) hX dL_reset_12 (by decide) ?_
      obtain rfl := Option.some.inj h
      exact zw_iret hX hr dL_reset_13 rfl ⟨rfl, rfl⟩
    · rw [if_neg cx0] at h
      cases h
set_option maxHeartbeats 4000000 in
set_option maxRecDepth 100000 in
theorem zt_L_act {l : Launch} {V : zm_V} (hlt : l.stackTraces = false) {N : Nat} {S : zm_S} {out : (Int32 × zm_S)} {d : Nat} {a0 : Nat} {i1 : Int32} {i2 : Int32} {a3 : Nat} (hd : 8 ≤ d) (h : zf_L_act N a0 i1 i2 a3 S = some out) : zm_Met l zk_E V yL_act (.codeWith yL_act cL_act 5 (some .int) [(0, 10, 13, 13), (0, 10, 17, 15)]) d [.ref a0, .int i1, .int i2, .ref a3] S 2 12 (zo_i out) zo_x := by
  refine zm_ofH (by decide +kernel) (Nat.le_of_ble_eq_true rfl) ?_
  intro p e R s m args below meth c hRR hX hr hxt
  have hR : R.frames = d ∧ R.locals = 64 * d := by rw [hRR]; exact ⟨rfl, rfl⟩
  have hX : zm_X p R s m args meth c RL "act" cL_act 5 zk_E V 2 12 := hX
  unfold zf_L_act at h
  refine zw_sub (lv' := [(0, .ref a0), (1, .int i1), (2, .int i2), (3, .ref a3)]) (List.forall_mem_cons.mpr ⟨rfl, (List.forall_mem_cons.mpr ⟨rfl, (List.forall_mem_cons.mpr ⟨rfl, (List.forall_mem_cons.mpr ⟨rfl, zs_nil⟩)⟩)⟩)⟩) ?_
  refine zw_aload_n hX dL_act_0 rfl ?_
  refine zw_iconst (v := (0 : Int32)) hX dL_act_1 (by decide) ?_
  refine zw_aload_n hX dL_act_2 rfl ?_
  refine zw_iload_n hX dL_act_3 rfl ?_
  refine zw_iload_n hX dL_act_4 rfl ?_
  obtain ⟨_, gi, h⟩ := zb_some h
  obtain ⟨r, g, h⟩ := zb_some h
  refine zc_V (as := [.int i1, .int i2]) hX (zt_X11_act hlt (d := d - 1) (by omega) g) zl_L_159 rfl dL_act_5 (zi_spec gi) ⟨rfl, rfl, Nat.le_of_ble_eq_true rfl⟩ ⟨by omega, by omega⟩ ⟨by omega, by omega⟩ ?_ ?_
  · rintro _ S2 ⟨v1, rfl, rfl⟩
    try dsimp only at h
    refine zw_i2l hX dL_act_8 ?_
    obtain ⟨S3, g, h⟩ := zb_some h
    refine zw_sl hX dL_act_9 g ?_
    refine zw_goto (tgt := 21) hX dL_act_10 (by decide) ?_
    refine zw_iconst (v := (0 : Int32)) hX dL_act_21 (by decide) ?_
    obtain rfl := Option.some.inj h
    exact zw_iret hX hr dL_act_22 rfl ⟨rfl, rfl⟩
  · rintro X S9 rfl
    try dsimp only at h
    by_cases cx0 : X = "java/lang/IllegalArgumentException"
    · rw [if_pos cx0] at h
      subst cx0
      refine zx_catch (name := "java/lang/IllegalArgumentException") (i := 4) (h9 := 13) (k9 := 2) hX [] { startPc := 0, endPc := 10, handlerPc := 13, catchType := 13 } [{ startPc := 0, endPc := 10, handlerPc := 17, catchType := 15 }] hxt (fun _ h => absurd h List.not_mem_nil) (by decide) (by decide) zl_L_c13 zl_cast_IllegalArgumentException rfl (by decide) (Or.inl dL_act_13) (by rw [dL_act_13]; rfl) ?_
      refine zw_sub (lv' := []) zs_nil ?_
      refine zw_iconst (v := (1 : Int32)) hX dL_act_15 (by decide) ?_
      obtain rfl := Option.some.inj h
      exact zw_iret hX hr dL_act_16 rfl ⟨rfl, rfl⟩
    · rw [if_neg cx0] at h
      by_cases cx1 : X = "java/lang/IllegalStateException"
      · rw [if_pos cx1] at h
        subst cx1
        refine zx_catch (name := "java/lang/IllegalStateException") (i := 4) (h9 := 17) (k9 := 2) hX [{ startPc := 0, endPc := 10, handlerPc := 13, catchType := 13 }] { startPc := 0, endPc := 10, handlerPc := 17, catchType := 15 } [] hxt (List.forall_mem_cons.mpr ⟨Or.inr ⟨by decide, _, zl_L_c13, zx_nc hX⟩, fun _ h => absurd h List.not_mem_nil⟩) (by decide) (by decide) zl_L_c15 zl_cast_IllegalStateException rfl (by decide) (Or.inl dL_act_17) (by rw [dL_act_17]; rfl) ?_
        refine zw_sub (lv' := []) zs_nil ?_
        refine zw_iconst (v := (2 : Int32)) hX dL_act_19 (by decide) ?_
        obtain rfl := Option.some.inj h
        exact zw_iret hX hr dL_act_20 rfl ⟨rfl, rfl⟩
      · rw [if_neg cx1] at h
        cases h
set_option maxHeartbeats 4000000 in
set_option maxRecDepth 100000 in
theorem zt_L_zone {l : Launch} {V : zm_V} (hlt : l.stackTraces = false) {N : Nat} {S : zm_S} {out : (Int32 × zm_S)} {d : Nat} {a0 : Nat} {i1 : Int32} {i2 : Int32} {a3 : Nat} (hd : 8 ≤ d) (h : zf_L_zone N a0 i1 i2 a3 S = some out) : zm_Met l zk_E V yL_zone (.codeWith yL_zone cL_zone 5 (some .int) [(0, 10, 13, 13), (0, 10, 17, 15)]) d [.ref a0, .int i1, .int i2, .ref a3] S 2 12 (zo_i out) zo_x := by
  refine zm_ofH (by decide +kernel) (Nat.le_of_ble_eq_true rfl) ?_
  intro p e R s m args below meth c hRR hX hr hxt
  have hR : R.frames = d ∧ R.locals = 64 * d := by rw [hRR]; exact ⟨rfl, rfl⟩
  have hX : zm_X p R s m args meth c RL "zone" cL_zone 5 zk_E V 2 12 := hX
  unfold zf_L_zone at h
  refine zw_sub (lv' := [(0, .ref a0), (1, .int i1), (2, .int i2), (3, .ref a3)]) (List.forall_mem_cons.mpr ⟨rfl, (List.forall_mem_cons.mpr ⟨rfl, (List.forall_mem_cons.mpr ⟨rfl, (List.forall_mem_cons.mpr ⟨rfl, zs_nil⟩)⟩)⟩)⟩) ?_
  refine zw_aload_n hX dL_zone_0 rfl ?_
  refine zw_iconst (v := (0 : Int32)) hX dL_zone_1 (by decide) ?_
  refine zw_aload_n hX dL_zone_2 rfl ?_
  refine zw_iload_n hX dL_zone_3 rfl ?_
  refine zw_iload_n hX dL_zone_4 rfl ?_
  obtain ⟨_, gi, h⟩ := zb_some h
  obtain ⟨r, g, h⟩ := zb_some h
  refine zc_V (as := [.int i1, .int i2]) hX (zt_X11_zone hlt (d := d - 1) (by omega) g) zl_L_162 rfl dL_zone_5 (zi_spec gi) ⟨rfl, rfl, Nat.le_of_ble_eq_true rfl⟩ ⟨by omega, by omega⟩ ⟨by omega, by omega⟩ ?_ ?_
  · rintro _ S2 ⟨v1, rfl, rfl⟩
    try dsimp only at h
    refine zw_i2l hX dL_zone_8 ?_
    obtain ⟨S3, g, h⟩ := zb_some h
    refine zw_sl hX dL_zone_9 g ?_
    refine zw_goto (tgt := 21) hX dL_zone_10 (by decide) ?_
    refine zw_iconst (v := (0 : Int32)) hX dL_zone_21 (by decide) ?_
    obtain rfl := Option.some.inj h
    exact zw_iret hX hr dL_zone_22 rfl ⟨rfl, rfl⟩
  · rintro X S9 rfl
    try dsimp only at h
    by_cases cx0 : X = "java/lang/IllegalArgumentException"
    · rw [if_pos cx0] at h
      subst cx0
      refine zx_catch (name := "java/lang/IllegalArgumentException") (i := 4) (h9 := 13) (k9 := 2) hX [] { startPc := 0, endPc := 10, handlerPc := 13, catchType := 13 } [{ startPc := 0, endPc := 10, handlerPc := 17, catchType := 15 }] hxt (fun _ h => absurd h List.not_mem_nil) (by decide) (by decide) zl_L_c13 zl_cast_IllegalArgumentException rfl (by decide) (Or.inl dL_zone_13) (by rw [dL_zone_13]; rfl) ?_
      refine zw_sub (lv' := []) zs_nil ?_
      refine zw_iconst (v := (1 : Int32)) hX dL_zone_15 (by decide) ?_
      obtain rfl := Option.some.inj h
      exact zw_iret hX hr dL_zone_16 rfl ⟨rfl, rfl⟩
    · rw [if_neg cx0] at h
      by_cases cx1 : X = "java/lang/IllegalStateException"
      · rw [if_pos cx1] at h
        subst cx1
        refine zx_catch (name := "java/lang/IllegalStateException") (i := 4) (h9 := 17) (k9 := 2) hX [{ startPc := 0, endPc := 10, handlerPc := 13, catchType := 13 }] { startPc := 0, endPc := 10, handlerPc := 17, catchType := 15 } [] hxt (List.forall_mem_cons.mpr ⟨Or.inr ⟨by decide, _, zl_L_c13, zx_nc hX⟩, fun _ h => absurd h List.not_mem_nil⟩) (by decide) (by decide) zl_L_c15 zl_cast_IllegalStateException rfl (by decide) (Or.inl dL_zone_17) (by rw [dL_zone_17]; rfl) ?_
        refine zw_sub (lv' := []) zs_nil ?_
        refine zw_iconst (v := (2 : Int32)) hX dL_zone_19 (by decide) ?_
        obtain rfl := Option.some.inj h
        exact zw_iret hX hr dL_zone_20 rfl ⟨rfl, rfl⟩
      · rw [if_neg cx1] at h
        cases h
set_option maxHeartbeats 4000000 in
set_option maxRecDepth 100000 in
theorem zt_L_event {l : Launch} {V : zm_V} (hlt : l.stackTraces = false) {N : Nat} {S : zm_S} {out : (Int32 × zm_S)} {d : Nat} {a0 : Nat} {i1 : Int32} {i2 : Int32} {a3 : Nat} (hd : 8 ≤ d) (h : zf_L_event N a0 i1 i2 a3 S = some out) : zm_Met l zk_E V yL_event (.codeWith yL_event cL_event 5 (some .int) [(0, 10, 13, 13), (0, 10, 17, 15)]) d [.ref a0, .int i1, .int i2, .ref a3] S 2 12 (zo_i out) zo_x := by
  refine zm_ofH (by decide +kernel) (Nat.le_of_ble_eq_true rfl) ?_
  intro p e R s m args below meth c hRR hX hr hxt
  have hR : R.frames = d ∧ R.locals = 64 * d := by rw [hRR]; exact ⟨rfl, rfl⟩
  have hX : zm_X p R s m args meth c RL "event" cL_event 5 zk_E V 2 12 := hX
  unfold zf_L_event at h
  refine zw_sub (lv' := [(0, .ref a0), (1, .int i1), (2, .int i2), (3, .ref a3)]) (List.forall_mem_cons.mpr ⟨rfl, (List.forall_mem_cons.mpr ⟨rfl, (List.forall_mem_cons.mpr ⟨rfl, (List.forall_mem_cons.mpr ⟨rfl, zs_nil⟩)⟩)⟩)⟩) ?_
  refine zw_aload_n hX dL_event_0 rfl ?_
  refine zw_iconst (v := (0 : Int32)) hX dL_event_1 (by decide) ?_
  refine zw_aload_n hX dL_event_2 rfl ?_
  refine zw_iload_n hX dL_event_3 rfl ?_
  refine zw_iload_n hX dL_event_4 rfl ?_
  obtain ⟨_, gi, h⟩ := zb_some h
  obtain ⟨r, g, h⟩ := zb_some h
  refine zc_V (as := [.int i1, .int i2]) hX (zt_X11_event hlt (d := d - 1) (by omega) g) zl_L_165 rfl dL_event_5 (zi_spec gi) ⟨rfl, rfl, Nat.le_of_ble_eq_true rfl⟩ ⟨by omega, by omega⟩ ⟨by omega, by omega⟩ ?_ ?_
  · rintro _ S2 ⟨v1, rfl, rfl⟩
    try dsimp only at h
    refine zw_i2l hX dL_event_8 ?_
    obtain ⟨S3, g, h⟩ := zb_some h
    refine zw_sl hX dL_event_9 g ?_
    refine zw_goto (tgt := 21) hX dL_event_10 (by decide) ?_
    refine zw_iconst (v := (0 : Int32)) hX dL_event_21 (by decide) ?_
    obtain rfl := Option.some.inj h
    exact zw_iret hX hr dL_event_22 rfl ⟨rfl, rfl⟩
  · rintro X S9 rfl
    try dsimp only at h
    by_cases cx0 : X = "java/lang/IllegalArgumentException"
    · rw [if_pos cx0] at h
      subst cx0
      refine zx_catch (name := "java/lang/IllegalArgumentException") (i := 4) (h9 := 13) (k9 := 2) hX [] { startPc := 0, endPc := 10, handlerPc := 13, catchType := 13 } [{ startPc := 0, endPc := 10, handlerPc := 17, catchType := 15 }] hxt (fun _ h => absurd h List.not_mem_nil) (by decide) (by decide) zl_L_c13 zl_cast_IllegalArgumentException rfl (by decide) (Or.inl dL_event_13) (by rw [dL_event_13]; rfl) ?_
      refine zw_sub (lv' := []) zs_nil ?_
      refine zw_iconst (v := (1 : Int32)) hX dL_event_15 (by decide) ?_
      obtain rfl := Option.some.inj h
      exact zw_iret hX hr dL_event_16 rfl ⟨rfl, rfl⟩
    · rw [if_neg cx0] at h
      by_cases cx1 : X = "java/lang/IllegalStateException"
      · rw [if_pos cx1] at h
        subst cx1
        refine zx_catch (name := "java/lang/IllegalStateException") (i := 4) (h9 := 17) (k9 := 2) hX [{ startPc := 0, endPc := 10, handlerPc := 13, catchType := 13 }] { startPc := 0, endPc := 10, handlerPc := 17, catchType := 15 } [] hxt (List.forall_mem_cons.mpr ⟨Or.inr ⟨by decide, _, zl_L_c13, zx_nc hX⟩, fun _ h => absurd h List.not_mem_nil⟩) (by decide) (by decide) zl_L_c15 zl_cast_IllegalStateException rfl (by decide) (Or.inl dL_event_17) (by rw [dL_event_17]; rfl) ?_
        refine zw_sub (lv' := []) zs_nil ?_
        refine zw_iconst (v := (2 : Int32)) hX dL_event_19 (by decide) ?_
        obtain rfl := Option.some.inj h
        exact zw_iret hX hr dL_event_20 rfl ⟨rfl, rfl⟩
      · rw [if_neg cx1] at h
        cases h
set_option maxHeartbeats 4000000 in
set_option maxRecDepth 100000 in
theorem zt_L_block {l : Launch} {V : zm_V} (hlt : l.stackTraces = false) {N : Nat} {S : zm_S} {out : (Int32 × zm_S)} {d : Nat} {a0 : Nat} {i1 : Int32} {a2 : Nat} (hd : 8 ≤ d) (h : zf_L_block N a0 i1 a2 S = some out) : zm_Met l zk_E V yL_block (.codeWith yL_block cL_block 4 (some .int) [(0, 9, 12, 13), (0, 9, 15, 15)]) d [.ref a0, .int i1, .ref a2] S 2 12 (zo_i out) zo_x := by
  refine zm_ofH (by decide +kernel) (Nat.le_of_ble_eq_true rfl) ?_
  intro p e R s m args below meth c hRR hX hr hxt
  have hR : R.frames = d ∧ R.locals = 64 * d := by rw [hRR]; exact ⟨rfl, rfl⟩
  have hX : zm_X p R s m args meth c RL "block" cL_block 4 zk_E V 2 12 := hX
  unfold zf_L_block at h
  refine zw_sub (lv' := [(0, .ref a0), (1, .int i1), (2, .ref a2)]) (List.forall_mem_cons.mpr ⟨rfl, (List.forall_mem_cons.mpr ⟨rfl, (List.forall_mem_cons.mpr ⟨rfl, zs_nil⟩)⟩)⟩) ?_
  refine zw_aload_n hX dL_block_0 rfl ?_
  refine zw_iconst (v := (0 : Int32)) hX dL_block_1 (by decide) ?_
  refine zw_aload_n hX dL_block_2 rfl ?_
  refine zw_iload_n hX dL_block_3 rfl ?_
  obtain ⟨_, gi, h⟩ := zb_some h
  obtain ⟨r, g, h⟩ := zb_some h
  refine zc_V (as := [.int i1]) hX (zt_X11_block hlt (d := d - 1) (by omega) g) zl_L_168 rfl dL_block_4 (zi_spec gi) ⟨rfl, rfl, Nat.le_of_ble_eq_true rfl⟩ ⟨by omega, by omega⟩ ⟨by omega, by omega⟩ ?_ ?_
  · rintro _ S2 ⟨v1, rfl, rfl⟩
    try dsimp only at h
    refine zw_i2l hX dL_block_7 ?_
    obtain ⟨S3, g, h⟩ := zb_some h
    refine zw_sl hX dL_block_8 g ?_
    refine zw_goto (tgt := 18) hX dL_block_9 (by decide) ?_
    refine zw_iconst (v := (0 : Int32)) hX dL_block_18 (by decide) ?_
    obtain rfl := Option.some.inj h
    exact zw_iret hX hr dL_block_19 rfl ⟨rfl, rfl⟩
  · rintro X S9 rfl
    try dsimp only at h
    by_cases cx0 : X = "java/lang/IllegalArgumentException"
    · rw [if_pos cx0] at h
      subst cx0
      refine zx_catch (name := "java/lang/IllegalArgumentException") (i := 3) (h9 := 12) (k9 := 1) hX [] { startPc := 0, endPc := 9, handlerPc := 12, catchType := 13 } [{ startPc := 0, endPc := 9, handlerPc := 15, catchType := 15 }] hxt (fun _ h => absurd h List.not_mem_nil) (by decide) (by decide) zl_L_c13 zl_cast_IllegalArgumentException rfl (by decide) (Or.inr ⟨3, rfl, dL_block_12⟩) (by rw [dL_block_12]; rfl) ?_
      refine zw_sub (lv' := []) zs_nil ?_
      refine zw_iconst (v := (1 : Int32)) hX dL_block_13 (by decide) ?_
      obtain rfl := Option.some.inj h
      exact zw_iret hX hr dL_block_14 rfl ⟨rfl, rfl⟩
    · rw [if_neg cx0] at h
      by_cases cx1 : X = "java/lang/IllegalStateException"
      · rw [if_pos cx1] at h
        subst cx1
        refine zx_catch (name := "java/lang/IllegalStateException") (i := 3) (h9 := 15) (k9 := 1) hX [{ startPc := 0, endPc := 9, handlerPc := 12, catchType := 13 }] { startPc := 0, endPc := 9, handlerPc := 15, catchType := 15 } [] hxt (List.forall_mem_cons.mpr ⟨Or.inr ⟨by decide, _, zl_L_c13, zx_nc hX⟩, fun _ h => absurd h List.not_mem_nil⟩) (by decide) (by decide) zl_L_c15 zl_cast_IllegalStateException rfl (by decide) (Or.inr ⟨3, rfl, dL_block_15⟩) (by rw [dL_block_15]; rfl) ?_
        refine zw_sub (lv' := []) zs_nil ?_
        refine zw_iconst (v := (2 : Int32)) hX dL_block_16 (by decide) ?_
        obtain rfl := Option.some.inj h
        exact zw_iret hX hr dL_block_17 rfl ⟨rfl, rfl⟩
      · rw [if_neg cx1] at h
        cases h
set_option maxHeartbeats 4000000 in
set_option maxRecDepth 100000 in
theorem zt_L_wire {l : Launch} {V : zm_V} (hlt : l.stackTraces = false) {N : Nat} {S : zm_S} {out : (Int32 × zm_S)} {d : Nat} {a0 : Nat} {i1 : Int32} {i2 : Int32} {i3 : Int32} {a4 : Nat} (hd : 8 ≤ d) (h : zf_L_wire N a0 i1 i2 i3 a4 S = some out) : zm_Met l zk_E V yL_wire (.codeWith yL_wire cL_wire 6 (some .int) [(0, 12, 15, 13), (0, 12, 19, 15)]) d [.ref a0, .int i1, .int i2, .int i3, .ref a4] S 2 12 (zo_i out) zo_x := by
  refine zm_ofH (by decide +kernel) (Nat.le_of_ble_eq_true rfl) ?_
  intro p e R s m args below meth c hRR hX hr hxt
  have hR : R.frames = d ∧ R.locals = 64 * d := by rw [hRR]; exact ⟨rfl, rfl⟩
  have hX : zm_X p R s m args meth c RL "wire" cL_wire 6 zk_E V 2 12 := hX
  unfold zf_L_wire at h
  refine zw_sub (lv' := [(0, .ref a0), (1, .int i1), (2, .int i2), (3, .int i3), (4, .ref a4)]) (List.forall_mem_cons.mpr ⟨rfl, (List.forall_mem_cons.mpr ⟨rfl, (List.forall_mem_cons.mpr ⟨rfl, (List.forall_mem_cons.mpr ⟨rfl, (List.forall_mem_cons.mpr ⟨rfl, zs_nil⟩)⟩)⟩)⟩)⟩) ?_
  refine zw_aload hX dL_wire_0 rfl ?_
  refine zw_iconst (v := (0 : Int32)) hX dL_wire_2 (by decide) ?_
  refine zw_aload_n hX dL_wire_3 rfl ?_
  refine zw_iload_n hX dL_wire_4 rfl ?_
  refine zw_iload_n hX dL_wire_5 rfl ?_
  refine zw_iload_n hX dL_wire_6 rfl ?_
  obtain ⟨_, gi, h⟩ := zb_some h
  obtain ⟨r, g, h⟩ := zb_some h
  refine zc_V (as := [.int i1, .int i2, .int i3]) hX (zt_X11_wire hlt (d := d - 1) (by omega) g) zl_L_171 rfl dL_wire_7 (zi_spec gi) ⟨rfl, rfl, Nat.le_of_ble_eq_true rfl⟩ ⟨by omega, by omega⟩ ⟨by omega, by omega⟩ ?_ ?_
  · rintro _ S2 ⟨v1, rfl, rfl⟩
    try dsimp only at h
    refine zw_i2l hX dL_wire_10 ?_
    obtain ⟨S3, g, h⟩ := zb_some h
    refine zw_sl hX dL_wire_11 g ?_
    refine zw_goto (tgt := 23) hX dL_wire_12 (by decide) ?_
    refine zw_iconst (v := (0 : Int32)) hX dL_wire_23 (by decide) ?_
    obtain rfl := Option.some.inj h
    exact zw_iret hX hr dL_wire_24 rfl ⟨rfl, rfl⟩
  · rintro X S9 rfl
    try dsimp only at h
    by_cases cx0 : X = "java/lang/IllegalArgumentException"
    · rw [if_pos cx0] at h
      subst cx0
      refine zx_catch (name := "java/lang/IllegalArgumentException") (i := 5) (h9 := 15) (k9 := 2) hX [] { startPc := 0, endPc := 12, handlerPc := 15, catchType := 13 } [{ startPc := 0, endPc := 12, handlerPc := 19, catchType := 15 }] hxt (fun _ h => absurd h List.not_mem_nil) (by decide) (by decide) zl_L_c13 zl_cast_IllegalArgumentException rfl (by decide) (Or.inl dL_wire_15) (by rw [dL_wire_15]; rfl) ?_
      refine zw_sub (lv' := []) zs_nil ?_
      refine zw_iconst (v := (1 : Int32)) hX dL_wire_17 (by decide) ?_
      obtain rfl := Option.some.inj h
      exact zw_iret hX hr dL_wire_18 rfl ⟨rfl, rfl⟩
    · rw [if_neg cx0] at h
      by_cases cx1 : X = "java/lang/IllegalStateException"
      · rw [if_pos cx1] at h
        subst cx1
        refine zx_catch (name := "java/lang/IllegalStateException") (i := 5) (h9 := 19) (k9 := 2) hX [{ startPc := 0, endPc := 12, handlerPc := 15, catchType := 13 }] { startPc := 0, endPc := 12, handlerPc := 19, catchType := 15 } [] hxt (List.forall_mem_cons.mpr ⟨Or.inr ⟨by decide, _, zl_L_c13, zx_nc hX⟩, fun _ h => absurd h List.not_mem_nil⟩) (by decide) (by decide) zl_L_c15 zl_cast_IllegalStateException rfl (by decide) (Or.inl dL_wire_19) (by rw [dL_wire_19]; rfl) ?_
        refine zw_sub (lv' := []) zs_nil ?_
        refine zw_iconst (v := (2 : Int32)) hX dL_wire_21 (by decide) ?_
        obtain rfl := Option.some.inj h
        exact zw_iret hX hr dL_wire_22 rfl ⟨rfl, rfl⟩
      · rw [if_neg cx1] at h
        cases h
set_option maxHeartbeats 4000000 in
set_option maxRecDepth 100000 in
theorem zt_L_numbers {l : Launch} {V : zm_V} (hlt : l.stackTraces = false) {N : Nat} {S : zm_S} {out : (Int32 × zm_S)} {d : Nat} {a0 : Nat} {i1 : Int32} {i2 : Int32} {i3 : Int32} (hd : 8 ≤ d) (h : zf_L_numbers N a0 i1 i2 i3 S = some out) : zm_Met l zk_E V yL_numbers (.codeWith yL_numbers cL_numbers 5 (some .int) [(0, 7, 10, 13), (0, 7, 14, 15)]) d [.ref a0, .int i1, .int i2, .int i3] S 2 12 (zo_i out) zo_x := by
  refine zm_ofH (by decide +kernel) (Nat.le_of_ble_eq_true rfl) ?_
  intro p e R s m args below meth c hRR hX hr hxt
  have hR : R.frames = d ∧ R.locals = 64 * d := by rw [hRR]; exact ⟨rfl, rfl⟩
  have hX : zm_X p R s m args meth c RL "numbers" cL_numbers 5 zk_E V 2 12 := hX
  unfold zf_L_numbers at h
  refine zw_sub (lv' := [(0, .ref a0), (1, .int i1), (2, .int i2), (3, .int i3)]) (List.forall_mem_cons.mpr ⟨rfl, (List.forall_mem_cons.mpr ⟨rfl, (List.forall_mem_cons.mpr ⟨rfl, (List.forall_mem_cons.mpr ⟨rfl, zs_nil⟩)⟩)⟩)⟩) ?_
  refine zw_aload_n hX dL_numbers_0 rfl ?_
  refine zw_iload_n hX dL_numbers_1 rfl ?_
  refine zw_iload_n hX dL_numbers_2 rfl ?_
  refine zw_iload_n hX dL_numbers_3 rfl ?_
  obtain ⟨_, gi, h⟩ := zb_some h
  obtain ⟨r, g, h⟩ := zb_some h
  refine zc_V (as := [.int i1, .int i2, .int i3]) hX (zt_X11_numbers hlt (d := d - 1) (by omega) g) zl_L_174 rfl dL_numbers_4 (zi_spec gi) ⟨rfl, rfl, Nat.le_of_ble_eq_true rfl⟩ ⟨by omega, by omega⟩ ⟨by omega, by omega⟩ ?_ ?_
  · rintro _ S2 ⟨⟨u1, rfl⟩, rfl⟩
    try dsimp only at h
    refine zw_goto (tgt := 18) hX dL_numbers_7 (by decide) ?_
    refine zw_iconst (v := (0 : Int32)) hX dL_numbers_18 (by decide) ?_
    obtain rfl := Option.some.inj h
    exact zw_iret hX hr dL_numbers_19 rfl ⟨rfl, rfl⟩
  · rintro X S9 rfl
    try dsimp only at h
    by_cases cx0 : X = "java/lang/IllegalArgumentException"
    · rw [if_pos cx0] at h
      subst cx0
      refine zx_catch (name := "java/lang/IllegalArgumentException") (i := 4) (h9 := 10) (k9 := 2) hX [] { startPc := 0, endPc := 7, handlerPc := 10, catchType := 13 } [{ startPc := 0, endPc := 7, handlerPc := 14, catchType := 15 }] hxt (fun _ h => absurd h List.not_mem_nil) (by decide) (by decide) zl_L_c13 zl_cast_IllegalArgumentException rfl (by decide) (Or.inl dL_numbers_10) (by rw [dL_numbers_10]; rfl) ?_
      refine zw_sub (lv' := []) zs_nil ?_
      refine zw_iconst (v := (1 : Int32)) hX dL_numbers_12 (by decide) ?_
      obtain rfl := Option.some.inj h
      exact zw_iret hX hr dL_numbers_13 rfl ⟨rfl, rfl⟩
    · rw [if_neg cx0] at h
      by_cases cx1 : X = "java/lang/IllegalStateException"
      · rw [if_pos cx1] at h
        subst cx1
        refine zx_catch (name := "java/lang/IllegalStateException") (i := 4) (h9 := 14) (k9 := 2) hX [{ startPc := 0, endPc := 7, handlerPc := 10, catchType := 13 }] { startPc := 0, endPc := 7, handlerPc := 14, catchType := 15 } [] hxt (List.forall_mem_cons.mpr ⟨Or.inr ⟨by decide, _, zl_L_c13, zx_nc hX⟩, fun _ h => absurd h List.not_mem_nil⟩) (by decide) (by decide) zl_L_c15 zl_cast_IllegalStateException rfl (by decide) (Or.inl dL_numbers_14) (by rw [dL_numbers_14]; rfl) ?_
        refine zw_sub (lv' := []) zs_nil ?_
        refine zw_iconst (v := (2 : Int32)) hX dL_numbers_16 (by decide) ?_
        obtain rfl := Option.some.inj h
        exact zw_iret hX hr dL_numbers_17 rfl ⟨rfl, rfl⟩
      · rw [if_neg cx1] at h
        cases h
set_option maxHeartbeats 4000000 in
set_option maxRecDepth 100000 in
theorem zt_L_row {l : Launch} {V : zm_V} (hlt : l.stackTraces = false) {N : Nat} {S : zm_S} {out : (Int32 × zm_S)} {d : Nat} {a0 : Nat} {i1 : Int32} {i2 : Int32} {i3 : Int32} {a4 : Nat} (hd : 8 ≤ d) (h : zf_L_row N a0 i1 i2 i3 a4 S = some out) : zm_Met l zk_E V yL_row (.codeWith yL_row cL_row 6 (some .int) [(0, 12, 15, 13), (0, 12, 19, 15)]) d [.ref a0, .int i1, .int i2, .int i3, .ref a4] S 2 12 (zo_i out) zo_x := by
  refine zm_ofH (by decide +kernel) (Nat.le_of_ble_eq_true rfl) ?_
  intro p e R s m args below meth c hRR hX hr hxt
  have hR : R.frames = d ∧ R.locals = 64 * d := by rw [hRR]; exact ⟨rfl, rfl⟩
  have hX : zm_X p R s m args meth c RL "row" cL_row 6 zk_E V 2 12 := hX
  unfold zf_L_row at h
  refine zw_sub (lv' := [(0, .ref a0), (1, .int i1), (2, .int i2), (3, .int i3), (4, .ref a4)]) (List.forall_mem_cons.mpr ⟨rfl, (List.forall_mem_cons.mpr ⟨rfl, (List.forall_mem_cons.mpr ⟨rfl, (List.forall_mem_cons.mpr ⟨rfl, (List.forall_mem_cons.mpr ⟨rfl, zs_nil⟩)⟩)⟩)⟩)⟩) ?_
  refine zw_aload hX dL_row_0 rfl ?_
  refine zw_iconst (v := (0 : Int32)) hX dL_row_2 (by decide) ?_
  refine zw_aload_n hX dL_row_3 rfl ?_
  refine zw_iload_n hX dL_row_4 rfl ?_
  refine zw_iload_n hX dL_row_5 rfl ?_
  refine zw_iload_n hX dL_row_6 rfl ?_
  obtain ⟨_, gi, h⟩ := zb_some h
  obtain ⟨r, g, h⟩ := zb_some h
  refine zc_V (as := [.int i1, .int i2, .int i3]) hX (zt_X11_row hlt (d := d - 1) (by omega) g) zl_L_178 rfl dL_row_7 (zi_spec gi) ⟨rfl, rfl, Nat.le_of_ble_eq_true rfl⟩ ⟨by omega, by omega⟩ ⟨by omega, by omega⟩ ?_ ?_
  · rintro _ S2 ⟨v1, rfl, rfl⟩
    try dsimp only at h
    refine zw_i2l hX dL_row_10 ?_
    obtain ⟨S3, g, h⟩ := zb_some h
    refine zw_sl hX dL_row_11 g ?_
    refine zw_goto (tgt := 23) hX dL_row_12 (by decide) ?_
    refine zw_iconst (v := (0 : Int32)) hX dL_row_23 (by decide) ?_
    obtain rfl := Option.some.inj h
    exact zw_iret hX hr dL_row_24 rfl ⟨rfl, rfl⟩
  · rintro X S9 rfl
    try dsimp only at h
    by_cases cx0 : X = "java/lang/IllegalArgumentException"
    · rw [if_pos cx0] at h
      subst cx0
      refine zx_catch (name := "java/lang/IllegalArgumentException") (i := 5) (h9 := 15) (k9 := 2) hX [] { startPc := 0, endPc := 12, handlerPc := 15, catchType := 13 } [{ startPc := 0, endPc := 12, handlerPc := 19, catchType := 15 }] hxt (fun _ h => absurd h List.not_mem_nil) (by decide) (by decide) zl_L_c13 zl_cast_IllegalArgumentException rfl (by decide) (Or.inl dL_row_15) (by rw [dL_row_15]; rfl) ?_
      refine zw_sub (lv' := []) zs_nil ?_
      refine zw_iconst (v := (1 : Int32)) hX dL_row_17 (by decide) ?_
      obtain rfl := Option.some.inj h
      exact zw_iret hX hr dL_row_18 rfl ⟨rfl, rfl⟩
    · rw [if_neg cx0] at h
      by_cases cx1 : X = "java/lang/IllegalStateException"
      · rw [if_pos cx1] at h
        subst cx1
        refine zx_catch (name := "java/lang/IllegalStateException") (i := 5) (h9 := 19) (k9 := 2) hX [{ startPc := 0, endPc := 12, handlerPc := 15, catchType := 13 }] { startPc := 0, endPc := 12, handlerPc := 19, catchType := 15 } [] hxt (List.forall_mem_cons.mpr ⟨Or.inr ⟨by decide, _, zl_L_c13, zx_nc hX⟩, fun _ h => absurd h List.not_mem_nil⟩) (by decide) (by decide) zl_L_c15 zl_cast_IllegalStateException rfl (by decide) (Or.inl dL_row_19) (by rw [dL_row_19]; rfl) ?_
        refine zw_sub (lv' := []) zs_nil ?_
        refine zw_iconst (v := (2 : Int32)) hX dL_row_21 (by decide) ?_
        obtain rfl := Option.some.inj h
        exact zw_iret hX hr dL_row_22 rfl ⟨rfl, rfl⟩
      · rw [if_neg cx1] at h
        cases h
set_option maxHeartbeats 4000000 in
set_option maxRecDepth 100000 in
theorem zt_L_safe {l : Launch} {V : zm_V} (hlt : l.stackTraces = false) {N : Nat} {S : zm_S} {out : (Int32 × zm_S)} {d : Nat} {a0 : Nat} {i1 : Int32} {i2 : Int32} {a3 : Nat} (hd : 8 ≤ d) (h : zf_L_safe N a0 i1 i2 a3 S = some out) : zm_Met l zk_E V yL_safe (.codeWith yL_safe cL_safe 5 (some .int) [(0, 10, 13, 13), (0, 10, 17, 15)]) d [.ref a0, .int i1, .int i2, .ref a3] S 2 12 (zo_i out) zo_x := by
  refine zm_ofH (by decide +kernel) (Nat.le_of_ble_eq_true rfl) ?_
  intro p e R s m args below meth c hRR hX hr hxt
  have hR : R.frames = d ∧ R.locals = 64 * d := by rw [hRR]; exact ⟨rfl, rfl⟩
  have hX : zm_X p R s m args meth c RL "safe" cL_safe 5 zk_E V 2 12 := hX
  unfold zf_L_safe at h
  refine zw_sub (lv' := [(0, .ref a0), (1, .int i1), (2, .int i2), (3, .ref a3)]) (List.forall_mem_cons.mpr ⟨rfl, (List.forall_mem_cons.mpr ⟨rfl, (List.forall_mem_cons.mpr ⟨rfl, (List.forall_mem_cons.mpr ⟨rfl, zs_nil⟩)⟩)⟩)⟩) ?_
  refine zw_aload_n hX dL_safe_0 rfl ?_
  refine zw_iconst (v := (0 : Int32)) hX dL_safe_1 (by decide) ?_
  refine zw_aload_n hX dL_safe_2 rfl ?_
  refine zw_iload_n hX dL_safe_3 rfl ?_
  refine zw_iload_n hX dL_safe_4 rfl ?_
  obtain ⟨_, gi, h⟩ := zb_some h
  obtain ⟨r, g, h⟩ := zb_some h
  refine zc_V (as := [.int i1, .int i2]) hX (zt_X11_safe hlt (d := d - 1) (by omega) g) zl_L_181 rfl dL_safe_5 (zi_spec gi) ⟨rfl, rfl, Nat.le_of_ble_eq_true rfl⟩ ⟨by omega, by omega⟩ ⟨by omega, by omega⟩ ?_ ?_
  · rintro _ S2 ⟨v1, rfl, rfl⟩
    try dsimp only at h
    refine zw_i2l hX dL_safe_8 ?_
    obtain ⟨S3, g, h⟩ := zb_some h
    refine zw_sl hX dL_safe_9 g ?_
    refine zw_goto (tgt := 21) hX dL_safe_10 (by decide) ?_
    refine zw_iconst (v := (0 : Int32)) hX dL_safe_21 (by decide) ?_
    obtain rfl := Option.some.inj h
    exact zw_iret hX hr dL_safe_22 rfl ⟨rfl, rfl⟩
  · rintro X S9 rfl
    try dsimp only at h
    by_cases cx0 : X = "java/lang/IllegalArgumentException"
    · rw [if_pos cx0] at h
      subst cx0
      refine zx_catch (name := "java/lang/IllegalArgumentException") (i := 4) (h9 := 13) (k9 := 2) hX [] { startPc := 0, endPc := 10, handlerPc := 13, catchType := 13 } [{ startPc := 0, endPc := 10, handlerPc := 17, catchType := 15 }] hxt (fun _ h => absurd h List.not_mem_nil) (by decide) (by decide) zl_L_c13 zl_cast_IllegalArgumentException rfl (by decide) (Or.inl dL_safe_13) (by rw [dL_safe_13]; rfl) ?_
      refine zw_sub (lv' := []) zs_nil ?_
      refine zw_iconst (v := (1 : Int32)) hX dL_safe_15 (by decide) ?_
      obtain rfl := Option.some.inj h
      exact zw_iret hX hr dL_safe_16 rfl ⟨rfl, rfl⟩
    · rw [if_neg cx0] at h
      by_cases cx1 : X = "java/lang/IllegalStateException"
      · rw [if_pos cx1] at h
        subst cx1
        refine zx_catch (name := "java/lang/IllegalStateException") (i := 4) (h9 := 17) (k9 := 2) hX [{ startPc := 0, endPc := 10, handlerPc := 13, catchType := 13 }] { startPc := 0, endPc := 10, handlerPc := 17, catchType := 15 } [] hxt (List.forall_mem_cons.mpr ⟨Or.inr ⟨by decide, _, zl_L_c13, zx_nc hX⟩, fun _ h => absurd h List.not_mem_nil⟩) (by decide) (by decide) zl_L_c15 zl_cast_IllegalStateException rfl (by decide) (Or.inl dL_safe_17) (by rw [dL_safe_17]; rfl) ?_
        refine zw_sub (lv' := []) zs_nil ?_
        refine zw_iconst (v := (2 : Int32)) hX dL_safe_19 (by decide) ?_
        obtain rfl := Option.some.inj h
        exact zw_iret hX hr dL_safe_20 rfl ⟨rfl, rfl⟩
      · rw [if_neg cx1] at h
        cases h
set_option maxHeartbeats 4000000 in
set_option maxRecDepth 100000 in
theorem zt_L_hand_J18 {p : Program} {l : Launch} {e : Env} {R : Room} {s : State} {m : MethodId} {args : Array Value} {below : List Frame} {meth : Method} {c : Code} {V : zm_V} {mc ms d rc rs : Nat} (hlt : l.stackTraces = false) (hxt : c.exceptionTable.toList = tableOf [(0, 19, 22, 13), (0, 19, 26, 15)]) (hX : zm_X p R s m args meth c RL "hand" cL_hand 6 zk_E V mc ms) (hr : meth.sig.returnType = (some .int)) (hR : R.frames = d ∧ R.locals = 64 * d) (hd : 8 ≤ d) {N : Nat} {t0 : Nat} {t1 : Int32} {t2 : Int64} {out : (Int32 × zm_S)} (hc : 0 ≤ rc ∧ 0 ≤ rs) {S : zm_S} (h : zf_L_hand_J18 N t0 t1 t2 S = some out) : zw p l e R s m args below meth c (vx_MQ below (zm_Qc zk_E V (zo_i out)) (zm_XC zk_E V zo_x) args s mc ms (fun q => V.2.2.2.1 ≤ q)) 6 zk_E V mc ms 18 [] [.long t2, .int t1, .ref t0] S rc rs := by
  unfold zf_L_hand_J18 at h
  obtain ⟨S3, g, h⟩ := zb_some h
  refine zw_sl hX dL_hand_18 g ?_
  refine zw_goto (tgt := 30) hX dL_hand_19 (by decide) ?_
  refine zw_iconst (v := (0 : Int32)) hX dL_hand_30 (by decide) ?_
  obtain rfl := Option.some.inj h
  exact zw_iret hX hr dL_hand_31 rfl ⟨rfl, rfl⟩
set_option maxHeartbeats 4000000 in
set_option maxRecDepth 100000 in
theorem zt_L_hand {l : Launch} {V : zm_V} (hlt : l.stackTraces = false) {N : Nat} {S : zm_S} {out : (Int32 × zm_S)} {d : Nat} {a0 : Nat} {i1 : Int32} {i2 : Int32} {i3 : Int32} {a4 : Nat} (hd : 8 ≤ d) (h : zf_L_hand N a0 i1 i2 i3 a4 S = some out) : zm_Met l zk_E V yL_hand (.codeWith yL_hand cL_hand 6 (some .int) [(0, 19, 22, 13), (0, 19, 26, 15)]) d [.ref a0, .int i1, .int i2, .int i3, .ref a4] S 2 12 (zo_i out) zo_x := by
  refine zm_ofH (by decide +kernel) (Nat.le_of_ble_eq_true rfl) ?_
  intro p e R s m args below meth c hRR hX hr hxt
  have hR : R.frames = d ∧ R.locals = 64 * d := by rw [hRR]; exact ⟨rfl, rfl⟩
  have hX : zm_X p R s m args meth c RL "hand" cL_hand 6 zk_E V 2 12 := hX
  unfold zf_L_hand at h
  refine zw_sub (lv' := [(0, .ref a0), (1, .int i1), (2, .int i2), (3, .int i3), (4, .ref a4)]) (List.forall_mem_cons.mpr ⟨rfl, (List.forall_mem_cons.mpr ⟨rfl, (List.forall_mem_cons.mpr ⟨rfl, (List.forall_mem_cons.mpr ⟨rfl, (List.forall_mem_cons.mpr ⟨rfl, zs_nil⟩)⟩)⟩)⟩)⟩) ?_
  refine zw_aload hX dL_hand_0 rfl ?_
  refine zw_iconst (v := (0 : Int32)) hX dL_hand_2 (by decide) ?_
  refine zw_aload_n hX dL_hand_3 rfl ?_
  refine zw_iload_n hX dL_hand_4 rfl ?_
  refine zw_iload_n hX dL_hand_5 rfl ?_
  refine zw_iload_n hX dL_hand_6 rfl ?_
  obtain ⟨_, gi, h⟩ := zb_some h
  obtain ⟨r, g, h⟩ := zb_some h
  refine zc_V (as := [.int i1, .int i2, .int i3]) hX (zt_X11_hand hlt (d := d - 1) (by omega) g) zl_L_184 rfl dL_hand_7 (zi_spec gi) ⟨rfl, rfl, Nat.le_of_ble_eq_true rfl⟩ ⟨by omega, by omega⟩ ⟨by omega, by omega⟩ ?_ ?_
  · rintro _ S2 ⟨v1, rfl, rfl⟩
    try dsimp only at h
    refine zw_if_eq (tgt := 17) hX dL_hand_10 (by decide) (fun c10 => ?_) (fun c10 => ?_)
    · rw [if_pos c10] at h
      refine zw_lconst (v := (0 : Int64)) hX dL_hand_17 (by decide) ?_
      refine zw_sub (lv' := []) zs_nil ?_
      exact zt_L_hand_J18 hlt hxt hX hr hR hd ⟨by omega, by omega⟩ h
    · rw [if_neg c10] at h
      refine zw_lconst (v := (1 : Int64)) hX dL_hand_13 (by decide) ?_
      refine zw_goto (tgt := 18) hX dL_hand_14 (by decide) ?_
      refine zw_sub (lv' := []) zs_nil ?_
      exact zt_L_hand_J18 hlt hxt hX hr hR hd ⟨by omega, by omega⟩ h
  · rintro X S9 rfl
    try dsimp only at h
    by_cases cx0 : X = "java/lang/IllegalArgumentException"
    · rw [if_pos cx0] at h
      subst cx0
      refine zx_catch (name := "java/lang/IllegalArgumentException") (i := 5) (h9 := 22) (k9 := 2) hX [] { startPc := 0, endPc := 19, handlerPc := 22, catchType := 13 } [{ startPc := 0, endPc := 19, handlerPc := 26, catchType := 15 }] hxt (fun _ h => absurd h List.not_mem_nil) (by decide) (by decide) zl_L_c13 zl_cast_IllegalArgumentException rfl (by decide) (Or.inl dL_hand_22) (by rw [dL_hand_22]; rfl) ?_
      refine zw_sub (lv' := []) zs_nil ?_
      refine zw_iconst (v := (1 : Int32)) hX dL_hand_24 (by decide) ?_
      obtain rfl := Option.some.inj h
      exact zw_iret hX hr dL_hand_25 rfl ⟨rfl, rfl⟩
    · rw [if_neg cx0] at h
      by_cases cx1 : X = "java/lang/IllegalStateException"
      · rw [if_pos cx1] at h
        subst cx1
        refine zx_catch (name := "java/lang/IllegalStateException") (i := 5) (h9 := 26) (k9 := 2) hX [{ startPc := 0, endPc := 19, handlerPc := 22, catchType := 13 }] { startPc := 0, endPc := 19, handlerPc := 26, catchType := 15 } [] hxt (List.forall_mem_cons.mpr ⟨Or.inr ⟨by decide, _, zl_L_c13, zx_nc hX⟩, fun _ h => absurd h List.not_mem_nil⟩) (by decide) (by decide) zl_L_c15 zl_cast_IllegalStateException rfl (by decide) (Or.inl dL_hand_26) (by rw [dL_hand_26]; rfl) ?_
        refine zw_sub (lv' := []) zs_nil ?_
        refine zw_iconst (v := (2 : Int32)) hX dL_hand_28 (by decide) ?_
        obtain rfl := Option.some.inj h
        exact zw_iret hX hr dL_hand_29 rfl ⟨rfl, rfl⟩
      · rw [if_neg cx1] at h
        cases h
set_option maxHeartbeats 4000000 in
set_option maxRecDepth 100000 in
theorem zt_L_bind {l : Launch} {V : zm_V} (hlt : l.stackTraces = false) {N : Nat} {S : zm_S} {out : (Int32 × zm_S)} {d : Nat} {a0 : Nat} {i1 : Int32} {i2 : Int32} {a3 : Nat} (hd : 8 ≤ d) (h : zf_L_bind N a0 i1 i2 a3 S = some out) : zm_Met l zk_E V yL_bind (.codeWith yL_bind cL_bind 5 (some .int) [(0, 10, 13, 13), (0, 10, 17, 15)]) d [.ref a0, .int i1, .int i2, .ref a3] S 2 12 (zo_i out) zo_x := by
  refine zm_ofH (by decide +kernel) (Nat.le_of_ble_eq_true rfl) ?_
  intro p e R s m args below meth c hRR hX hr hxt
  have hR : R.frames = d ∧ R.locals = 64 * d := by rw [hRR]; exact ⟨rfl, rfl⟩
  have hX : zm_X p R s m args meth c RL "bind" cL_bind 5 zk_E V 2 12 := hX
  unfold zf_L_bind at h
  refine zw_sub (lv' := [(0, .ref a0), (1, .int i1), (2, .int i2), (3, .ref a3)]) (List.forall_mem_cons.mpr ⟨rfl, (List.forall_mem_cons.mpr ⟨rfl, (List.forall_mem_cons.mpr ⟨rfl, (List.forall_mem_cons.mpr ⟨rfl, zs_nil⟩)⟩)⟩)⟩) ?_
  refine zw_aload_n hX dL_bind_0 rfl ?_
  refine zw_iconst (v := (0 : Int32)) hX dL_bind_1 (by decide) ?_
  refine zw_aload_n hX dL_bind_2 rfl ?_
  refine zw_iload_n hX dL_bind_3 rfl ?_
  refine zw_iload_n hX dL_bind_4 rfl ?_
  obtain ⟨_, gi, h⟩ := zb_some h
  obtain ⟨r, g, h⟩ := zb_some h
  refine zc_V (as := [.int i1, .int i2]) hX (zt_X11_bind hlt (d := d - 1) (by omega) g) zl_L_188 rfl dL_bind_5 (zi_spec gi) ⟨rfl, rfl, Nat.le_of_ble_eq_true rfl⟩ ⟨by omega, by omega⟩ ⟨by omega, by omega⟩ ?_ ?_
  · rintro _ S2 ⟨v1, rfl, rfl⟩
    try dsimp only at h
    refine zw_i2l hX dL_bind_8 ?_
    obtain ⟨S3, g, h⟩ := zb_some h
    refine zw_sl hX dL_bind_9 g ?_
    refine zw_goto (tgt := 21) hX dL_bind_10 (by decide) ?_
    refine zw_iconst (v := (0 : Int32)) hX dL_bind_21 (by decide) ?_
    obtain rfl := Option.some.inj h
    exact zw_iret hX hr dL_bind_22 rfl ⟨rfl, rfl⟩
  · rintro X S9 rfl
    try dsimp only at h
    by_cases cx0 : X = "java/lang/IllegalArgumentException"
    · rw [if_pos cx0] at h
      subst cx0
      refine zx_catch (name := "java/lang/IllegalArgumentException") (i := 4) (h9 := 13) (k9 := 2) hX [] { startPc := 0, endPc := 10, handlerPc := 13, catchType := 13 } [{ startPc := 0, endPc := 10, handlerPc := 17, catchType := 15 }] hxt (fun _ h => absurd h List.not_mem_nil) (by decide) (by decide) zl_L_c13 zl_cast_IllegalArgumentException rfl (by decide) (Or.inl dL_bind_13) (by rw [dL_bind_13]; rfl) ?_
      refine zw_sub (lv' := []) zs_nil ?_
      refine zw_iconst (v := (1 : Int32)) hX dL_bind_15 (by decide) ?_
      obtain rfl := Option.some.inj h
      exact zw_iret hX hr dL_bind_16 rfl ⟨rfl, rfl⟩
    · rw [if_neg cx0] at h
      by_cases cx1 : X = "java/lang/IllegalStateException"
      · rw [if_pos cx1] at h
        subst cx1
        refine zx_catch (name := "java/lang/IllegalStateException") (i := 4) (h9 := 17) (k9 := 2) hX [{ startPc := 0, endPc := 10, handlerPc := 13, catchType := 13 }] { startPc := 0, endPc := 10, handlerPc := 17, catchType := 15 } [] hxt (List.forall_mem_cons.mpr ⟨Or.inr ⟨by decide, _, zl_L_c13, zx_nc hX⟩, fun _ h => absurd h List.not_mem_nil⟩) (by decide) (by decide) zl_L_c15 zl_cast_IllegalStateException rfl (by decide) (Or.inl dL_bind_17) (by rw [dL_bind_17]; rfl) ?_
        refine zw_sub (lv' := []) zs_nil ?_
        refine zw_iconst (v := (2 : Int32)) hX dL_bind_19 (by decide) ?_
        obtain rfl := Option.some.inj h
        exact zw_iret hX hr dL_bind_20 rfl ⟨rfl, rfl⟩
      · rw [if_neg cx1] at h
        cases h
set_option maxHeartbeats 4000000 in
set_option maxRecDepth 100000 in
theorem zt_L_point {l : Launch} {V : zm_V} (hlt : l.stackTraces = false) {N : Nat} {S : zm_S} {out : (Int32 × zm_S)} {d : Nat} {a0 : Nat} {i1 : Int32} {i2 : Int32} {a3 : Nat} (hd : 8 ≤ d) (h : zf_L_point N a0 i1 i2 a3 S = some out) : zm_Met l zk_E V yL_point (.codeWith yL_point cL_point 5 (some .int) [(0, 10, 13, 13), (0, 10, 17, 15)]) d [.ref a0, .int i1, .int i2, .ref a3] S 2 12 (zo_i out) zo_x := by
  refine zm_ofH (by decide +kernel) (Nat.le_of_ble_eq_true rfl) ?_
  intro p e R s m args below meth c hRR hX hr hxt
  have hR : R.frames = d ∧ R.locals = 64 * d := by rw [hRR]; exact ⟨rfl, rfl⟩
  have hX : zm_X p R s m args meth c RL "point" cL_point 5 zk_E V 2 12 := hX
  unfold zf_L_point at h
  refine zw_sub (lv' := [(0, .ref a0), (1, .int i1), (2, .int i2), (3, .ref a3)]) (List.forall_mem_cons.mpr ⟨rfl, (List.forall_mem_cons.mpr ⟨rfl, (List.forall_mem_cons.mpr ⟨rfl, (List.forall_mem_cons.mpr ⟨rfl, zs_nil⟩)⟩)⟩)⟩) ?_
  refine zw_aload_n hX dL_point_0 rfl ?_
  refine zw_iconst (v := (0 : Int32)) hX dL_point_1 (by decide) ?_
  refine zw_aload_n hX dL_point_2 rfl ?_
  refine zw_iload_n hX dL_point_3 rfl ?_
  refine zw_iload_n hX dL_point_4 rfl ?_
  obtain ⟨_, gi, h⟩ := zb_some h
  obtain ⟨r, g, h⟩ := zb_some h
  refine zc_V (as := [.int i1, .int i2]) hX (zt_X11_point hlt (d := d - 1) (by omega) g) zl_L_191 rfl dL_point_5 (zi_spec gi) ⟨rfl, rfl, Nat.le_of_ble_eq_true rfl⟩ ⟨by omega, by omega⟩ ⟨by omega, by omega⟩ ?_ ?_
  · rintro _ S2 ⟨v1, rfl, rfl⟩
    try dsimp only at h
    refine zw_i2l hX dL_point_8 ?_
    obtain ⟨S3, g, h⟩ := zb_some h
    refine zw_sl hX dL_point_9 g ?_
    refine zw_goto (tgt := 21) hX dL_point_10 (by decide) ?_
    refine zw_iconst (v := (0 : Int32)) hX dL_point_21 (by decide) ?_
    obtain rfl := Option.some.inj h
    exact zw_iret hX hr dL_point_22 rfl ⟨rfl, rfl⟩
  · rintro X S9 rfl
    try dsimp only at h
    by_cases cx0 : X = "java/lang/IllegalArgumentException"
    · rw [if_pos cx0] at h
      subst cx0
      refine zx_catch (name := "java/lang/IllegalArgumentException") (i := 4) (h9 := 13) (k9 := 2) hX [] { startPc := 0, endPc := 10, handlerPc := 13, catchType := 13 } [{ startPc := 0, endPc := 10, handlerPc := 17, catchType := 15 }] hxt (fun _ h => absurd h List.not_mem_nil) (by decide) (by decide) zl_L_c13 zl_cast_IllegalArgumentException rfl (by decide) (Or.inl dL_point_13) (by rw [dL_point_13]; rfl) ?_
      refine zw_sub (lv' := []) zs_nil ?_
      refine zw_iconst (v := (1 : Int32)) hX dL_point_15 (by decide) ?_
      obtain rfl := Option.some.inj h
      exact zw_iret hX hr dL_point_16 rfl ⟨rfl, rfl⟩
    · rw [if_neg cx0] at h
      by_cases cx1 : X = "java/lang/IllegalStateException"
      · rw [if_pos cx1] at h
        subst cx1
        refine zx_catch (name := "java/lang/IllegalStateException") (i := 4) (h9 := 17) (k9 := 2) hX [{ startPc := 0, endPc := 10, handlerPc := 13, catchType := 13 }] { startPc := 0, endPc := 10, handlerPc := 17, catchType := 15 } [] hxt (List.forall_mem_cons.mpr ⟨Or.inr ⟨by decide, _, zl_L_c13, zx_nc hX⟩, fun _ h => absurd h List.not_mem_nil⟩) (by decide) (by decide) zl_L_c15 zl_cast_IllegalStateException rfl (by decide) (Or.inl dL_point_17) (by rw [dL_point_17]; rfl) ?_
        refine zw_sub (lv' := []) zs_nil ?_
        refine zw_iconst (v := (2 : Int32)) hX dL_point_19 (by decide) ?_
        obtain rfl := Option.some.inj h
        exact zw_iret hX hr dL_point_20 rfl ⟨rfl, rfl⟩
      · rw [if_neg cx1] at h
        cases h
set_option maxHeartbeats 4000000 in
set_option maxRecDepth 100000 in
theorem zt_L_pointAt {l : Launch} {V : zm_V} (hlt : l.stackTraces = false) {N : Nat} {S : zm_S} {out : (Int32 × zm_S)} {d : Nat} {a0 : Nat} {i1 : Int32} {a2 : Nat} (hd : 8 ≤ d) (h : zf_L_pointAt N a0 i1 a2 S = some out) : zm_Met l zk_E V yL_pointAt (.codeWith yL_pointAt cL_pointAt 4 (some .int) [(0, 9, 12, 13), (0, 9, 15, 15)]) d [.ref a0, .int i1, .ref a2] S 2 12 (zo_i out) zo_x := by
  refine zm_ofH (by decide +kernel) (Nat.le_of_ble_eq_true rfl) ?_
  intro p e R s m args below meth c hRR hX hr hxt
  have hR : R.frames = d ∧ R.locals = 64 * d := by rw [hRR]; exact ⟨rfl, rfl⟩
  have hX : zm_X p R s m args meth c RL "pointAt" cL_pointAt 4 zk_E V 2 12 := hX
  unfold zf_L_pointAt at h
  refine zw_sub (lv' := [(0, .ref a0), (1, .int i1), (2, .ref a2)]) (List.forall_mem_cons.mpr ⟨rfl, (List.forall_mem_cons.mpr ⟨rfl, (List.forall_mem_cons.mpr ⟨rfl, zs_nil⟩)⟩)⟩) ?_
  refine zw_aload_n hX dL_pointAt_0 rfl ?_
  refine zw_iconst (v := (0 : Int32)) hX dL_pointAt_1 (by decide) ?_
  refine zw_aload_n hX dL_pointAt_2 rfl ?_
  refine zw_iload_n hX dL_pointAt_3 rfl ?_
  obtain ⟨_, gi, h⟩ := zb_some h
  obtain ⟨r, g, h⟩ := zb_some h
  refine zc_V (as := [.int i1]) hX (zt_X11_pointAt hlt (d := d - 1) (by omega) g) zl_L_194 rfl dL_pointAt_4 (zi_spec gi) ⟨rfl, rfl, Nat.le_of_ble_eq_true rfl⟩ ⟨by omega, by omega⟩ ⟨by omega, by omega⟩ ?_ ?_
  · rintro _ S2 ⟨v1, rfl, rfl⟩
    try dsimp only at h
    refine zw_i2l hX dL_pointAt_7 ?_
    obtain ⟨S3, g, h⟩ := zb_some h
    refine zw_sl hX dL_pointAt_8 g ?_
    refine zw_goto (tgt := 18) hX dL_pointAt_9 (by decide) ?_
    refine zw_iconst (v := (0 : Int32)) hX dL_pointAt_18 (by decide) ?_
    obtain rfl := Option.some.inj h
    exact zw_iret hX hr dL_pointAt_19 rfl ⟨rfl, rfl⟩
  · rintro X S9 rfl
    try dsimp only at h
    by_cases cx0 : X = "java/lang/IllegalArgumentException"
    · rw [if_pos cx0] at h
      subst cx0
      refine zx_catch (name := "java/lang/IllegalArgumentException") (i := 3) (h9 := 12) (k9 := 1) hX [] { startPc := 0, endPc := 9, handlerPc := 12, catchType := 13 } [{ startPc := 0, endPc := 9, handlerPc := 15, catchType := 15 }] hxt (fun _ h => absurd h List.not_mem_nil) (by decide) (by decide) zl_L_c13 zl_cast_IllegalArgumentException rfl (by decide) (Or.inr ⟨3, rfl, dL_pointAt_12⟩) (by rw [dL_pointAt_12]; rfl) ?_
      refine zw_sub (lv' := []) zs_nil ?_
      refine zw_iconst (v := (1 : Int32)) hX dL_pointAt_13 (by decide) ?_
      obtain rfl := Option.some.inj h
      exact zw_iret hX hr dL_pointAt_14 rfl ⟨rfl, rfl⟩
    · rw [if_neg cx0] at h
      by_cases cx1 : X = "java/lang/IllegalStateException"
      · rw [if_pos cx1] at h
        subst cx1
        refine zx_catch (name := "java/lang/IllegalStateException") (i := 3) (h9 := 15) (k9 := 1) hX [{ startPc := 0, endPc := 9, handlerPc := 12, catchType := 13 }] { startPc := 0, endPc := 9, handlerPc := 15, catchType := 15 } [] hxt (List.forall_mem_cons.mpr ⟨Or.inr ⟨by decide, _, zl_L_c13, zx_nc hX⟩, fun _ h => absurd h List.not_mem_nil⟩) (by decide) (by decide) zl_L_c15 zl_cast_IllegalStateException rfl (by decide) (Or.inr ⟨3, rfl, dL_pointAt_15⟩) (by rw [dL_pointAt_15]; rfl) ?_
        refine zw_sub (lv' := []) zs_nil ?_
        refine zw_iconst (v := (2 : Int32)) hX dL_pointAt_16 (by decide) ?_
        obtain rfl := Option.some.inj h
        exact zw_iret hX hr dL_pointAt_17 rfl ⟨rfl, rfl⟩
      · rw [if_neg cx1] at h
        cases h
set_option maxHeartbeats 4000000 in
set_option maxRecDepth 100000 in
theorem zt_L_order {l : Launch} {V : zm_V} (hlt : l.stackTraces = false) {N : Nat} {S : zm_S} {out : (Int32 × zm_S)} {d : Nat} {a0 : Nat} {a1 : Nat} (hd : 8 ≤ d) (h : zf_L_order N a0 a1 S = some out) : zm_Met l zk_E V yL_order (.codeWith yL_order cL_order 3 (some .int) [(0, 8, 11, 15)]) d [.ref a0, .ref a1] S 1 6 (zo_i out) zo_x := by
  refine zm_ofH (by decide +kernel) (Nat.le_of_ble_eq_true rfl) ?_
  intro p e R s m args below meth c hRR hX hr hxt
  have hR : R.frames = d ∧ R.locals = 64 * d := by rw [hRR]; exact ⟨rfl, rfl⟩
  have hX : zm_X p R s m args meth c RL "order" cL_order 3 zk_E V 1 6 := hX
  unfold zf_L_order at h
  refine zw_sub (lv' := [(0, .ref a0), (1, .ref a1)]) (List.forall_mem_cons.mpr ⟨rfl, (List.forall_mem_cons.mpr ⟨rfl, zs_nil⟩)⟩) ?_
  refine zw_aload_n hX dL_order_0 rfl ?_
  refine zw_iconst (v := (0 : Int32)) hX dL_order_1 (by decide) ?_
  refine zw_aload_n hX dL_order_2 rfl ?_
  obtain ⟨_, gi, h⟩ := zb_some h
  obtain ⟨r, g, h⟩ := zb_some h
  refine zc_V (as := []) hX (zt_X11_order hlt (d := d - 1) (by omega) g) zl_L_197 rfl dL_order_3 (zi_spec gi) ⟨rfl, rfl, Nat.le_of_ble_eq_true rfl⟩ ⟨by omega, by omega⟩ ⟨by omega, by omega⟩ ?_ ?_
  · rintro _ S2 ⟨v1, rfl, rfl⟩
    try dsimp only at h
    refine zw_i2l hX dL_order_6 ?_
    obtain ⟨S3, g, h⟩ := zb_some h
    refine zw_sl hX dL_order_7 g ?_
    refine zw_goto (tgt := 14) hX dL_order_8 (by decide) ?_
    refine zw_iconst (v := (0 : Int32)) hX dL_order_14 (by decide) ?_
    obtain rfl := Option.some.inj h
    exact zw_iret hX hr dL_order_15 rfl ⟨rfl, rfl⟩
  · rintro X S9 rfl
    try dsimp only at h
    by_cases cx0 : X = "java/lang/IllegalStateException"
    · rw [if_pos cx0] at h
      subst cx0
      refine zx_catch (name := "java/lang/IllegalStateException") (i := 2) (h9 := 11) (k9 := 1) hX [] { startPc := 0, endPc := 8, handlerPc := 11, catchType := 15 } [] hxt (fun _ h => absurd h List.not_mem_nil) (by decide) (by decide) zl_L_c15 zl_cast_IllegalStateException rfl (by decide) (Or.inr ⟨2, rfl, dL_order_11⟩) (by rw [dL_order_11]; rfl) ?_
      refine zw_sub (lv' := []) zs_nil ?_
      refine zw_iconst (v := (1 : Int32)) hX dL_order_12 (by decide) ?_
      obtain rfl := Option.some.inj h
      exact zw_iret hX hr dL_order_13 rfl ⟨rfl, rfl⟩
    · rw [if_neg cx0] at h
      cases h
set_option maxHeartbeats 4000000 in
set_option maxRecDepth 100000 in
theorem zt_L_out {l : Launch} {V : zm_V} (hlt : l.stackTraces = false) {N : Nat} {S : zm_S} {out : (Int32 × zm_S)} {d : Nat} {a0 : Nat} {i1 : Int32} {i2 : Int32} {a3 : Nat} (hd : 8 ≤ d) (h : zf_L_out N a0 i1 i2 a3 S = some out) : zm_Met l zk_E V yL_out (.codeWith yL_out cL_out 5 (some .int) [(0, 10, 13, 13), (0, 10, 17, 15)]) d [.ref a0, .int i1, .int i2, .ref a3] S 2 12 (zo_i out) zo_x := by
  refine zm_ofH (by decide +kernel) (Nat.le_of_ble_eq_true rfl) ?_
  intro p e R s m args below meth c hRR hX hr hxt
  have hR : R.frames = d ∧ R.locals = 64 * d := by rw [hRR]; exact ⟨rfl, rfl⟩
  have hX : zm_X p R s m args meth c RL "out" cL_out 5 zk_E V 2 12 := hX
  unfold zf_L_out at h
  refine zw_sub (lv' := [(0, .ref a0), (1, .int i1), (2, .int i2), (3, .ref a3)]) (List.forall_mem_cons.mpr ⟨rfl, (List.forall_mem_cons.mpr ⟨rfl, (List.forall_mem_cons.mpr ⟨rfl, (List.forall_mem_cons.mpr ⟨rfl, zs_nil⟩)⟩)⟩)⟩) ?_
  refine zw_aload_n hX dL_out_0 rfl ?_
  refine zw_iconst (v := (0 : Int32)) hX dL_out_1 (by decide) ?_
  refine zw_aload_n hX dL_out_2 rfl ?_
  refine zw_iload_n hX dL_out_3 rfl ?_
  refine zw_iload_n hX dL_out_4 rfl ?_
  obtain ⟨_, gi, h⟩ := zb_some h
  obtain ⟨r, g, h⟩ := zb_some h
  refine zc_V (as := [.int i1, .int i2]) hX (zt_X11_out hlt (d := d - 1) (by omega) g) zl_L_200 rfl dL_out_5 (zi_spec gi) ⟨rfl, rfl, Nat.le_of_ble_eq_true rfl⟩ ⟨by omega, by omega⟩ ⟨by omega, by omega⟩ ?_ ?_
  · rintro _ S2 ⟨v1, rfl, rfl⟩
    try dsimp only at h
    refine zw_i2l hX dL_out_8 ?_
    obtain ⟨S3, g, h⟩ := zb_some h
    refine zw_sl hX dL_out_9 g ?_
    refine zw_goto (tgt := 21) hX dL_out_10 (by decide) ?_
    refine zw_iconst (v := (0 : Int32)) hX dL_out_21 (by decide) ?_
    obtain rfl := Option.some.inj h
    exact zw_iret hX hr dL_out_22 rfl ⟨rfl, rfl⟩
  · rintro X S9 rfl
    try dsimp only at h
    by_cases cx0 : X = "java/lang/IllegalArgumentException"
    · rw [if_pos cx0] at h
      subst cx0
      refine zx_catch (name := "java/lang/IllegalArgumentException") (i := 4) (h9 := 13) (k9 := 2) hX [] { startPc := 0, endPc := 10, handlerPc := 13, catchType := 13 } [{ startPc := 0, endPc := 10, handlerPc := 17, catchType := 15 }] hxt (fun _ h => absurd h List.not_mem_nil) (by decide) (by decide) zl_L_c13 zl_cast_IllegalArgumentException rfl (by decide) (Or.inl dL_out_13) (by rw [dL_out_13]; rfl) ?_
      refine zw_sub (lv' := []) zs_nil ?_
      refine zw_iconst (v := (1 : Int32)) hX dL_out_15 (by decide) ?_
      obtain rfl := Option.some.inj h
      exact zw_iret hX hr dL_out_16 rfl ⟨rfl, rfl⟩
    · rw [if_neg cx0] at h
      by_cases cx1 : X = "java/lang/IllegalStateException"
      · rw [if_pos cx1] at h
        subst cx1
        refine zx_catch (name := "java/lang/IllegalStateException") (i := 4) (h9 := 17) (k9 := 2) hX [{ startPc := 0, endPc := 10, handlerPc := 13, catchType := 13 }] { startPc := 0, endPc := 10, handlerPc := 17, catchType := 15 } [] hxt (List.forall_mem_cons.mpr ⟨Or.inr ⟨by decide, _, zl_L_c13, zx_nc hX⟩, fun _ h => absurd h List.not_mem_nil⟩) (by decide) (by decide) zl_L_c15 zl_cast_IllegalStateException rfl (by decide) (Or.inl dL_out_17) (by rw [dL_out_17]; rfl) ?_
        refine zw_sub (lv' := []) zs_nil ?_
        refine zw_iconst (v := (2 : Int32)) hX dL_out_19 (by decide) ?_
        obtain rfl := Option.some.inj h
        exact zw_iret hX hr dL_out_20 rfl ⟨rfl, rfl⟩
      · rw [if_neg cx1] at h
        cases h
set_option maxHeartbeats 4000000 in
set_option maxRecDepth 100000 in
theorem zt_L_failed {l : Launch} {V : zm_V} (hlt : l.stackTraces = false) {N : Nat} {S : zm_S} {out : (Int32 × zm_S)} {d : Nat} {a0 : Nat} {i1 : Int32} {a2 : Nat} (hd : 8 ≤ d) (h : zf_L_failed N a0 i1 a2 S = some out) : zm_Met l zk_E V yL_failed (.codeWith yL_failed cL_failed 4 (some .int) [(0, 9, 12, 13), (0, 9, 15, 15)]) d [.ref a0, .int i1, .ref a2] S 2 12 (zo_i out) zo_x := by
  refine zm_ofH (by decide +kernel) (Nat.le_of_ble_eq_true rfl) ?_
  intro p e R s m args below meth c hRR hX hr hxt
  have hR : R.frames = d ∧ R.locals = 64 * d := by rw [hRR]; exact ⟨rfl, rfl⟩
  have hX : zm_X p R s m args meth c RL "failed" cL_failed 4 zk_E V 2 12 := hX
  unfold zf_L_failed at h
  refine zw_sub (lv' := [(0, .ref a0), (1, .int i1), (2, .ref a2)]) (List.forall_mem_cons.mpr ⟨rfl, (List.forall_mem_cons.mpr ⟨rfl, (List.forall_mem_cons.mpr ⟨rfl, zs_nil⟩)⟩)⟩) ?_
  refine zw_aload_n hX dL_failed_0 rfl ?_
  refine zw_iconst (v := (0 : Int32)) hX dL_failed_1 (by decide) ?_
  refine zw_aload_n hX dL_failed_2 rfl ?_
  refine zw_iload_n hX dL_failed_3 rfl ?_
  obtain ⟨_, gi, h⟩ := zb_some h
  obtain ⟨r, g, h⟩ := zb_some h
  refine zc_V (as := [.int i1]) hX (zt_X11_failed hlt (d := d - 1) (by omega) g) zl_L_203 rfl dL_failed_4 (zi_spec gi) ⟨rfl, rfl, Nat.le_of_ble_eq_true rfl⟩ ⟨by omega, by omega⟩ ⟨by omega, by omega⟩ ?_ ?_
  · rintro _ S2 ⟨v1, rfl, rfl⟩
    try dsimp only at h
    refine zw_i2l hX dL_failed_7 ?_
    obtain ⟨S3, g, h⟩ := zb_some h
    refine zw_sl hX dL_failed_8 g ?_
    refine zw_goto (tgt := 18) hX dL_failed_9 (by decide) ?_
    refine zw_iconst (v := (0 : Int32)) hX dL_failed_18 (by decide) ?_
    obtain rfl := Option.some.inj h
    exact zw_iret hX hr dL_failed_19 rfl ⟨rfl, rfl⟩
  · rintro X S9 rfl
    try dsimp only at h
    by_cases cx0 : X = "java/lang/IllegalArgumentException"
    · rw [if_pos cx0] at h
      subst cx0
      refine zx_catch (name := "java/lang/IllegalArgumentException") (i := 3) (h9 := 12) (k9 := 1) hX [] { startPc := 0, endPc := 9, handlerPc := 12, catchType := 13 } [{ startPc := 0, endPc := 9, handlerPc := 15, catchType := 15 }] hxt (fun _ h => absurd h List.not_mem_nil) (by decide) (by decide) zl_L_c13 zl_cast_IllegalArgumentException rfl (by decide) (Or.inr ⟨3, rfl, dL_failed_12⟩) (by rw [dL_failed_12]; rfl) ?_
      refine zw_sub (lv' := []) zs_nil ?_
      refine zw_iconst (v := (1 : Int32)) hX dL_failed_13 (by decide) ?_
      obtain rfl := Option.some.inj h
      exact zw_iret hX hr dL_failed_14 rfl ⟨rfl, rfl⟩
    · rw [if_neg cx0] at h
      by_cases cx1 : X = "java/lang/IllegalStateException"
      · rw [if_pos cx1] at h
        subst cx1
        refine zx_catch (name := "java/lang/IllegalStateException") (i := 3) (h9 := 15) (k9 := 1) hX [{ startPc := 0, endPc := 9, handlerPc := 12, catchType := 13 }] { startPc := 0, endPc := 9, handlerPc := 15, catchType := 15 } [] hxt (List.forall_mem_cons.mpr ⟨Or.inr ⟨by decide, _, zl_L_c13, zx_nc hX⟩, fun _ h => absurd h List.not_mem_nil⟩) (by decide) (by decide) zl_L_c15 zl_cast_IllegalStateException rfl (by decide) (Or.inr ⟨3, rfl, dL_failed_15⟩) (by rw [dL_failed_15]; rfl) ?_
        refine zw_sub (lv' := []) zs_nil ?_
        refine zw_iconst (v := (2 : Int32)) hX dL_failed_16 (by decide) ?_
        obtain rfl := Option.some.inj h
        exact zw_iret hX hr dL_failed_17 rfl ⟨rfl, rfl⟩
      · rw [if_neg cx1] at h
        cases h
set_option maxHeartbeats 4000000 in
set_option maxRecDepth 100000 in
theorem zt_L_address {l : Launch} {V : zm_V} (hlt : l.stackTraces = false) {N : Nat} {S : zm_S} {out : (Int32 × zm_S)} {d : Nat} {a0 : Nat} {i1 : Int32} {i2 : Int32} {a3 : Nat} (hd : 8 ≤ d) (h : zf_L_address N a0 i1 i2 a3 S = some out) : zm_Met l zk_E V yL_address (.codeWith yL_address cL_address 5 (some .int) [(0, 10, 13, 13), (0, 10, 17, 15)]) d [.ref a0, .int i1, .int i2, .ref a3] S 2 12 (zo_i out) zo_x := by
  refine zm_ofH (by decide +kernel) (Nat.le_of_ble_eq_true rfl) ?_
  intro p e R s m args below meth c hRR hX hr hxt
  have hR : R.frames = d ∧ R.locals = 64 * d := by rw [hRR]; exact ⟨rfl, rfl⟩
  have hX : zm_X p R s m args meth c RL "address" cL_address 5 zk_E V 2 12 := hX
  unfold zf_L_address at h
  refine zw_sub (lv' := [(0, .ref a0), (1, .int i1), (2, .int i2), (3, .ref a3)]) (List.forall_mem_cons.mpr ⟨rfl, (List.forall_mem_cons.mpr ⟨rfl, (List.forall_mem_cons.mpr ⟨rfl, (List.forall_mem_cons.mpr ⟨rfl, zs_nil⟩)⟩)⟩)⟩) ?_
  refine zw_aload_n hX dL_address_0 rfl ?_
  refine zw_iconst (v := (0 : Int32)) hX dL_address_1 (by decide) ?_
  refine zw_aload_n hX dL_address_2 rfl ?_
  refine zw_iload_n hX dL_address_3 rfl ?_
  refine zw_iload_n hX dL_address_4 rfl ?_
  obtain ⟨_, gi, h⟩ := zb_some h
  obtain ⟨r, g, h⟩ := zb_some h
  refine zc_V (as := [.int i1, .int i2]) hX (zt_X11_address hlt (d := d - 1) (by omega) g) zl_L_206 rfl dL_address_5 (zi_spec gi) ⟨rfl, rfl, Nat.le_of_ble_eq_true rfl⟩ ⟨by omega, by omega⟩ ⟨by omega, by omega⟩ ?_ ?_
  · rintro _ S2 ⟨v1, rfl, rfl⟩
    try dsimp only at h
    refine zw_i2l hX dL_address_8 ?_
    obtain ⟨S3, g, h⟩ := zb_some h
    refine zw_sl hX dL_address_9 g ?_
    refine zw_goto (tgt := 21) hX dL_address_10 (by decide) ?_
    refine zw_iconst (v := (0 : Int32)) hX dL_address_21 (by decide) ?_
    obtain rfl := Option.some.inj h
    exact zw_iret hX hr dL_address_22 rfl ⟨rfl, rfl⟩
  · rintro X S9 rfl
    try dsimp only at h
    by_cases cx0 : X = "java/lang/IllegalArgumentException"
    · rw [if_pos cx0] at h
      subst cx0
      refine zx_catch (name := "java/lang/IllegalArgumentException") (i := 4) (h9 := 13) (k9 := 2) hX [] { startPc := 0, endPc := 10, handlerPc := 13, catchType := 13 } [{ startPc := 0, endPc := 10, handlerPc := 17, catchType := 15 }] hxt (fun _ h => absurd h List.not_mem_nil) (by decide) (by decide) zl_L_c13 zl_cast_IllegalArgumentException rfl (by decide) (Or.inl dL_address_13) (by rw [dL_address_13]; rfl) ?_
      refine zw_sub (lv' := []) zs_nil ?_
      refine zw_iconst (v := (1 : Int32)) hX dL_address_15 (by decide) ?_
      obtain rfl := Option.some.inj h
      exact zw_iret hX hr dL_address_16 rfl ⟨rfl, rfl⟩
    · rw [if_neg cx0] at h
      by_cases cx1 : X = "java/lang/IllegalStateException"
      · rw [if_pos cx1] at h
        subst cx1
        refine zx_catch (name := "java/lang/IllegalStateException") (i := 4) (h9 := 17) (k9 := 2) hX [{ startPc := 0, endPc := 10, handlerPc := 13, catchType := 13 }] { startPc := 0, endPc := 10, handlerPc := 17, catchType := 15 } [] hxt (List.forall_mem_cons.mpr ⟨Or.inr ⟨by decide, _, zl_L_c13, zx_nc hX⟩, fun _ h => absurd h List.not_mem_nil⟩) (by decide) (by decide) zl_L_c15 zl_cast_IllegalStateException rfl (by decide) (Or.inl dL_address_17) (by rw [dL_address_17]; rfl) ?_
        refine zw_sub (lv' := []) zs_nil ?_
        refine zw_iconst (v := (2 : Int32)) hX dL_address_19 (by decide) ?_
        obtain rfl := Option.some.inj h
        exact zw_iret hX hr dL_address_20 rfl ⟨rfl, rfl⟩
      · rw [if_neg cx1] at h
        cases h
set_option maxHeartbeats 4000000 in
set_option maxRecDepth 100000 in
theorem zt_L_listen_J18 {p : Program} {l : Launch} {e : Env} {R : Room} {s : State} {m : MethodId} {args : Array Value} {below : List Frame} {meth : Method} {c : Code} {V : zm_V} {mc ms d rc rs : Nat} (hlt : l.stackTraces = false) (hxt : c.exceptionTable.toList = tableOf [(0, 19, 22, 13), (0, 19, 26, 15)]) (hX : zm_X p R s m args meth c RL "listen" cL_listen 6 zk_E V mc ms) (hr : meth.sig.returnType = (some .int)) (hR : R.frames = d ∧ R.locals = 64 * d) (hd : 8 ≤ d) {N : Nat} {t0 : Nat} {t1 : Int32} {t2 : Int64} {out : (Int32 × zm_S)} (hc : 0 ≤ rc ∧ 0 ≤ rs) {S : zm_S} (h : zf_L_listen_J18 N t0 t1 t2 S = some out) : zw p l e R s m args below meth c (vx_MQ below (zm_Qc zk_E V (zo_i out)) (zm_XC zk_E V zo_x) args s mc ms (fun q => V.2.2.2.1 ≤ q)) 6 zk_E V mc ms 18 [] [.long t2, .int t1, .ref t0] S rc rs := by
  unfold zf_L_listen_J18 at h
  obtain ⟨S3, g, h⟩ := zb_some h
  refine zw_sl hX dL_listen_18 g ?_
  refine zw_goto (tgt := 30) hX dL_listen_19 (by decide) ?_
  refine zw_iconst (v := (0 : Int32)) hX dL_listen_30 (by decide) ?_
  obtain rfl := Option.some.inj h
  exact zw_iret hX hr dL_listen_31 rfl ⟨rfl, rfl⟩
set_option maxHeartbeats 4000000 in
set_option maxRecDepth 100000 in
theorem zt_L_listen {l : Launch} {V : zm_V} (hlt : l.stackTraces = false) {N : Nat} {S : zm_S} {out : (Int32 × zm_S)} {d : Nat} {a0 : Nat} {i1 : Int32} {i2 : Int32} {i3 : Int32} {a4 : Nat} (hd : 8 ≤ d) (h : zf_L_listen N a0 i1 i2 i3 a4 S = some out) : zm_Met l zk_E V yL_listen (.codeWith yL_listen cL_listen 6 (some .int) [(0, 19, 22, 13), (0, 19, 26, 15)]) d [.ref a0, .int i1, .int i2, .int i3, .ref a4] S 2 12 (zo_i out) zo_x := by
  refine zm_ofH (by decide +kernel) (Nat.le_of_ble_eq_true rfl) ?_
  intro p e R s m args below meth c hRR hX hr hxt
  have hR : R.frames = d ∧ R.locals = 64 * d := by rw [hRR]; exact ⟨rfl, rfl⟩
  have hX : zm_X p R s m args meth c RL "listen" cL_listen 6 zk_E V 2 12 := hX
  unfold zf_L_listen at h
  refine zw_sub (lv' := [(0, .ref a0), (1, .int i1), (2, .int i2), (3, .int i3), (4, .ref a4)]) (List.forall_mem_cons.mpr ⟨rfl, (List.forall_mem_cons.mpr ⟨rfl, (List.forall_mem_cons.mpr ⟨rfl, (List.forall_mem_cons.mpr ⟨rfl, (List.forall_mem_cons.mpr ⟨rfl, zs_nil⟩)⟩)⟩)⟩)⟩) ?_
  refine zw_aload hX dL_listen_0 rfl ?_
  refine zw_iconst (v := (0 : Int32)) hX dL_listen_2 (by decide) ?_
  refine zw_aload_n hX dL_listen_3 rfl ?_
  refine zw_iload_n hX dL_listen_4 rfl ?_
  refine zw_iload_n hX dL_listen_5 rfl ?_
  refine zw_iload_n hX dL_listen_6 rfl ?_
  obtain ⟨_, gi, h⟩ := zb_some h
  obtain ⟨r, g, h⟩ := zb_some h
  refine zc_V (as := [.int i1, .int i2, .int i3]) hX (zt_X11_listen hlt (d := d - 1) (by omega) g) zl_L_209 rfl dL_listen_7 (zi_spec gi) ⟨rfl, rfl, Nat.le_of_ble_eq_true rfl⟩ ⟨by omega, by omega⟩ ⟨by omega, by omega⟩ ?_ ?_
  · rintro _ S2 ⟨v1, rfl, rfl⟩
    try dsimp only at h
    refine zw_if_eq (tgt := 17) hX dL_listen_10 (by decide) (fun c10 => ?_) (fun c10 => ?_)
    · rw [if_pos c10] at h
      refine zw_lconst (v := (0 : Int64)) hX dL_listen_17 (by decide) ?_
      refine zw_sub (lv' := []) zs_nil ?_
      exact zt_L_listen_J18 hlt hxt hX hr hR hd ⟨by omega, by omega⟩ h
    · rw [if_neg c10] at h
      refine zw_lconst (v := (1 : Int64)) hX dL_listen_13 (by decide) ?_
      refine zw_goto (tgt := 18) hX dL_listen_14 (by decide) ?_
      refine zw_sub (lv' := []) zs_nil ?_
      exact zt_L_listen_J18 hlt hxt hX hr hR hd ⟨by omega, by omega⟩ h
  · rintro X S9 rfl
    try dsimp only at h
    by_cases cx0 : X = "java/lang/IllegalArgumentException"
    · rw [if_pos cx0] at h
      subst cx0
      refine zx_catch (name := "java/lang/IllegalArgumentException") (i := 5) (h9 := 22) (k9 := 2) hX [] { startPc := 0, endPc := 19, handlerPc := 22, catchType := 13 } [{ startPc := 0, endPc := 19, handlerPc := 26, catchType := 15 }] hxt (fun _ h => absurd h List.not_mem_nil) (by decide) (by decide) zl_L_c13 zl_cast_IllegalArgumentException rfl (by decide) (Or.inl dL_listen_22) (by rw [dL_listen_22]; rfl) ?_
      refine zw_sub (lv' := []) zs_nil ?_
      refine zw_iconst (v := (1 : Int32)) hX dL_listen_24 (by decide) ?_
      obtain rfl := Option.some.inj h
      exact zw_iret hX hr dL_listen_25 rfl ⟨rfl, rfl⟩
    · rw [if_neg cx0] at h
      by_cases cx1 : X = "java/lang/IllegalStateException"
      · rw [if_pos cx1] at h
        subst cx1
        refine zx_catch (name := "java/lang/IllegalStateException") (i := 5) (h9 := 26) (k9 := 2) hX [{ startPc := 0, endPc := 19, handlerPc := 22, catchType := 13 }] { startPc := 0, endPc := 19, handlerPc := 26, catchType := 15 } [] hxt (List.forall_mem_cons.mpr ⟨Or.inr ⟨by decide, _, zl_L_c13, zx_nc hX⟩, fun _ h => absurd h List.not_mem_nil⟩) (by decide) (by decide) zl_L_c15 zl_cast_IllegalStateException rfl (by decide) (Or.inl dL_listen_26) (by rw [dL_listen_26]; rfl) ?_
        refine zw_sub (lv' := []) zs_nil ?_
        refine zw_iconst (v := (2 : Int32)) hX dL_listen_28 (by decide) ?_
        obtain rfl := Option.some.inj h
        exact zw_iret hX hr dL_listen_29 rfl ⟨rfl, rfl⟩
      · rw [if_neg cx1] at h
        cases h
set_option maxHeartbeats 4000000 in
set_option maxRecDepth 100000 in
theorem zt_L_busy_J16 {p : Program} {l : Launch} {e : Env} {R : Room} {s : State} {m : MethodId} {args : Array Value} {below : List Frame} {meth : Method} {c : Code} {V : zm_V} {mc ms d rc rs : Nat} (hlt : l.stackTraces = false) (hxt : c.exceptionTable.toList = tableOf [(0, 17, 20, 13), (0, 17, 24, 15)]) (hX : zm_X p R s m args meth c RL "busy" cL_busy 5 zk_E V mc ms) (hr : meth.sig.returnType = (some .int)) (hR : R.frames = d ∧ R.locals = 64 * d) (hd : 8 ≤ d) {N : Nat} {t0 : Nat} {t1 : Int32} {t2 : Int64} {out : (Int32 × zm_S)} (hc : 0 ≤ rc ∧ 0 ≤ rs) {S : zm_S} (h : zf_L_busy_J16 N t0 t1 t2 S = some out) : zw p l e R s m args below meth c (vx_MQ below (zm_Qc zk_E V (zo_i out)) (zm_XC zk_E V zo_x) args s mc ms (fun q => V.2.2.2.1 ≤ q)) 5 zk_E V mc ms 16 [] [.long t2, .int t1, .ref t0] S rc rs := by
  unfold zf_L_busy_J16 at h
  obtain ⟨S3, g, h⟩ := zb_some h
  refine zw_sl hX dL_busy_16 g ?_
  refine zw_goto (tgt := 28) hX dL_busy_17 (by decide) ?_
  refine zw_iconst (v := (0 : Int32)) hX dL_busy_28 (by decide) ?_
  obtain rfl := Option.some.inj h
  exact zw_iret hX hr dL_busy_29 rfl ⟨rfl, rfl⟩
set_option maxHeartbeats 4000000 in
set_option maxRecDepth 100000 in
theorem zt_L_busy {l : Launch} {V : zm_V} (hlt : l.stackTraces = false) {N : Nat} {S : zm_S} {out : (Int32 × zm_S)} {d : Nat} {a0 : Nat} {i1 : Int32} {i2 : Int32} {a3 : Nat} (hd : 8 ≤ d) (h : zf_L_busy N a0 i1 i2 a3 S = some out) : zm_Met l zk_E V yL_busy (.codeWith yL_busy cL_busy 5 (some .int) [(0, 17, 20, 13), (0, 17, 24, 15)]) d [.ref a0, .int i1, .int i2, .ref a3] S 2 12 (zo_i out) zo_x := by
  refine zm_ofH (by decide +kernel) (Nat.le_of_ble_eq_true rfl) ?_
  intro p e R s m args below meth c hRR hX hr hxt
  have hR : R.frames = d ∧ R.locals = 64 * d := by rw [hRR]; exact ⟨rfl, rfl⟩
  have hX : zm_X p R s m args meth c RL "busy" cL_busy 5 zk_E V 2 12 := hX
  unfold zf_L_busy at h
  refine zw_sub (lv' := [(0, .ref a0), (1, .int i1), (2, .int i2), (3, .ref a3)]) (List.forall_mem_cons.mpr ⟨rfl, (List.forall_mem_cons.mpr ⟨rfl, (List.forall_mem_cons.mpr ⟨rfl, (List.forall_mem_cons.mpr ⟨rfl, zs_nil⟩)⟩)⟩)⟩) ?_
  refine zw_aload_n hX dL_busy_0 rfl ?_
  refine zw_iconst (v := (0 : Int32)) hX dL_busy_1 (by decide) ?_
  refine zw_aload_n hX dL_busy_2 rfl ?_
  refine zw_iload_n hX dL_busy_3 rfl ?_
  refine zw_iload_n hX dL_busy_4 rfl ?_
  obtain ⟨_, gi, h⟩ := zb_some h
  obtain ⟨r, g, h⟩ := zb_some h
  refine zc_V (as := [.int i1, .int i2]) hX (zt_X11_busy hlt (d := d - 1) (by omega) g) zl_L_212 rfl dL_busy_5 (zi_spec gi) ⟨rfl, rfl, Nat.le_of_ble_eq_true rfl⟩ ⟨by omega, by omega⟩ ⟨by omega, by omega⟩ ?_ ?_
  · rintro _ S2 ⟨v1, rfl, rfl⟩
    try dsimp only at h
    refine zw_if_eq (tgt := 15) hX dL_busy_8 (by decide) (fun c8 => ?_) (fun c8 => ?_)
    · rw [if_pos c8] at h
      refine zw_lconst (v := (0 : Int64)) hX dL_busy_15 (by decide) ?_
      refine zw_sub (lv' := []) zs_nil ?_
      exact zt_L_busy_J16 hlt hxt hX hr hR hd ⟨by omega, by omega⟩ h
    · rw [if_neg c8] at h
      refine zw_lconst (v := (1 : Int64)) hX dL_busy_11 (by decide) ?_
      refine zw_goto (tgt := 16) hX dL_busy_12 (by decide) ?_
      refine zw_sub (lv' := []) zs_nil ?_
      exact zt_L_busy_J16 hlt hxt hX hr hR hd ⟨by omega, by omega⟩ h
  · rintro X S9 rfl
    try dsimp only at h
    by_cases cx0 : X = "java/lang/IllegalArgumentException"
    · rw [if_pos cx0] at h
      subst cx0
      refine zx_catch (name := "java/lang/IllegalArgumentException") (i := 4) (h9 := 20) (k9 := 2) hX [] { startPc := 0, endPc := 17, handlerPc := 20, catchType := 13 } [{ startPc := 0, endPc := 17, handlerPc := 24, catchType := 15 }] hxt (fun _ h => absurd h List.not_mem_nil) (by decide) (by decide) zl_L_c13 zl_cast_IllegalArgumentException rfl (by decide) (Or.inl dL_busy_20) (by rw [dL_busy_20]; rfl) ?_
      refine zw_sub (lv' := []) zs_nil ?_
      refine zw_iconst (v := (1 : Int32)) hX dL_busy_22 (by decide) ?_
      obtain rfl := Option.some.inj h
      exact zw_iret hX hr dL_busy_23 rfl ⟨rfl, rfl⟩
    · rw [if_neg cx0] at h
      by_cases cx1 : X = "java/lang/IllegalStateException"
      · rw [if_pos cx1] at h
        subst cx1
        refine zx_catch (name := "java/lang/IllegalStateException") (i := 4) (h9 := 24) (k9 := 2) hX [{ startPc := 0, endPc := 17, handlerPc := 20, catchType := 13 }] { startPc := 0, endPc := 17, handlerPc := 24, catchType := 15 } [] hxt (List.forall_mem_cons.mpr ⟨Or.inr ⟨by decide, _, zl_L_c13, zx_nc hX⟩, fun _ h => absurd h List.not_mem_nil⟩) (by decide) (by decide) zl_L_c15 zl_cast_IllegalStateException rfl (by decide) (Or.inl dL_busy_24) (by rw [dL_busy_24]; rfl) ?_
        refine zw_sub (lv' := []) zs_nil ?_
        refine zw_iconst (v := (2 : Int32)) hX dL_busy_26 (by decide) ?_
        obtain rfl := Option.some.inj h
        exact zw_iret hX hr dL_busy_27 rfl ⟨rfl, rfl⟩
      · rw [if_neg cx1] at h
        cases h
set_option maxHeartbeats 4000000 in
set_option maxRecDepth 100000 in
theorem zt_L_send {l : Launch} {V : zm_V} (hlt : l.stackTraces = false) {N : Nat} {S : zm_S} {out : (Int32 × zm_S)} {d : Nat} {a0 : Nat} {i1 : Int32} {i2 : Int32} {i3 : Int32} {i4 : Int32} {i5 : Int32} {i6 : Int32} {a7 : Nat} (hd : 8 ≤ d) (h : zf_L_send N a0 i1 i2 i3 i4 i5 i6 a7 S = some out) : zm_Met l zk_E V yL_send (.codeWith yL_send cL_send 9 (some .int) [(0, 18, 21, 13), (0, 18, 25, 15)]) d [.ref a0, .int i1, .int i2, .int i3, .int i4, .int i5, .int i6, .ref a7] S 3 18 (zo_i out) zo_x := by
  refine zm_ofH (by decide +kernel) (Nat.le_of_ble_eq_true rfl) ?_
  intro p e R s m args below meth c hRR hX hr hxt
  have hR : R.frames = d ∧ R.locals = 64 * d := by rw [hRR]; exact ⟨rfl, rfl⟩
  have hX : zm_X p R s m args meth c RL "send" cL_send 9 zk_E V 3 18 := hX
  unfold zf_L_send at h
  refine zw_sub (lv' := [(0, .ref a0), (1, .int i1), (2, .int i2), (3, .int i3), (4, .int i4), (5, .int i5), (6, .int i6), (7, .ref a7)]) (List.forall_mem_cons.mpr ⟨rfl, (List.forall_mem_cons.mpr ⟨rfl, (List.forall_mem_cons.mpr ⟨rfl, (List.forall_mem_cons.mpr ⟨rfl, (List.forall_mem_cons.mpr ⟨rfl, (List.forall_mem_cons.mpr ⟨rfl, (List.forall_mem_cons.mpr ⟨rfl, (List.forall_mem_cons.mpr ⟨rfl, zs_nil⟩)⟩)⟩)⟩)⟩)⟩)⟩)⟩) ?_
  refine zw_aload hX dL_send_0 rfl ?_
  refine zw_iconst (v := (0 : Int32)) hX dL_send_2 (by decide) ?_
  refine zw_aload_n hX dL_send_3 rfl ?_
  refine zw_iload_n hX dL_send_4 rfl ?_
  refine zw_iload_n hX dL_send_5 rfl ?_
  refine zw_iload_n hX dL_send_6 rfl ?_
  refine zw_iload hX dL_send_7 rfl ?_
  refine zw_iload hX dL_send_9 rfl ?_
  refine zw_iload hX dL_send_11 rfl ?_
  obtain ⟨_, gi, h⟩ := zb_some h
  obtain ⟨r, g, h⟩ := zb_some h
  refine zc_V (as := [.int i1, .int i2, .int i3, .int i4, .int i5, .int i6]) hX (zt_X11_send hlt (d := d - 1) (by omega) g) zl_L_215 rfl dL_send_13 (zi_spec gi) ⟨rfl, rfl, Nat.le_of_ble_eq_true rfl⟩ ⟨by omega, by omega⟩ ⟨by omega, by omega⟩ ?_ ?_
  · rintro _ S2 ⟨v1, rfl, rfl⟩
    try dsimp only at h
    refine zw_i2l hX dL_send_16 ?_
    obtain ⟨S3, g, h⟩ := zb_some h
    refine zw_sl hX dL_send_17 g ?_
    refine zw_goto (tgt := 29) hX dL_send_18 (by decide) ?_
    refine zw_iconst (v := (0 : Int32)) hX dL_send_29 (by decide) ?_
    obtain rfl := Option.some.inj h
    exact zw_iret hX hr dL_send_30 rfl ⟨rfl, rfl⟩
  · rintro X S9 rfl
    try dsimp only at h
    by_cases cx0 : X = "java/lang/IllegalArgumentException"
    · rw [if_pos cx0] at h
      subst cx0
      refine zx_catch (name := "java/lang/IllegalArgumentException") (i := 8) (h9 := 21) (k9 := 2) hX [] { startPc := 0, endPc := 18, handlerPc := 21, catchType := 13 } [{ startPc := 0, endPc := 18, handlerPc := 25, catchType := 15 }] hxt (fun _ h => absurd h List.not_mem_nil) (by decide) (by decide) zl_L_c13 zl_cast_IllegalArgumentException rfl (by decide) (Or.inl dL_send_21) (by rw [dL_send_21]; rfl) ?_
      refine zw_sub (lv' := []) zs_nil ?_
      refine zw_iconst (v := (1 : Int32)) hX dL_send_23 (by decide) ?_
      obtain rfl := Option.some.inj h
      exact zw_iret hX hr dL_send_24 rfl ⟨rfl, rfl⟩
    · rw [if_neg cx0] at h
      by_cases cx1 : X = "java/lang/IllegalStateException"
      · rw [if_pos cx1] at h
        subst cx1
        refine zx_catch (name := "java/lang/IllegalStateException") (i := 8) (h9 := 25) (k9 := 2) hX [{ startPc := 0, endPc := 18, handlerPc := 21, catchType := 13 }] { startPc := 0, endPc := 18, handlerPc := 25, catchType := 15 } [] hxt (List.forall_mem_cons.mpr ⟨Or.inr ⟨by decide, _, zl_L_c13, zx_nc hX⟩, fun _ h => absurd h List.not_mem_nil⟩) (by decide) (by decide) zl_L_c15 zl_cast_IllegalStateException rfl (by decide) (Or.inl dL_send_25) (by rw [dL_send_25]; rfl) ?_
        refine zw_sub (lv' := []) zs_nil ?_
        refine zw_iconst (v := (2 : Int32)) hX dL_send_27 (by decide) ?_
        obtain rfl := Option.some.inj h
        exact zw_iret hX hr dL_send_28 rfl ⟨rfl, rfl⟩
      · rw [if_neg cx1] at h
        cases h
set_option maxHeartbeats 4000000 in
set_option maxRecDepth 100000 in
theorem zt_L_disturb_J15 {p : Program} {l : Launch} {e : Env} {R : Room} {s : State} {m : MethodId} {args : Array Value} {below : List Frame} {meth : Method} {c : Code} {V : zm_V} {mc ms d rc rs : Nat} (hlt : l.stackTraces = false) (hxt : c.exceptionTable.toList = tableOf [(0, 16, 19, 13), (0, 16, 22, 15)]) (hX : zm_X p R s m args meth c RL "disturb" cL_disturb 4 zk_E V mc ms) (hr : meth.sig.returnType = (some .int)) (hR : R.frames = d ∧ R.locals = 64 * d) (hd : 8 ≤ d) {N : Nat} {t0 : Nat} {t1 : Int32} {t2 : Int64} {out : (Int32 × zm_S)} (hc : 0 ≤ rc ∧ 0 ≤ rs) {S : zm_S} (h : zf_L_disturb_J15 N t0 t1 t2 S = some out) : zw p l e R s m args below meth c (vx_MQ below (zm_Qc zk_E V (zo_i out)) (zm_XC zk_E V zo_x) args s mc ms (fun q => V.2.2.2.1 ≤ q)) 4 zk_E V mc ms 15 [] [.long t2, .int t1, .ref t0] S rc rs := by
  unfold zf_L_disturb_J15 at h
  obtain ⟨S3, g, h⟩ := zb_some h
  refine zw_sl hX dL_disturb_15 g ?_
  refine zw_goto (tgt := 25) hX dL_disturb_16 (by decide) ?_
  refine zw_iconst (v := (0 : Int32)) hX dL_disturb_25 (by decide) ?_
  obtain rfl := Option.some.inj h
  exact zw_iret hX hr dL_disturb_26 rfl ⟨rfl, rfl⟩
set_option maxHeartbeats 4000000 in
set_option maxRecDepth 100000 in
theorem zt_L_disturb {l : Launch} {V : zm_V} (hlt : l.stackTraces = false) {N : Nat} {S : zm_S} {out : (Int32 × zm_S)} {d : Nat} {a0 : Nat} {i1 : Int32} {a2 : Nat} (hd : 8 ≤ d) (h : zf_L_disturb N a0 i1 a2 S = some out) : zm_Met l zk_E V yL_disturb (.codeWith yL_disturb cL_disturb 4 (some .int) [(0, 16, 19, 13), (0, 16, 22, 15)]) d [.ref a0, .int i1, .ref a2] S 2 12 (zo_i out) zo_x := by
  refine zm_ofH (by decide +kernel) (Nat.le_of_ble_eq_true rfl) ?_
  intro p e R s m args below meth c hRR hX hr hxt
  have hR : R.frames = d ∧ R.locals = 64 * d := by rw [hRR]; exact ⟨rfl, rfl⟩
  have hX : zm_X p R s m args meth c RL "disturb" cL_disturb 4 zk_E V 2 12 := hX
  unfold zf_L_disturb at h
  refine zw_sub (lv' := [(0, .ref a0), (1, .int i1), (2, .ref a2)]) (List.forall_mem_cons.mpr ⟨rfl, (List.forall_mem_cons.mpr ⟨rfl, (List.forall_mem_cons.mpr ⟨rfl, zs_nil⟩)⟩)⟩) ?_
  refine zw_aload_n hX dL_disturb_0 rfl ?_
  refine zw_iconst (v := (0 : Int32)) hX dL_disturb_1 (by decide) ?_
  refine zw_aload_n hX dL_disturb_2 rfl ?_
  refine zw_iload_n hX dL_disturb_3 rfl ?_
  obtain ⟨_, gi, h⟩ := zb_some h
  obtain ⟨r, g, h⟩ := zb_some h
  refine zc_V (as := [.int i1]) hX (zt_X11_disturb hlt (d := d - 1) (by omega) g) zl_L_219 rfl dL_disturb_4 (zi_spec gi) ⟨rfl, rfl, Nat.le_of_ble_eq_true rfl⟩ ⟨by omega, by omega⟩ ⟨by omega, by omega⟩ ?_ ?_
  · rintro _ S2 ⟨v1, rfl, rfl⟩
    try dsimp only at h
    refine zw_if_eq (tgt := 14) hX dL_disturb_7 (by decide) (fun c7 => ?_) (fun c7 => ?_)
    · rw [if_pos c7] at h
      refine zw_lconst (v := (0 : Int64)) hX dL_disturb_14 (by decide) ?_
      refine zw_sub (lv' := []) zs_nil ?_
      exact zt_L_disturb_J15 hlt hxt hX hr hR hd ⟨by omega, by omega⟩ h
    · rw [if_neg c7] at h
      refine zw_lconst (v := (1 : Int64)) hX dL_disturb_10 (by decide) ?_
      refine zw_goto (tgt := 15) hX dL_disturb_11 (by decide) ?_
      refine zw_sub (lv' := []) zs_nil ?_
      exact zt_L_disturb_J15 hlt hxt hX hr hR hd ⟨by omega, by omega⟩ h
  · rintro X S9 rfl
    try dsimp only at h
    by_cases cx0 : X = "java/lang/IllegalArgumentException"
    · rw [if_pos cx0] at h
      subst cx0
      refine zx_catch (name := "java/lang/IllegalArgumentException") (i := 3) (h9 := 19) (k9 := 1) hX [] { startPc := 0, endPc := 16, handlerPc := 19, catchType := 13 } [{ startPc := 0, endPc := 16, handlerPc := 22, catchType := 15 }] hxt (fun _ h => absurd h List.not_mem_nil) (by decide) (by decide) zl_L_c13 zl_cast_IllegalArgumentException rfl (by decide) (Or.inr ⟨3, rfl, dL_disturb_19⟩) (by rw [dL_disturb_19]; rfl) ?_
      refine zw_sub (lv' := []) zs_nil ?_
      refine zw_iconst (v := (1 : Int32)) hX dL_disturb_20 (by decide) ?_
      obtain rfl := Option.some.inj h
      exact zw_iret hX hr dL_disturb_21 rfl ⟨rfl, rfl⟩
    · rw [if_neg cx0] at h
      by_cases cx1 : X = "java/lang/IllegalStateException"
      · rw [if_pos cx1] at h
        subst cx1
        refine zx_catch (name := "java/lang/IllegalStateException") (i := 3) (h9 := 22) (k9 := 1) hX [{ startPc := 0, endPc := 16, handlerPc := 19, catchType := 13 }] { startPc := 0, endPc := 16, handlerPc := 22, catchType := 15 } [] hxt (List.forall_mem_cons.mpr ⟨Or.inr ⟨by decide, _, zl_L_c13, zx_nc hX⟩, fun _ h => absurd h List.not_mem_nil⟩) (by decide) (by decide) zl_L_c15 zl_cast_IllegalStateException rfl (by decide) (Or.inr ⟨3, rfl, dL_disturb_22⟩) (by rw [dL_disturb_22]; rfl) ?_
        refine zw_sub (lv' := []) zs_nil ?_
        refine zw_iconst (v := (2 : Int32)) hX dL_disturb_23 (by decide) ?_
        obtain rfl := Option.some.inj h
        exact zw_iret hX hr dL_disturb_24 rfl ⟨rfl, rfl⟩
      · rw [if_neg cx1] at h
        cases h
set_option maxHeartbeats 4000000 in
set_option maxRecDepth 100000 in
theorem zt_L_station {l : Launch} {V : zm_V} (hlt : l.stackTraces = false) {N : Nat} {S : zm_S} {out : (Int32 × zm_S)} {d : Nat} {a0 : Nat} {i1 : Int32} {i2 : Int32} {a3 : Nat} (hd : 8 ≤ d) (h : zf_L_station N a0 i1 i2 a3 S = some out) : zm_Met l zk_E V yL_station (.codeWith yL_station cL_station 5 (some .int) [(0, 10, 13, 13), (0, 10, 17, 15)]) d [.ref a0, .int i1, .int i2, .ref a3] S 2 12 (zo_i out) zo_x := by
  refine zm_ofH (by decide +kernel) (Nat.le_of_ble_eq_true rfl) ?_
  intro p e R s m args below meth c hRR hX hr hxt
  have hR : R.frames = d ∧ R.locals = 64 * d := by rw [hRR]; exact ⟨rfl, rfl⟩
  have hX : zm_X p R s m args meth c RL "station" cL_station 5 zk_E V 2 12 := hX
  unfold zf_L_station at h
  refine zw_sub (lv' := [(0, .ref a0), (1, .int i1), (2, .int i2), (3, .ref a3)]) (List.forall_mem_cons.mpr ⟨rfl, (List.forall_mem_cons.mpr ⟨rfl, (List.forall_mem_cons.mpr ⟨rfl, (List.forall_mem_cons.mpr ⟨rfl, zs_nil⟩)⟩)⟩)⟩) ?_
  refine zw_aload_n hX dL_station_0 rfl ?_
  refine zw_iconst (v := (0 : Int32)) hX dL_station_1 (by decide) ?_
  refine zw_aload_n hX dL_station_2 rfl ?_
  refine zw_iload_n hX dL_station_3 rfl ?_
  refine zw_iload_n hX dL_station_4 rfl ?_
  obtain ⟨_, gi, h⟩ := zb_some h
  obtain ⟨r, g, h⟩ := zb_some h
  refine zc_V (as := [.int i1, .int i2]) hX (zt_X11_station hlt (d := d - 1) (by omega) g) zl_L_223 rfl dL_station_5 (zi_spec gi) ⟨rfl, rfl, Nat.le_of_ble_eq_true rfl⟩ ⟨by omega, by omega⟩ ⟨by omega, by omega⟩ ?_ ?_
  · rintro _ S2 ⟨v1, rfl, rfl⟩
    try dsimp only at h
    refine zw_i2l hX dL_station_8 ?_
    obtain ⟨S3, g, h⟩ := zb_some h
    refine zw_sl hX dL_station_9 g ?_
    refine zw_goto (tgt := 21) hX dL_station_10 (by decide) ?_
    refine zw_iconst (v := (0 : Int32)) hX dL_station_21 (by decide) ?_
    obtain rfl := Option.some.inj h
    exact zw_iret hX hr dL_station_22 rfl ⟨rfl, rfl⟩
  · rintro X S9 rfl
    try dsimp only at h
    by_cases cx0 : X = "java/lang/IllegalArgumentException"
    · rw [if_pos cx0] at h
      subst cx0
      refine zx_catch (name := "java/lang/IllegalArgumentException") (i := 4) (h9 := 13) (k9 := 2) hX [] { startPc := 0, endPc := 10, handlerPc := 13, catchType := 13 } [{ startPc := 0, endPc := 10, handlerPc := 17, catchType := 15 }] hxt (fun _ h => absurd h List.not_mem_nil) (by decide) (by decide) zl_L_c13 zl_cast_IllegalArgumentException rfl (by decide) (Or.inl dL_station_13) (by rw [dL_station_13]; rfl) ?_
      refine zw_sub (lv' := []) zs_nil ?_
      refine zw_iconst (v := (1 : Int32)) hX dL_station_15 (by decide) ?_
      obtain rfl := Option.some.inj h
      exact zw_iret hX hr dL_station_16 rfl ⟨rfl, rfl⟩
    · rw [if_neg cx0] at h
      by_cases cx1 : X = "java/lang/IllegalStateException"
      · rw [if_pos cx1] at h
        subst cx1
        refine zx_catch (name := "java/lang/IllegalStateException") (i := 4) (h9 := 17) (k9 := 2) hX [{ startPc := 0, endPc := 10, handlerPc := 13, catchType := 13 }] { startPc := 0, endPc := 10, handlerPc := 17, catchType := 15 } [] hxt (List.forall_mem_cons.mpr ⟨Or.inr ⟨by decide, _, zl_L_c13, zx_nc hX⟩, fun _ h => absurd h List.not_mem_nil⟩) (by decide) (by decide) zl_L_c15 zl_cast_IllegalStateException rfl (by decide) (Or.inl dL_station_17) (by rw [dL_station_17]; rfl) ?_
        refine zw_sub (lv' := []) zs_nil ?_
        refine zw_iconst (v := (2 : Int32)) hX dL_station_19 (by decide) ?_
        obtain rfl := Option.some.inj h
        exact zw_iret hX hr dL_station_20 rfl ⟨rfl, rfl⟩
      · rw [if_neg cx1] at h
        cases h
set_option maxHeartbeats 4000000 in
set_option maxRecDepth 100000 in
theorem zt_L_heard {l : Launch} {V : zm_V} (hlt : l.stackTraces = false) {N : Nat} {S : zm_S} {out : (Int32 × zm_S)} {d : Nat} {a0 : Nat} {i1 : Int32} {a2 : Nat} (hd : 8 ≤ d) (h : zf_L_heard N a0 i1 a2 S = some out) : zm_Met l zk_E V yL_heard (.codeWith yL_heard cL_heard 4 (some .int) [(0, 9, 12, 13), (0, 9, 15, 15)]) d [.ref a0, .int i1, .ref a2] S 2 12 (zo_i out) zo_x := by
  refine zm_ofH (by decide +kernel) (Nat.le_of_ble_eq_true rfl) ?_
  intro p e R s m args below meth c hRR hX hr hxt
  have hR : R.frames = d ∧ R.locals = 64 * d := by rw [hRR]; exact ⟨rfl, rfl⟩
  have hX : zm_X p R s m args meth c RL "heard" cL_heard 4 zk_E V 2 12 := hX
  unfold zf_L_heard at h
  refine zw_sub (lv' := [(0, .ref a0), (1, .int i1), (2, .ref a2)]) (List.forall_mem_cons.mpr ⟨rfl, (List.forall_mem_cons.mpr ⟨rfl, (List.forall_mem_cons.mpr ⟨rfl, zs_nil⟩)⟩)⟩) ?_
  refine zw_aload_n hX dL_heard_0 rfl ?_
  refine zw_iconst (v := (0 : Int32)) hX dL_heard_1 (by decide) ?_
  refine zw_aload_n hX dL_heard_2 rfl ?_
  refine zw_iload_n hX dL_heard_3 rfl ?_
  obtain ⟨_, gi, h⟩ := zb_some h
  obtain ⟨r, g, h⟩ := zb_some h
  refine zc_V (as := [.int i1]) hX (zt_X11_heard hlt (d := d - 1) (by omega) g) zl_L_226 rfl dL_heard_4 (zi_spec gi) ⟨rfl, rfl, Nat.le_of_ble_eq_true rfl⟩ ⟨by omega, by omega⟩ ⟨by omega, by omega⟩ ?_ ?_
  · rintro _ S2 ⟨v1, rfl, rfl⟩
    try dsimp only at h
    refine zw_i2l hX dL_heard_7 ?_
    obtain ⟨S3, g, h⟩ := zb_some h
    refine zw_sl hX dL_heard_8 g ?_
    refine zw_goto (tgt := 18) hX dL_heard_9 (by decide) ?_
    refine zw_iconst (v := (0 : Int32)) hX dL_heard_18 (by decide) ?_
    obtain rfl := Option.some.inj h
    exact zw_iret hX hr dL_heard_19 rfl ⟨rfl, rfl⟩
  · rintro X S9 rfl
    try dsimp only at h
    by_cases cx0 : X = "java/lang/IllegalArgumentException"
    · rw [if_pos cx0] at h
      subst cx0
      refine zx_catch (name := "java/lang/IllegalArgumentException") (i := 3) (h9 := 12) (k9 := 1) hX [] { startPc := 0, endPc := 9, handlerPc := 12, catchType := 13 } [{ startPc := 0, endPc := 9, handlerPc := 15, catchType := 15 }] hxt (fun _ h => absurd h List.not_mem_nil) (by decide) (by decide) zl_L_c13 zl_cast_IllegalArgumentException rfl (by decide) (Or.inr ⟨3, rfl, dL_heard_12⟩) (by rw [dL_heard_12]; rfl) ?_
      refine zw_sub (lv' := []) zs_nil ?_
      refine zw_iconst (v := (1 : Int32)) hX dL_heard_13 (by decide) ?_
      obtain rfl := Option.some.inj h
      exact zw_iret hX hr dL_heard_14 rfl ⟨rfl, rfl⟩
    · rw [if_neg cx0] at h
      by_cases cx1 : X = "java/lang/IllegalStateException"
      · rw [if_pos cx1] at h
        subst cx1
        refine zx_catch (name := "java/lang/IllegalStateException") (i := 3) (h9 := 15) (k9 := 1) hX [{ startPc := 0, endPc := 9, handlerPc := 12, catchType := 13 }] { startPc := 0, endPc := 9, handlerPc := 15, catchType := 15 } [] hxt (List.forall_mem_cons.mpr ⟨Or.inr ⟨by decide, _, zl_L_c13, zx_nc hX⟩, fun _ h => absurd h List.not_mem_nil⟩) (by decide) (by decide) zl_L_c15 zl_cast_IllegalStateException rfl (by decide) (Or.inr ⟨3, rfl, dL_heard_15⟩) (by rw [dL_heard_15]; rfl) ?_
        refine zw_sub (lv' := []) zs_nil ?_
        refine zw_iconst (v := (2 : Int32)) hX dL_heard_16 (by decide) ?_
        obtain rfl := Option.some.inj h
        exact zw_iret hX hr dL_heard_17 rfl ⟨rfl, rfl⟩
      · rw [if_neg cx1] at h
        cases h
set_option maxHeartbeats 4000000 in
set_option maxRecDepth 100000 in
theorem zt_L_byteAt {l : Launch} {V : zm_V} (hlt : l.stackTraces = false) {N : Nat} {S : zm_S} {out : (Int32 × zm_S)} {d : Nat} {a0 : Nat} {i1 : Int32} {a2 : Nat} (hd : 8 ≤ d) (h : zf_L_byteAt N a0 i1 a2 S = some out) : zm_Met l zk_E V yL_byteAt (.codeWith yL_byteAt cL_byteAt 4 (some .int) [(0, 9, 12, 13), (0, 9, 15, 15)]) d [.ref a0, .int i1, .ref a2] S 2 12 (zo_i out) zo_x := by
  refine zm_ofH (by decide +kernel) (Nat.le_of_ble_eq_true rfl) ?_
  intro p e R s m args below meth c hRR hX hr hxt
  have hR : R.frames = d ∧ R.locals = 64 * d := by rw [hRR]; exact ⟨rfl, rfl⟩
  have hX : zm_X p R s m args meth c RL "byteAt" cL_byteAt 4 zk_E V 2 12 := hX
  unfold zf_L_byteAt at h
  refine zw_sub (lv' := [(0, .ref a0), (1, .int i1), (2, .ref a2)]) (List.forall_mem_cons.mpr ⟨rfl, (List.forall_mem_cons.mpr ⟨rfl, (List.forall_mem_cons.mpr ⟨rfl, zs_nil⟩)⟩)⟩) ?_
  refine zw_aload_n hX dL_byteAt_0 rfl ?_
  refine zw_iconst (v := (0 : Int32)) hX dL_byteAt_1 (by decide) ?_
  refine zw_aload_n hX dL_byteAt_2 rfl ?_
  refine zw_iload_n hX dL_byteAt_3 rfl ?_
  obtain ⟨_, gi, h⟩ := zb_some h
  obtain ⟨r, g, h⟩ := zb_some h
  refine zc_V (as := [.int i1]) hX (zt_X11_byteAt hlt (d := d - 1) (by omega) g) zl_L_229 rfl dL_byteAt_4 (zi_spec gi) ⟨rfl, rfl, Nat.le_of_ble_eq_true rfl⟩ ⟨by omega, by omega⟩ ⟨by omega, by omega⟩ ?_ ?_
  · rintro _ S2 ⟨v1, rfl, rfl⟩
    try dsimp only at h
    refine zw_i2l hX dL_byteAt_7 ?_
    obtain ⟨S3, g, h⟩ := zb_some h
    refine zw_sl hX dL_byteAt_8 g ?_
    refine zw_goto (tgt := 18) hX dL_byteAt_9 (by decide) ?_
    refine zw_iconst (v := (0 : Int32)) hX dL_byteAt_18 (by decide) ?_
    obtain rfl := Option.some.inj h
    exact zw_iret hX hr dL_byteAt_19 rfl ⟨rfl, rfl⟩
  · rintro X S9 rfl
    try dsimp only at h
    by_cases cx0 : X = "java/lang/IllegalArgumentException"
    · rw [if_pos cx0] at h
      subst cx0
      refine zx_catch (name := "java/lang/IllegalArgumentException") (i := 3) (h9 := 12) (k9 := 1) hX [] { startPc := 0, endPc := 9, handlerPc := 12, catchType := 13 } [{ startPc := 0, endPc := 9, handlerPc := 15, catchType := 15 }] hxt (fun _ h => absurd h List.not_mem_nil) (by decide) (by decide) zl_L_c13 zl_cast_IllegalArgumentException rfl (by decide) (Or.inr ⟨3, rfl, dL_byteAt_12⟩) (by rw [dL_byteAt_12]; rfl) ?_
      refine zw_sub (lv' := []) zs_nil ?_
      refine zw_iconst (v := (1 : Int32)) hX dL_byteAt_13 (by decide) ?_
      obtain rfl := Option.some.inj h
      exact zw_iret hX hr dL_byteAt_14 rfl ⟨rfl, rfl⟩
    · rw [if_neg cx0] at h
      by_cases cx1 : X = "java/lang/IllegalStateException"
      · rw [if_pos cx1] at h
        subst cx1
        refine zx_catch (name := "java/lang/IllegalStateException") (i := 3) (h9 := 15) (k9 := 1) hX [{ startPc := 0, endPc := 9, handlerPc := 12, catchType := 13 }] { startPc := 0, endPc := 9, handlerPc := 15, catchType := 15 } [] hxt (List.forall_mem_cons.mpr ⟨Or.inr ⟨by decide, _, zl_L_c13, zx_nc hX⟩, fun _ h => absurd h List.not_mem_nil⟩) (by decide) (by decide) zl_L_c15 zl_cast_IllegalStateException rfl (by decide) (Or.inr ⟨3, rfl, dL_byteAt_15⟩) (by rw [dL_byteAt_15]; rfl) ?_
        refine zw_sub (lv' := []) zs_nil ?_
        refine zw_iconst (v := (2 : Int32)) hX dL_byteAt_16 (by decide) ?_
        obtain rfl := Option.some.inj h
        exact zw_iret hX hr dL_byteAt_17 rfl ⟨rfl, rfl⟩
      · rw [if_neg cx1] at h
        cases h
set_option maxHeartbeats 4000000 in
set_option maxRecDepth 100000 in
theorem zt_L_car {l : Launch} {V : zm_V} (hlt : l.stackTraces = false) {N : Nat} {S : zm_S} {out : (Int32 × zm_S)} {d : Nat} {a0 : Nat} {i1 : Int32} {i2 : Int32} {a3 : Nat} (hd : 8 ≤ d) (h : zf_L_car N a0 i1 i2 a3 S = some out) : zm_Met l zk_E V yL_car (.codeWith yL_car cL_car 5 (some .int) [(0, 10, 13, 13), (0, 10, 17, 15)]) d [.ref a0, .int i1, .int i2, .ref a3] S 2 12 (zo_i out) zo_x := by
  refine zm_ofH (by decide +kernel) (Nat.le_of_ble_eq_true rfl) ?_
  intro p e R s m args below meth c hRR hX hr hxt
  have hR : R.frames = d ∧ R.locals = 64 * d := by rw [hRR]; exact ⟨rfl, rfl⟩
  have hX : zm_X p R s m args meth c RL "car" cL_car 5 zk_E V 2 12 := hX
  unfold zf_L_car at h
  refine zw_sub (lv' := [(0, .ref a0), (1, .int i1), (2, .int i2), (3, .ref a3)]) (List.forall_mem_cons.mpr ⟨rfl, (List.forall_mem_cons.mpr ⟨rfl, (List.forall_mem_cons.mpr ⟨rfl, (List.forall_mem_cons.mpr ⟨rfl, zs_nil⟩)⟩)⟩)⟩) ?_
  refine zw_aload_n hX dL_car_0 rfl ?_
  refine zw_iconst (v := (0 : Int32)) hX dL_car_1 (by decide) ?_
  refine zw_aload_n hX dL_car_2 rfl ?_
  refine zw_iload_n hX dL_car_3 rfl ?_
  refine zw_iload_n hX dL_car_4 rfl ?_
  obtain ⟨_, gi, h⟩ := zb_some h
  obtain ⟨r, g, h⟩ := zb_some h
  refine zc_V (as := [.int i1, .int i2]) hX (zt_X11_car hlt (d := d - 1) (by omega) g) zl_L_232 rfl dL_car_5 (zi_spec gi) ⟨rfl, rfl, Nat.le_of_ble_eq_true rfl⟩ ⟨by omega, by omega⟩ ⟨by omega, by omega⟩ ?_ ?_
  · rintro _ S2 ⟨v1, rfl, rfl⟩
    try dsimp only at h
    refine zw_i2l hX dL_car_8 ?_
    obtain ⟨S3, g, h⟩ := zb_some h
    refine zw_sl hX dL_car_9 g ?_
    refine zw_goto (tgt := 21) hX dL_car_10 (by decide) ?_
    refine zw_iconst (v := (0 : Int32)) hX dL_car_21 (by decide) ?_
    obtain rfl := Option.some.inj h
    exact zw_iret hX hr dL_car_22 rfl ⟨rfl, rfl⟩
  · rintro X S9 rfl
    try dsimp only at h
    by_cases cx0 : X = "java/lang/IllegalArgumentException"
    · rw [if_pos cx0] at h
      subst cx0
      refine zx_catch (name := "java/lang/IllegalArgumentException") (i := 4) (h9 := 13) (k9 := 2) hX [] { startPc := 0, endPc := 10, handlerPc := 13, catchType := 13 } [{ startPc := 0, endPc := 10, handlerPc := 17, catchType := 15 }] hxt (fun _ h => absurd h List.not_mem_nil) (by decide) (by decide) zl_L_c13 zl_cast_IllegalArgumentException rfl (by decide) (Or.inl dL_car_13) (by rw [dL_car_13]; rfl) ?_
      refine zw_sub (lv' := []) zs_nil ?_
      refine zw_iconst (v := (1 : Int32)) hX dL_car_15 (by decide) ?_
      obtain rfl := Option.some.inj h
      exact zw_iret hX hr dL_car_16 rfl ⟨rfl, rfl⟩
    · rw [if_neg cx0] at h
      by_cases cx1 : X = "java/lang/IllegalStateException"
      · rw [if_pos cx1] at h
        subst cx1
        refine zx_catch (name := "java/lang/IllegalStateException") (i := 4) (h9 := 17) (k9 := 2) hX [{ startPc := 0, endPc := 10, handlerPc := 13, catchType := 13 }] { startPc := 0, endPc := 10, handlerPc := 17, catchType := 15 } [] hxt (List.forall_mem_cons.mpr ⟨Or.inr ⟨by decide, _, zl_L_c13, zx_nc hX⟩, fun _ h => absurd h List.not_mem_nil⟩) (by decide) (by decide) zl_L_c15 zl_cast_IllegalStateException rfl (by decide) (Or.inl dL_car_17) (by rw [dL_car_17]; rfl) ?_
        refine zw_sub (lv' := []) zs_nil ?_
        refine zw_iconst (v := (2 : Int32)) hX dL_car_19 (by decide) ?_
        obtain rfl := Option.some.inj h
        exact zw_iret hX hr dL_car_20 rfl ⟨rfl, rfl⟩
      · rw [if_neg cx1] at h
        cases h
set_option maxHeartbeats 4000000 in
set_option maxRecDepth 100000 in
theorem zt_L_free {l : Launch} {V : zm_V} (hlt : l.stackTraces = false) {N : Nat} {S : zm_S} {out : (Int32 × zm_S)} {d : Nat} {a0 : Nat} {i1 : Int32} {i2 : Int32} {i3 : Int32} (hd : 8 ≤ d) (h : zf_L_free N a0 i1 i2 i3 S = some out) : zm_Met l zk_E V yL_free (.codeWith yL_free cL_free 5 (some .int) [(0, 7, 10, 13), (0, 7, 14, 15)]) d [.ref a0, .int i1, .int i2, .int i3] S 2 12 (zo_i out) zo_x := by
  refine zm_ofH (by decide +kernel) (Nat.le_of_ble_eq_true rfl) ?_
  intro p e R s m args below meth c hRR hX hr hxt
  have hR : R.frames = d ∧ R.locals = 64 * d := by rw [hRR]; exact ⟨rfl, rfl⟩
  have hX : zm_X p R s m args meth c RL "free" cL_free 5 zk_E V 2 12 := hX
  unfold zf_L_free at h
  refine zw_sub (lv' := [(0, .ref a0), (1, .int i1), (2, .int i2), (3, .int i3)]) (List.forall_mem_cons.mpr ⟨rfl, (List.forall_mem_cons.mpr ⟨rfl, (List.forall_mem_cons.mpr ⟨rfl, (List.forall_mem_cons.mpr ⟨rfl, zs_nil⟩)⟩)⟩)⟩) ?_
  refine zw_aload_n hX dL_free_0 rfl ?_
  refine zw_iload_n hX dL_free_1 rfl ?_
  refine zw_iload_n hX dL_free_2 rfl ?_
  refine zw_iload_n hX dL_free_3 rfl ?_
  obtain ⟨_, gi, h⟩ := zb_some h
  obtain ⟨r, g, h⟩ := zb_some h
  refine zc_V (as := [.int i1, .int i2, .int i3]) hX (zt_X11_free hlt (d := d - 1) (by omega) g) zl_L_235 rfl dL_free_4 (zi_spec gi) ⟨rfl, rfl, Nat.le_of_ble_eq_true rfl⟩ ⟨by omega, by omega⟩ ⟨by omega, by omega⟩ ?_ ?_
  · rintro _ S2 ⟨⟨u1, rfl⟩, rfl⟩
    try dsimp only at h
    refine zw_goto (tgt := 18) hX dL_free_7 (by decide) ?_
    refine zw_iconst (v := (0 : Int32)) hX dL_free_18 (by decide) ?_
    obtain rfl := Option.some.inj h
    exact zw_iret hX hr dL_free_19 rfl ⟨rfl, rfl⟩
  · rintro X S9 rfl
    try dsimp only at h
    by_cases cx0 : X = "java/lang/IllegalArgumentException"
    · rw [if_pos cx0] at h
      subst cx0
      refine zx_catch (name := "java/lang/IllegalArgumentException") (i := 4) (h9 := 10) (k9 := 2) hX [] { startPc := 0, endPc := 7, handlerPc := 10, catchType := 13 } [{ startPc := 0, endPc := 7, handlerPc := 14, catchType := 15 }] hxt (fun _ h => absurd h List.not_mem_nil) (by decide) (by decide) zl_L_c13 zl_cast_IllegalArgumentException rfl (by decide) (Or.inl dL_free_10) (by rw [dL_free_10]; rfl) ?_
      refine zw_sub (lv' := []) zs_nil ?_
      refine zw_iconst (v := (1 : Int32)) hX dL_free_12 (by decide) ?_
      obtain rfl := Option.some.inj h
      exact zw_iret hX hr dL_free_13 rfl ⟨rfl, rfl⟩
    · rw [if_neg cx0] at h
      by_cases cx1 : X = "java/lang/IllegalStateException"
      · rw [if_pos cx1] at h
        subst cx1
        refine zx_catch (name := "java/lang/IllegalStateException") (i := 4) (h9 := 14) (k9 := 2) hX [{ startPc := 0, endPc := 7, handlerPc := 10, catchType := 13 }] { startPc := 0, endPc := 7, handlerPc := 14, catchType := 15 } [] hxt (List.forall_mem_cons.mpr ⟨Or.inr ⟨by decide, _, zl_L_c13, zx_nc hX⟩, fun _ h => absurd h List.not_mem_nil⟩) (by decide) (by decide) zl_L_c15 zl_cast_IllegalStateException rfl (by decide) (Or.inl dL_free_14) (by rw [dL_free_14]; rfl) ?_
        refine zw_sub (lv' := []) zs_nil ?_
        refine zw_iconst (v := (2 : Int32)) hX dL_free_16 (by decide) ?_
        obtain rfl := Option.some.inj h
        exact zw_iret hX hr dL_free_17 rfl ⟨rfl, rfl⟩
      · rw [if_neg cx1] at h
        cases h
set_option maxHeartbeats 4000000 in
set_option maxRecDepth 100000 in
theorem zt_L_span {l : Launch} {V : zm_V} (hlt : l.stackTraces = false) {N : Nat} {S : zm_S} {out : (Int32 × zm_S)} {d : Nat} {a0 : Nat} {i1 : Int32} {i2 : Int32} {i3 : Int32} (hd : 8 ≤ d) (h : zf_L_span N a0 i1 i2 i3 S = some out) : zm_Met l zk_E V yL_span (.codeWith yL_span cL_span 5 (some .int) [(0, 7, 10, 13), (0, 7, 14, 15)]) d [.ref a0, .int i1, .int i2, .int i3] S 2 12 (zo_i out) zo_x := by
  refine zm_ofH (by decide +kernel) (Nat.le_of_ble_eq_true rfl) ?_
  intro p e R s m args below meth c hRR hX hr hxt
  have hR : R.frames = d ∧ R.locals = 64 * d := by rw [hRR]; exact ⟨rfl, rfl⟩
  have hX : zm_X p R s m args meth c RL "span" cL_span 5 zk_E V 2 12 := hX
  unfold zf_L_span at h
  refine zw_sub (lv' := [(0, .ref a0), (1, .int i1), (2, .int i2), (3, .int i3)]) (List.forall_mem_cons.mpr ⟨rfl, (List.forall_mem_cons.mpr ⟨rfl, (List.forall_mem_cons.mpr ⟨rfl, (List.forall_mem_cons.mpr ⟨rfl, zs_nil⟩)⟩)⟩)⟩) ?_
  refine zw_aload_n hX dL_span_0 rfl ?_
  refine zw_iload_n hX dL_span_1 rfl ?_
  refine zw_iload_n hX dL_span_2 rfl ?_
  refine zw_iload_n hX dL_span_3 rfl ?_
  obtain ⟨_, gi, h⟩ := zb_some h
  obtain ⟨r, g, h⟩ := zb_some h
  refine zc_V (as := [.int i1, .int i2, .int i3]) hX (zt_X11_span hlt (d := d - 1) (by omega) g) zl_L_238 rfl dL_span_4 (zi_spec gi) ⟨rfl, rfl, Nat.le_of_ble_eq_true rfl⟩ ⟨by omega, by omega⟩ ⟨by omega, by omega⟩ ?_ ?_
  · rintro _ S2 ⟨⟨u1, rfl⟩, rfl⟩
    try dsimp only at h
    refine zw_goto (tgt := 18) hX dL_span_7 (by decide) ?_
    refine zw_iconst (v := (0 : Int32)) hX dL_span_18 (by decide) ?_
    obtain rfl := Option.some.inj h
    exact zw_iret hX hr dL_span_19 rfl ⟨rfl, rfl⟩
  · rintro X S9 rfl
    try dsimp only at h
    by_cases cx0 : X = "java/lang/IllegalArgumentException"
    · rw [if_pos cx0] at h
      subst cx0
      refine zx_catch (name := "java/lang/IllegalArgumentException") (i := 4) (h9 := 10) (k9 := 2) hX [] { startPc := 0, endPc := 7, handlerPc := 10, catchType := 13 } [{ startPc := 0, endPc := 7, handlerPc := 14, catchType := 15 }] hxt (fun _ h => absurd h List.not_mem_nil) (by decide) (by decide) zl_L_c13 zl_cast_IllegalArgumentException rfl (by decide) (Or.inl dL_span_10) (by rw [dL_span_10]; rfl) ?_
      refine zw_sub (lv' := []) zs_nil ?_
      refine zw_iconst (v := (1 : Int32)) hX dL_span_12 (by decide) ?_
      obtain rfl := Option.some.inj h
      exact zw_iret hX hr dL_span_13 rfl ⟨rfl, rfl⟩
    · rw [if_neg cx0] at h
      by_cases cx1 : X = "java/lang/IllegalStateException"
      · rw [if_pos cx1] at h
        subst cx1
        refine zx_catch (name := "java/lang/IllegalStateException") (i := 4) (h9 := 14) (k9 := 2) hX [{ startPc := 0, endPc := 7, handlerPc := 10, catchType := 13 }] { startPc := 0, endPc := 7, handlerPc := 14, catchType := 15 } [] hxt (List.forall_mem_cons.mpr ⟨Or.inr ⟨by decide, _, zl_L_c13, zx_nc hX⟩, fun _ h => absurd h List.not_mem_nil⟩) (by decide) (by decide) zl_L_c15 zl_cast_IllegalStateException rfl (by decide) (Or.inl dL_span_14) (by rw [dL_span_14]; rfl) ?_
        refine zw_sub (lv' := []) zs_nil ?_
        refine zw_iconst (v := (2 : Int32)) hX dL_span_16 (by decide) ?_
        obtain rfl := Option.some.inj h
        exact zw_iret hX hr dL_span_17 rfl ⟨rfl, rfl⟩
      · rw [if_neg cx1] at h
        cases h
set_option maxHeartbeats 4000000 in
set_option maxRecDepth 100000 in
theorem zt_L_call {l : Launch} {V : zm_V} (hlt : l.stackTraces = false) {N : Nat} {S : zm_S} {out : (Int32 × zm_S)} {d : Nat} {a0 : Nat} {i1 : Int32} {i2 : Int32} {a3 : Nat} (hd : 8 ≤ d) (h : zf_L_call N a0 i1 i2 a3 S = some out) : zm_Met l zk_E V yL_call (.codeWith yL_call cL_call 5 (some .int) [(0, 10, 13, 13), (0, 10, 17, 15)]) d [.ref a0, .int i1, .int i2, .ref a3] S 2 12 (zo_i out) zo_x := by
  refine zm_ofH (by decide +kernel) (Nat.le_of_ble_eq_true rfl) ?_
  intro p e R s m args below meth c hRR hX hr hxt
  have hR : R.frames = d ∧ R.locals = 64 * d := by rw [hRR]; exact ⟨rfl, rfl⟩
  have hX : zm_X p R s m args meth c RL "call" cL_call 5 zk_E V 2 12 := hX
  unfold zf_L_call at h
  refine zw_sub (lv' := [(0, .ref a0), (1, .int i1), (2, .int i2), (3, .ref a3)]) (List.forall_mem_cons.mpr ⟨rfl, (List.forall_mem_cons.mpr ⟨rfl, (List.forall_mem_cons.mpr ⟨rfl, (List.forall_mem_cons.mpr ⟨rfl, zs_nil⟩)⟩)⟩)⟩) ?_
  refine zw_aload_n hX dL_call_0 rfl ?_
  refine zw_iconst (v := (0 : Int32)) hX dL_call_1 (by decide) ?_
  refine zw_aload_n hX dL_call_2 rfl ?_
  refine zw_iload_n hX dL_call_3 rfl ?_
  refine zw_iload_n hX dL_call_4 rfl ?_
  obtain ⟨_, gi, h⟩ := zb_some h
  obtain ⟨r, g, h⟩ := zb_some h
  refine zc_V (as := [.int i1, .int i2]) hX (zt_X11_call hlt (d := d - 1) (by omega) g) zl_L_241 rfl dL_call_5 (zi_spec gi) ⟨rfl, rfl, Nat.le_of_ble_eq_true rfl⟩ ⟨by omega, by omega⟩ ⟨by omega, by omega⟩ ?_ ?_
  · rintro _ S2 ⟨v1, rfl, rfl⟩
    try dsimp only at h
    refine zw_i2l hX dL_call_8 ?_
    obtain ⟨S3, g, h⟩ := zb_some h
    refine zw_sl hX dL_call_9 g ?_
    refine zw_goto (tgt := 21) hX dL_call_10 (by decide) ?_
    refine zw_iconst (v := (0 : Int32)) hX dL_call_21 (by decide) ?_
    obtain rfl := Option.some.inj h
    exact zw_iret hX hr dL_call_22 rfl ⟨rfl, rfl⟩
  · rintro X S9 rfl
    try dsimp only at h
    by_cases cx0 : X = "java/lang/IllegalArgumentException"
    · rw [if_pos cx0] at h
      subst cx0
      refine zx_catch (name := "java/lang/IllegalArgumentException") (i := 4) (h9 := 13) (k9 := 2) hX [] { startPc := 0, endPc := 10, handlerPc := 13, catchType := 13 } [{ startPc := 0, endPc := 10, handlerPc := 17, catchType := 15 }] hxt (fun _ h => absurd h List.not_mem_nil) (by decide) (by decide) zl_L_c13 zl_cast_IllegalArgumentException rfl (by decide) (Or.inl dL_call_13) (by rw [dL_call_13]; rfl) ?_
      refine zw_sub (lv' := []) zs_nil ?_
      refine zw_iconst (v := (1 : Int32)) hX dL_call_15 (by decide) ?_
      obtain rfl := Option.some.inj h
      exact zw_iret hX hr dL_call_16 rfl ⟨rfl, rfl⟩
    · rw [if_neg cx0] at h
      by_cases cx1 : X = "java/lang/IllegalStateException"
      · rw [if_pos cx1] at h
        subst cx1
        refine zx_catch (name := "java/lang/IllegalStateException") (i := 4) (h9 := 17) (k9 := 2) hX [{ startPc := 0, endPc := 10, handlerPc := 13, catchType := 13 }] { startPc := 0, endPc := 10, handlerPc := 17, catchType := 15 } [] hxt (List.forall_mem_cons.mpr ⟨Or.inr ⟨by decide, _, zl_L_c13, zx_nc hX⟩, fun _ h => absurd h List.not_mem_nil⟩) (by decide) (by decide) zl_L_c15 zl_cast_IllegalStateException rfl (by decide) (Or.inl dL_call_17) (by rw [dL_call_17]; rfl) ?_
        refine zw_sub (lv' := []) zs_nil ?_
        refine zw_iconst (v := (2 : Int32)) hX dL_call_19 (by decide) ?_
        obtain rfl := Option.some.inj h
        exact zw_iret hX hr dL_call_20 rfl ⟨rfl, rfl⟩
      · rw [if_neg cx1] at h
        cases h
set_option maxHeartbeats 4000000 in
set_option maxRecDepth 100000 in
theorem zt_L_begin_J16 {p : Program} {l : Launch} {e : Env} {R : Room} {s : State} {m : MethodId} {args : Array Value} {below : List Frame} {meth : Method} {c : Code} {V : zm_V} {mc ms d rc rs : Nat} (hlt : l.stackTraces = false) (hxt : c.exceptionTable.toList = tableOf [(0, 17, 20, 13), (0, 17, 24, 15)]) (hX : zm_X p R s m args meth c RL "begin" cL_begin 5 zk_E V mc ms) (hr : meth.sig.returnType = (some .int)) (hR : R.frames = d ∧ R.locals = 64 * d) (hd : 8 ≤ d) {N : Nat} {t0 : Nat} {t1 : Int32} {t2 : Int64} {out : (Int32 × zm_S)} (hc : 0 ≤ rc ∧ 0 ≤ rs) {S : zm_S} (h : zf_L_begin_J16 N t0 t1 t2 S = some out) : zw p l e R s m args below meth c (vx_MQ below (zm_Qc zk_E V (zo_i out)) (zm_XC zk_E V zo_x) args s mc ms (fun q => V.2.2.2.1 ≤ q)) 5 zk_E V mc ms 16 [] [.long t2, .int t1, .ref t0] S rc rs := by
  unfold zf_L_begin_J16 at h
  obtain ⟨S3, g, h⟩ := zb_some h
  refine zw_sl hX dL_begin_16 g ?_
  refine zw_goto (tgt := 28) hX dL_begin_17 (by decide) ?_
  refine zw_iconst (v := (0 : Int32)) hX dL_begin_28 (by decide) ?_
  obtain rfl := Option.some.inj h
  exact zw_iret hX hr dL_begin_29 rfl ⟨rfl, rfl⟩
set_option maxHeartbeats 4000000 in
set_option maxRecDepth 100000 in
theorem zt_L_begin {l : Launch} {V : zm_V} (hlt : l.stackTraces = false) {N : Nat} {S : zm_S} {out : (Int32 × zm_S)} {d : Nat} {a0 : Nat} {i1 : Int32} {i2 : Int32} {a3 : Nat} (hd : 8 ≤ d) (h : zf_L_begin N a0 i1 i2 a3 S = some out) : zm_Met l zk_E V yL_begin (.codeWith yL_begin cL_begin 5 (some .int) [(0, 17, 20, 13), (0, 17, 24, 15)]) d [.ref a0, .int i1, .int i2, .ref a3] S 2 12 (zo_i out) zo_x := by
  refine zm_ofH (by decide +kernel) (Nat.le_of_ble_eq_true rfl) ?_
  intro p e R s m args below meth c hRR hX hr hxt
  have hR : R.frames = d ∧ R.locals = 64 * d := by rw [hRR]; exact ⟨rfl, rfl⟩
  have hX : zm_X p R s m args meth c RL "begin" cL_begin 5 zk_E V 2 12 := hX
  unfold zf_L_begin at h
  refine zw_sub (lv' := [(0, .ref a0), (1, .int i1), (2, .int i2), (3, .ref a3)]) (List.forall_mem_cons.mpr ⟨rfl, (List.forall_mem_cons.mpr ⟨rfl, (List.forall_mem_cons.mpr ⟨rfl, (List.forall_mem_cons.mpr ⟨rfl, zs_nil⟩)⟩)⟩)⟩) ?_
  refine zw_aload_n hX dL_begin_0 rfl ?_
  refine zw_iconst (v := (0 : Int32)) hX dL_begin_1 (by decide) ?_
  refine zw_aload_n hX dL_begin_2 rfl ?_
  refine zw_iload_n hX dL_begin_3 rfl ?_
  refine zw_iload_n hX dL_begin_4 rfl ?_
  obtain ⟨_, gi, h⟩ := zb_some h
  obtain ⟨r, g, h⟩ := zb_some h
  refine zc_V (as := [.int i1, .int i2]) hX (zt_X11_begin hlt (d := d - 1) (by omega) g) zl_L_244 rfl dL_begin_5 (zi_spec gi) ⟨rfl, rfl, Nat.le_of_ble_eq_true rfl⟩ ⟨by omega, by omega⟩ ⟨by omega, by omega⟩ ?_ ?_
  · rintro _ S2 ⟨v1, rfl, rfl⟩
    try dsimp only at h
    refine zw_if_eq (tgt := 15) hX dL_begin_8 (by decide) (fun c8 => ?_) (fun c8 => ?_)
    · rw [if_pos c8] at h
      refine zw_lconst (v := (0 : Int64)) hX dL_begin_15 (by decide) ?_
      refine zw_sub (lv' := []) zs_nil ?_
      exact zt_L_begin_J16 hlt hxt hX hr hR hd ⟨by omega, by omega⟩ h
    · rw [if_neg c8] at h
      refine zw_lconst (v := (1 : Int64)) hX dL_begin_11 (by decide) ?_
      refine zw_goto (tgt := 16) hX dL_begin_12 (by decide) ?_
      refine zw_sub (lv' := []) zs_nil ?_
      exact zt_L_begin_J16 hlt hxt hX hr hR hd ⟨by omega, by omega⟩ h
  · rintro X S9 rfl
    try dsimp only at h
    by_cases cx0 : X = "java/lang/IllegalArgumentException"
    · rw [if_pos cx0] at h
      subst cx0
      refine zx_catch (name := "java/lang/IllegalArgumentException") (i := 4) (h9 := 20) (k9 := 2) hX [] { startPc := 0, endPc := 17, handlerPc := 20, catchType := 13 } [{ startPc := 0, endPc := 17, handlerPc := 24, catchType := 15 }] hxt (fun _ h => absurd h List.not_mem_nil) (by decide) (by decide) zl_L_c13 zl_cast_IllegalArgumentException rfl (by decide) (Or.inl dL_begin_20) (by rw [dL_begin_20]; rfl) ?_
      refine zw_sub (lv' := []) zs_nil ?_
      refine zw_iconst (v := (1 : Int32)) hX dL_begin_22 (by decide) ?_
      obtain rfl := Option.some.inj h
      exact zw_iret hX hr dL_begin_23 rfl ⟨rfl, rfl⟩
    · rw [if_neg cx0] at h
      by_cases cx1 : X = "java/lang/IllegalStateException"
      · rw [if_pos cx1] at h
        subst cx1
        refine zx_catch (name := "java/lang/IllegalStateException") (i := 4) (h9 := 24) (k9 := 2) hX [{ startPc := 0, endPc := 17, handlerPc := 20, catchType := 13 }] { startPc := 0, endPc := 17, handlerPc := 24, catchType := 15 } [] hxt (List.forall_mem_cons.mpr ⟨Or.inr ⟨by decide, _, zl_L_c13, zx_nc hX⟩, fun _ h => absurd h List.not_mem_nil⟩) (by decide) (by decide) zl_L_c15 zl_cast_IllegalStateException rfl (by decide) (Or.inl dL_begin_24) (by rw [dL_begin_24]; rfl) ?_
        refine zw_sub (lv' := []) zs_nil ?_
        refine zw_iconst (v := (2 : Int32)) hX dL_begin_26 (by decide) ?_
        obtain rfl := Option.some.inj h
        exact zw_iret hX hr dL_begin_27 rfl ⟨rfl, rfl⟩
      · rw [if_neg cx1] at h
        cases h
set_option maxHeartbeats 4000000 in
set_option maxRecDepth 100000 in
theorem zt_L_done {l : Launch} {V : zm_V} (hlt : l.stackTraces = false) {N : Nat} {S : zm_S} {out : (Int32 × zm_S)} {d : Nat} {a0 : Nat} {i1 : Int32} (hd : 8 ≤ d) (h : zf_L_done N a0 i1 S = some out) : zm_Met l zk_E V yL_done (.codeWith yL_done cL_done 3 (some .int) [(0, 5, 8, 13), (0, 5, 11, 15)]) d [.ref a0, .int i1] S 2 12 (zo_i out) zo_x := by
  refine zm_ofH (by decide +kernel) (Nat.le_of_ble_eq_true rfl) ?_
  intro p e R s m args below meth c hRR hX hr hxt
  have hR : R.frames = d ∧ R.locals = 64 * d := by rw [hRR]; exact ⟨rfl, rfl⟩
  have hX : zm_X p R s m args meth c RL "done" cL_done 3 zk_E V 2 12 := hX
  unfold zf_L_done at h
  refine zw_sub (lv' := [(0, .ref a0), (1, .int i1)]) (List.forall_mem_cons.mpr ⟨rfl, (List.forall_mem_cons.mpr ⟨rfl, zs_nil⟩)⟩) ?_
  refine zw_aload_n hX dL_done_0 rfl ?_
  refine zw_iload_n hX dL_done_1 rfl ?_
  obtain ⟨_, gi, h⟩ := zb_some h
  obtain ⟨r, g, h⟩ := zb_some h
  refine zc_V (as := [.int i1]) hX (zt_X11_done hlt (d := d - 1) (by omega) g) zl_L_248 rfl dL_done_2 (zi_spec gi) ⟨rfl, rfl, Nat.le_of_ble_eq_true rfl⟩ ⟨by omega, by omega⟩ ⟨by omega, by omega⟩ ?_ ?_
  · rintro _ S2 ⟨⟨u1, rfl⟩, rfl⟩
    try dsimp only at h
    refine zw_goto (tgt := 14) hX dL_done_5 (by decide) ?_
    refine zw_iconst (v := (0 : Int32)) hX dL_done_14 (by decide) ?_
    obtain rfl := Option.some.inj h
    exact zw_iret hX hr dL_done_15 rfl ⟨rfl, rfl⟩
  · rintro X S9 rfl
    try dsimp only at h
    by_cases cx0 : X = "java/lang/IllegalArgumentException"
    · rw [if_pos cx0] at h
      subst cx0
      refine zx_catch (name := "java/lang/IllegalArgumentException") (i := 2) (h9 := 8) (k9 := 1) hX [] { startPc := 0, endPc := 5, handlerPc := 8, catchType := 13 } [{ startPc := 0, endPc := 5, handlerPc := 11, catchType := 15 }] hxt (fun _ h => absurd h List.not_mem_nil) (by decide) (by decide) zl_L_c13 zl_cast_IllegalArgumentException rfl (by decide) (Or.inr ⟨2, rfl, dL_done_8⟩) (by rw [dL_done_8]; rfl) ?_
      refine zw_sub (lv' := []) zs_nil ?_
      refine zw_iconst (v := (1 : Int32)) hX dL_done_9 (by decide) ?_
      obtain rfl := Option.some.inj h
      exact zw_iret hX hr dL_done_10 rfl ⟨rfl, rfl⟩
    · rw [if_neg cx0] at h
      by_cases cx1 : X = "java/lang/IllegalStateException"
      · rw [if_pos cx1] at h
        subst cx1
        refine zx_catch (name := "java/lang/IllegalStateException") (i := 2) (h9 := 11) (k9 := 1) hX [{ startPc := 0, endPc := 5, handlerPc := 8, catchType := 13 }] { startPc := 0, endPc := 5, handlerPc := 11, catchType := 15 } [] hxt (List.forall_mem_cons.mpr ⟨Or.inr ⟨by decide, _, zl_L_c13, zx_nc hX⟩, fun _ h => absurd h List.not_mem_nil⟩) (by decide) (by decide) zl_L_c15 zl_cast_IllegalStateException rfl (by decide) (Or.inr ⟨2, rfl, dL_done_11⟩) (by rw [dL_done_11]; rfl) ?_
        refine zw_sub (lv' := []) zs_nil ?_
        refine zw_iconst (v := (2 : Int32)) hX dL_done_12 (by decide) ?_
        obtain rfl := Option.some.inj h
        exact zw_iret hX hr dL_done_13 rfl ⟨rfl, rfl⟩
      · rw [if_neg cx1] at h
        cases h
set_option maxHeartbeats 4000000 in
set_option maxRecDepth 100000 in
theorem zt_L_give {l : Launch} {V : zm_V} (hlt : l.stackTraces = false) {N : Nat} {S : zm_S} {out : (Int32 × zm_S)} {d : Nat} {a0 : Nat} {a1 : Nat} (hd : 20 ≤ d) (h : zf_L_give N a0 a1 S = some out) : zm_Met l zk_E V yL_give (.codeWith yL_give cL_give 3 (some .int) [(0, 7, 10, 15)]) d [.ref a0, .ref a1] S 1 6 (zo_i out) zo_x := by
  refine zm_ofH (by decide +kernel) (Nat.le_of_ble_eq_true rfl) ?_
  intro p e R s m args below meth c hRR hX hr hxt
  have hR : R.frames = d ∧ R.locals = 64 * d := by rw [hRR]; exact ⟨rfl, rfl⟩
  have hX : zm_X p R s m args meth c RL "give" cL_give 3 zk_E V 1 6 := hX
  unfold zf_L_give at h
  refine zw_sub (lv' := [(0, .ref a0), (1, .ref a1)]) (List.forall_mem_cons.mpr ⟨rfl, (List.forall_mem_cons.mpr ⟨rfl, zs_nil⟩)⟩) ?_
  refine zw_aload_n hX dL_give_0 rfl ?_
  refine zw_iconst (v := (0 : Int32)) hX dL_give_1 (by decide) ?_
  refine zw_aload_n hX dL_give_2 rfl ?_
  obtain ⟨_, gi, h⟩ := zb_some h
  obtain ⟨r, g, h⟩ := zb_some h
  refine zc_V (as := []) hX (zt_X11_give hlt (d := d - 1) (by omega) g) zl_L_252 rfl dL_give_3 (zi_spec gi) ⟨rfl, rfl, Nat.le_of_ble_eq_true rfl⟩ ⟨by omega, by omega⟩ ⟨by omega, by omega⟩ ?_ ?_
  · rintro _ S2 ⟨w1, rfl, rfl⟩
    try dsimp only at h
    obtain ⟨S3, g, h⟩ := zb_some h
    refine zw_sl hX dL_give_6 g ?_
    refine zw_goto (tgt := 13) hX dL_give_7 (by decide) ?_
    refine zw_iconst (v := (0 : Int32)) hX dL_give_13 (by decide) ?_
    obtain rfl := Option.some.inj h
    exact zw_iret hX hr dL_give_14 rfl ⟨rfl, rfl⟩
  · rintro X S9 rfl
    try dsimp only at h
    by_cases cx0 : X = "java/lang/IllegalStateException"
    · rw [if_pos cx0] at h
      subst cx0
      refine zx_catch (name := "java/lang/IllegalStateException") (i := 2) (h9 := 10) (k9 := 1) hX [] { startPc := 0, endPc := 7, handlerPc := 10, catchType := 15 } [] hxt (fun _ h => absurd h List.not_mem_nil) (by decide) (by decide) zl_L_c15 zl_cast_IllegalStateException rfl (by decide) (Or.inr ⟨2, rfl, dL_give_10⟩) (by rw [dL_give_10]; rfl) ?_
      refine zw_sub (lv' := []) zs_nil ?_
      refine zw_iconst (v := (1 : Int32)) hX dL_give_11 (by decide) ?_
      obtain rfl := Option.some.inj h
      exact zw_iret hX hr dL_give_12 rfl ⟨rfl, rfl⟩
    · rw [if_neg cx0] at h
      cases h
set_option maxHeartbeats 4000000 in
set_option maxRecDepth 100000 in
theorem zt_L_given {l : Launch} {V : zm_V} (hlt : l.stackTraces = false) {N : Nat} {S : zm_S} {out : (Int32 × zm_S)} {d : Nat} {a0 : Nat} {i1 : Int32} {i2 : Int32} {a3 : Nat} (hd : 8 ≤ d) (h : zf_L_given N a0 i1 i2 a3 S = some out) : zm_Met l zk_E V yL_given (.codeWith yL_given cL_given 5 (some .int) [(0, 10, 13, 13), (0, 10, 17, 15)]) d [.ref a0, .int i1, .int i2, .ref a3] S 2 12 (zo_i out) zo_x := by
  refine zm_ofH (by decide +kernel) (Nat.le_of_ble_eq_true rfl) ?_
  intro p e R s m args below meth c hRR hX hr hxt
  have hR : R.frames = d ∧ R.locals = 64 * d := by rw [hRR]; exact ⟨rfl, rfl⟩
  have hX : zm_X p R s m args meth c RL "given" cL_given 5 zk_E V 2 12 := hX
  unfold zf_L_given at h
  refine zw_sub (lv' := [(0, .ref a0), (1, .int i1), (2, .int i2), (3, .ref a3)]) (List.forall_mem_cons.mpr ⟨rfl, (List.forall_mem_cons.mpr ⟨rfl, (List.forall_mem_cons.mpr ⟨rfl, (List.forall_mem_cons.mpr ⟨rfl, zs_nil⟩)⟩)⟩)⟩) ?_
  refine zw_aload_n hX dL_given_0 rfl ?_
  refine zw_iconst (v := (0 : Int32)) hX dL_given_1 (by decide) ?_
  refine zw_aload_n hX dL_given_2 rfl ?_
  refine zw_iload_n hX dL_given_3 rfl ?_
  refine zw_iload_n hX dL_given_4 rfl ?_
  obtain ⟨_, gi, h⟩ := zb_some h
  obtain ⟨r, g, h⟩ := zb_some h
  refine zc_V (as := [.int i1, .int i2]) hX (zt_X11_given hlt (d := d - 1) (by omega) g) zl_L_256 rfl dL_given_5 (zi_spec gi) ⟨rfl, rfl, Nat.le_of_ble_eq_true rfl⟩ ⟨by omega, by omega⟩ ⟨by omega, by omega⟩ ?_ ?_
  · rintro _ S2 ⟨v1, rfl, rfl⟩
    try dsimp only at h
    refine zw_i2l hX dL_given_8 ?_
    obtain ⟨S3, g, h⟩ := zb_some h
    refine zw_sl hX dL_given_9 g ?_
    refine zw_goto (tgt := 21) hX dL_given_10 (by decide) ?_
    refine zw_iconst (v := (0 : Int32)) hX dL_given_21 (by decide) ?_
    obtain rfl := Option.some.inj h
    exact zw_iret hX hr dL_given_22 rfl ⟨rfl, rfl⟩
  · rintro X S9 rfl
    try dsimp only at h
    by_cases cx0 : X = "java/lang/IllegalArgumentException"
    · rw [if_pos cx0] at h
      subst cx0
      refine zx_catch (name := "java/lang/IllegalArgumentException") (i := 4) (h9 := 13) (k9 := 2) hX [] { startPc := 0, endPc := 10, handlerPc := 13, catchType := 13 } [{ startPc := 0, endPc := 10, handlerPc := 17, catchType := 15 }] hxt (fun _ h => absurd h List.not_mem_nil) (by decide) (by decide) zl_L_c13 zl_cast_IllegalArgumentException rfl (by decide) (Or.inl dL_given_13) (by rw [dL_given_13]; rfl) ?_
      refine zw_sub (lv' := []) zs_nil ?_
      refine zw_iconst (v := (1 : Int32)) hX dL_given_15 (by decide) ?_
      obtain rfl := Option.some.inj h
      exact zw_iret hX hr dL_given_16 rfl ⟨rfl, rfl⟩
    · rw [if_neg cx0] at h
      by_cases cx1 : X = "java/lang/IllegalStateException"
      · rw [if_pos cx1] at h
        subst cx1
        refine zx_catch (name := "java/lang/IllegalStateException") (i := 4) (h9 := 17) (k9 := 2) hX [{ startPc := 0, endPc := 10, handlerPc := 13, catchType := 13 }] { startPc := 0, endPc := 10, handlerPc := 17, catchType := 15 } [] hxt (List.forall_mem_cons.mpr ⟨Or.inr ⟨by decide, _, zl_L_c13, zx_nc hX⟩, fun _ h => absurd h List.not_mem_nil⟩) (by decide) (by decide) zl_L_c15 zl_cast_IllegalStateException rfl (by decide) (Or.inl dL_given_17) (by rw [dL_given_17]; rfl) ?_
        refine zw_sub (lv' := []) zs_nil ?_
        refine zw_iconst (v := (2 : Int32)) hX dL_given_19 (by decide) ?_
        obtain rfl := Option.some.inj h
        exact zw_iret hX hr dL_given_20 rfl ⟨rfl, rfl⟩
      · rw [if_neg cx1] at h
        cases h
set_option maxHeartbeats 4000000 in
set_option maxRecDepth 100000 in
theorem zt_L_fire_J16 {p : Program} {l : Launch} {e : Env} {R : Room} {s : State} {m : MethodId} {args : Array Value} {below : List Frame} {meth : Method} {c : Code} {V : zm_V} {mc ms d rc rs : Nat} (hlt : l.stackTraces = false) (hxt : c.exceptionTable.toList = tableOf [(0, 17, 20, 13), (0, 17, 24, 15)]) (hX : zm_X p R s m args meth c RL "fire" cL_fire 5 zk_E V mc ms) (hr : meth.sig.returnType = (some .int)) (hR : R.frames = d ∧ R.locals = 64 * d) (hd : 8 ≤ d) {N : Nat} {t0 : Nat} {t1 : Int32} {t2 : Int64} {out : (Int32 × zm_S)} (hc : 0 ≤ rc ∧ 0 ≤ rs) {S : zm_S} (h : zf_L_fire_J16 N t0 t1 t2 S = some out) : zw p l e R s m args below meth c (vx_MQ below (zm_Qc zk_E V (zo_i out)) (zm_XC zk_E V zo_x) args s mc ms (fun q => V.2.2.2.1 ≤ q)) 5 zk_E V mc ms 16 [] [.long t2, .int t1, .ref t0] S rc rs := by
  unfold zf_L_fire_J16 at h
  obtain ⟨S3, g, h⟩ := zb_some h
  refine zw_sl hX dL_fire_16 g ?_
  refine zw_goto (tgt := 28) hX dL_fire_17 (by decide) ?_
  refine zw_iconst (v := (0 : Int32)) hX dL_fire_28 (by decide) ?_
  obtain rfl := Option.some.inj h
  exact zw_iret hX hr dL_fire_29 rfl ⟨rfl, rfl⟩
set_option maxHeartbeats 4000000 in
set_option maxRecDepth 100000 in
theorem zt_L_fire {l : Launch} {V : zm_V} (hlt : l.stackTraces = false) {N : Nat} {S : zm_S} {out : (Int32 × zm_S)} {d : Nat} {a0 : Nat} {i1 : Int32} {i2 : Int32} {a3 : Nat} (hd : 8 ≤ d) (h : zf_L_fire N a0 i1 i2 a3 S = some out) : zm_Met l zk_E V yL_fire (.codeWith yL_fire cL_fire 5 (some .int) [(0, 17, 20, 13), (0, 17, 24, 15)]) d [.ref a0, .int i1, .int i2, .ref a3] S 2 12 (zo_i out) zo_x := by
  refine zm_ofH (by decide +kernel) (Nat.le_of_ble_eq_true rfl) ?_
  intro p e R s m args below meth c hRR hX hr hxt
  have hR : R.frames = d ∧ R.locals = 64 * d := by rw [hRR]; exact ⟨rfl, rfl⟩
  have hX : zm_X p R s m args meth c RL "fire" cL_fire 5 zk_E V 2 12 := hX
  unfold zf_L_fire at h
  refine zw_sub (lv' := [(0, .ref a0), (1, .int i1), (2, .int i2), (3, .ref a3)]) (List.forall_mem_cons.mpr ⟨rfl, (List.forall_mem_cons.mpr ⟨rfl, (List.forall_mem_cons.mpr ⟨rfl, (List.forall_mem_cons.mpr ⟨rfl, zs_nil⟩)⟩)⟩)⟩) ?_
  refine zw_aload_n hX dL_fire_0 rfl ?_
  refine zw_iconst (v := (0 : Int32)) hX dL_fire_1 (by decide) ?_
  refine zw_aload_n hX dL_fire_2 rfl ?_
  refine zw_iload_n hX dL_fire_3 rfl ?_
  refine zw_iload_n hX dL_fire_4 rfl ?_
  obtain ⟨_, gi, h⟩ := zb_some h
  obtain ⟨r, g, h⟩ := zb_some h
  refine zc_V (as := [.int i1, .int i2]) hX (zt_X11_fire hlt (d := d - 1) (by omega) g) zl_L_259 rfl dL_fire_5 (zi_spec gi) ⟨rfl, rfl, Nat.le_of_ble_eq_true rfl⟩ ⟨by omega, by omega⟩ ⟨by omega, by omega⟩ ?_ ?_
  · rintro _ S2 ⟨v1, rfl, rfl⟩
    try dsimp only at h
    refine zw_if_eq (tgt := 15) hX dL_fire_8 (by decide) (fun c8 => ?_) (fun c8 => ?_)
    · rw [if_pos c8] at h
      refine zw_lconst (v := (0 : Int64)) hX dL_fire_15 (by decide) ?_
      refine zw_sub (lv' := []) zs_nil ?_
      exact zt_L_fire_J16 hlt hxt hX hr hR hd ⟨by omega, by omega⟩ h
    · rw [if_neg c8] at h
      refine zw_lconst (v := (1 : Int64)) hX dL_fire_11 (by decide) ?_
      refine zw_goto (tgt := 16) hX dL_fire_12 (by decide) ?_
      refine zw_sub (lv' := []) zs_nil ?_
      exact zt_L_fire_J16 hlt hxt hX hr hR hd ⟨by omega, by omega⟩ h
  · rintro X S9 rfl
    try dsimp only at h
    by_cases cx0 : X = "java/lang/IllegalArgumentException"
    · rw [if_pos cx0] at h
      subst cx0
      refine zx_catch (name := "java/lang/IllegalArgumentException") (i := 4) (h9 := 20) (k9 := 2) hX [] { startPc := 0, endPc := 17, handlerPc := 20, catchType := 13 } [{ startPc := 0, endPc := 17, handlerPc := 24, catchType := 15 }] hxt (fun _ h => absurd h List.not_mem_nil) (by decide) (by decide) zl_L_c13 zl_cast_IllegalArgumentException rfl (by decide) (Or.inl dL_fire_20) (by rw [dL_fire_20]; rfl) ?_
      refine zw_sub (lv' := []) zs_nil ?_
      refine zw_iconst (v := (1 : Int32)) hX dL_fire_22 (by decide) ?_
      obtain rfl := Option.some.inj h
      exact zw_iret hX hr dL_fire_23 rfl ⟨rfl, rfl⟩
    · rw [if_neg cx0] at h
      by_cases cx1 : X = "java/lang/IllegalStateException"
      · rw [if_pos cx1] at h
        subst cx1
        refine zx_catch (name := "java/lang/IllegalStateException") (i := 4) (h9 := 24) (k9 := 2) hX [{ startPc := 0, endPc := 17, handlerPc := 20, catchType := 13 }] { startPc := 0, endPc := 17, handlerPc := 24, catchType := 15 } [] hxt (List.forall_mem_cons.mpr ⟨Or.inr ⟨by decide, _, zl_L_c13, zx_nc hX⟩, fun _ h => absurd h List.not_mem_nil⟩) (by decide) (by decide) zl_L_c15 zl_cast_IllegalStateException rfl (by decide) (Or.inl dL_fire_24) (by rw [dL_fire_24]; rfl) ?_
        refine zw_sub (lv' := []) zs_nil ?_
        refine zw_iconst (v := (2 : Int32)) hX dL_fire_26 (by decide) ?_
        obtain rfl := Option.some.inj h
        exact zw_iret hX hr dL_fire_27 rfl ⟨rfl, rfl⟩
      · rw [if_neg cx1] at h
        cases h
set_option maxHeartbeats 4000000 in
set_option maxRecDepth 100000 in
theorem zt_L_cell {l : Launch} {V : zm_V} (hlt : l.stackTraces = false) {N : Nat} {S : zm_S} {out : (Int32 × zm_S)} {d : Nat} {a0 : Nat} {i1 : Int32} {i2 : Int32} {i3 : Int32} {a4 : Nat} (hd : 8 ≤ d) (h : zf_L_cell N a0 i1 i2 i3 a4 S = some out) : zm_Met l zk_E V yL_cell (.codeWith yL_cell cL_cell 6 (some .int) [(0, 12, 15, 13), (0, 12, 19, 15)]) d [.ref a0, .int i1, .int i2, .int i3, .ref a4] S 2 12 (zo_i out) zo_x := by
  refine zm_ofH (by decide +kernel) (Nat.le_of_ble_eq_true rfl) ?_
  intro p e R s m args below meth c hRR hX hr hxt
  have hR : R.frames = d ∧ R.locals = 64 * d := by rw [hRR]; exact ⟨rfl, rfl⟩
  have hX : zm_X p R s m args meth c RL "cell" cL_cell 6 zk_E V 2 12 := hX
  unfold zf_L_cell at h
  refine zw_sub (lv' := [(0, .ref a0), (1, .int i1), (2, .int i2), (3, .int i3), (4, .ref a4)]) (List.forall_mem_cons.mpr ⟨rfl, (List.forall_mem_cons.mpr ⟨rfl, (List.forall_mem_cons.mpr ⟨rfl, (List.forall_mem_cons.mpr ⟨rfl, (List.forall_mem_cons.mpr ⟨rfl, zs_nil⟩)⟩)⟩)⟩)⟩) ?_
  refine zw_aload hX dL_cell_0 rfl ?_
  refine zw_iconst (v := (0 : Int32)) hX dL_cell_2 (by decide) ?_
  refine zw_aload_n hX dL_cell_3 rfl ?_
  refine zw_iload_n hX dL_cell_4 rfl ?_
  refine zw_iload_n hX dL_cell_5 rfl ?_
  refine zw_iload_n hX dL_cell_6 rfl ?_
  obtain ⟨_, gi, h⟩ := zb_some h
  obtain ⟨r, g, h⟩ := zb_some h
  refine zc_V (as := [.int i1, .int i2, .int i3]) hX (zt_X11_cell hlt (d := d - 1) (by omega) g) zl_L_262 rfl dL_cell_7 (zi_spec gi) ⟨rfl, rfl, Nat.le_of_ble_eq_true rfl⟩ ⟨by omega, by omega⟩ ⟨by omega, by omega⟩ ?_ ?_
  · rintro _ S2 ⟨v1, rfl, rfl⟩
    try dsimp only at h
    refine zw_i2l hX dL_cell_10 ?_
    obtain ⟨S3, g, h⟩ := zb_some h
    refine zw_sl hX dL_cell_11 g ?_
    refine zw_goto (tgt := 23) hX dL_cell_12 (by decide) ?_
    refine zw_iconst (v := (0 : Int32)) hX dL_cell_23 (by decide) ?_
    obtain rfl := Option.some.inj h
    exact zw_iret hX hr dL_cell_24 rfl ⟨rfl, rfl⟩
  · rintro X S9 rfl
    try dsimp only at h
    by_cases cx0 : X = "java/lang/IllegalArgumentException"
    · rw [if_pos cx0] at h
      subst cx0
      refine zx_catch (name := "java/lang/IllegalArgumentException") (i := 5) (h9 := 15) (k9 := 2) hX [] { startPc := 0, endPc := 12, handlerPc := 15, catchType := 13 } [{ startPc := 0, endPc := 12, handlerPc := 19, catchType := 15 }] hxt (fun _ h => absurd h List.not_mem_nil) (by decide) (by decide) zl_L_c13 zl_cast_IllegalArgumentException rfl (by decide) (Or.inl dL_cell_15) (by rw [dL_cell_15]; rfl) ?_
      refine zw_sub (lv' := []) zs_nil ?_
      refine zw_iconst (v := (1 : Int32)) hX dL_cell_17 (by decide) ?_
      obtain rfl := Option.some.inj h
      exact zw_iret hX hr dL_cell_18 rfl ⟨rfl, rfl⟩
    · rw [if_neg cx0] at h
      by_cases cx1 : X = "java/lang/IllegalStateException"
      · rw [if_pos cx1] at h
        subst cx1
        refine zx_catch (name := "java/lang/IllegalStateException") (i := 5) (h9 := 19) (k9 := 2) hX [{ startPc := 0, endPc := 12, handlerPc := 15, catchType := 13 }] { startPc := 0, endPc := 12, handlerPc := 19, catchType := 15 } [] hxt (List.forall_mem_cons.mpr ⟨Or.inr ⟨by decide, _, zl_L_c13, zx_nc hX⟩, fun _ h => absurd h List.not_mem_nil⟩) (by decide) (by decide) zl_L_c15 zl_cast_IllegalStateException rfl (by decide) (Or.inl dL_cell_19) (by rw [dL_cell_19]; rfl) ?_
        refine zw_sub (lv' := []) zs_nil ?_
        refine zw_iconst (v := (2 : Int32)) hX dL_cell_21 (by decide) ?_
        obtain rfl := Option.some.inj h
        exact zw_iret hX hr dL_cell_22 rfl ⟨rfl, rfl⟩
      · rw [if_neg cx1] at h
        cases h
set_option maxHeartbeats 4000000 in
set_option maxRecDepth 100000 in
theorem zt_L_pass {l : Launch} {V : zm_V} (hlt : l.stackTraces = false) {N : Nat} {S : zm_S} {out : (Int32 × zm_S)} {d : Nat} {a0 : Nat} {i1 : Int32} {a2 : Nat} (hd : 9 ≤ d) (h : zf_L_pass N a0 i1 a2 S = some out) : zm_Met l zk_E V yL_pass (.codeWith yL_pass cL_pass 4 (some .int) [(0, 9, 12, 13), (0, 9, 15, 15)]) d [.ref a0, .int i1, .ref a2] S 2 12 (zo_i out) zo_x := by
  refine zm_ofH (by decide +kernel) (Nat.le_of_ble_eq_true rfl) ?_
  intro p e R s m args below meth c hRR hX hr hxt
  have hR : R.frames = d ∧ R.locals = 64 * d := by rw [hRR]; exact ⟨rfl, rfl⟩
  have hX : zm_X p R s m args meth c RL "pass" cL_pass 4 zk_E V 2 12 := hX
  unfold zf_L_pass at h
  refine zw_sub (lv' := [(0, .ref a0), (1, .int i1), (2, .ref a2)]) (List.forall_mem_cons.mpr ⟨rfl, (List.forall_mem_cons.mpr ⟨rfl, (List.forall_mem_cons.mpr ⟨rfl, zs_nil⟩)⟩)⟩) ?_
  refine zw_aload_n hX dL_pass_0 rfl ?_
  refine zw_iconst (v := (0 : Int32)) hX dL_pass_1 (by decide) ?_
  refine zw_aload_n hX dL_pass_2 rfl ?_
  refine zw_iload_n hX dL_pass_3 rfl ?_
  obtain ⟨_, gi, h⟩ := zb_some h
  obtain ⟨r, g, h⟩ := zb_some h
  refine zc_V (as := [.int i1]) hX (zt_X11_pass hlt (d := d - 1) (by omega) g) zl_L_265 rfl dL_pass_4 (zi_spec gi) ⟨rfl, rfl, Nat.le_of_ble_eq_true rfl⟩ ⟨by omega, by omega⟩ ⟨by omega, by omega⟩ ?_ ?_
  · rintro _ S2 ⟨v1, rfl, rfl⟩
    try dsimp only at h
    refine zw_i2l hX dL_pass_7 ?_
    obtain ⟨S3, g, h⟩ := zb_some h
    refine zw_sl hX dL_pass_8 g ?_
    refine zw_goto (tgt := 18) hX dL_pass_9 (by decide) ?_
    refine zw_iconst (v := (0 : Int32)) hX dL_pass_18 (by decide) ?_
    obtain rfl := Option.some.inj h
    exact zw_iret hX hr dL_pass_19 rfl ⟨rfl, rfl⟩
  · rintro X S9 rfl
    try dsimp only at h
    by_cases cx0 : X = "java/lang/IllegalArgumentException"
    · rw [if_pos cx0] at h
      subst cx0
      refine zx_catch (name := "java/lang/IllegalArgumentException") (i := 3) (h9 := 12) (k9 := 1) hX [] { startPc := 0, endPc := 9, handlerPc := 12, catchType := 13 } [{ startPc := 0, endPc := 9, handlerPc := 15, catchType := 15 }] hxt (fun _ h => absurd h List.not_mem_nil) (by decide) (by decide) zl_L_c13 zl_cast_IllegalArgumentException rfl (by decide) (Or.inr ⟨3, rfl, dL_pass_12⟩) (by rw [dL_pass_12]; rfl) ?_
      refine zw_sub (lv' := []) zs_nil ?_
      refine zw_iconst (v := (1 : Int32)) hX dL_pass_13 (by decide) ?_
      obtain rfl := Option.some.inj h
      exact zw_iret hX hr dL_pass_14 rfl ⟨rfl, rfl⟩
    · rw [if_neg cx0] at h
      by_cases cx1 : X = "java/lang/IllegalStateException"
      · rw [if_pos cx1] at h
        subst cx1
        refine zx_catch (name := "java/lang/IllegalStateException") (i := 3) (h9 := 15) (k9 := 1) hX [{ startPc := 0, endPc := 9, handlerPc := 12, catchType := 13 }] { startPc := 0, endPc := 9, handlerPc := 15, catchType := 15 } [] hxt (List.forall_mem_cons.mpr ⟨Or.inr ⟨by decide, _, zl_L_c13, zx_nc hX⟩, fun _ h => absurd h List.not_mem_nil⟩) (by decide) (by decide) zl_L_c15 zl_cast_IllegalStateException rfl (by decide) (Or.inr ⟨3, rfl, dL_pass_15⟩) (by rw [dL_pass_15]; rfl) ?_
        refine zw_sub (lv' := []) zs_nil ?_
        refine zw_iconst (v := (2 : Int32)) hX dL_pass_16 (by decide) ?_
        obtain rfl := Option.some.inj h
        exact zw_iret hX hr dL_pass_17 rfl ⟨rfl, rfl⟩
      · rw [if_neg cx1] at h
        cases h
set_option maxHeartbeats 4000000 in
set_option maxRecDepth 100000 in
theorem zt_L_told {l : Launch} {V : zm_V} (hlt : l.stackTraces = false) {N : Nat} {S : zm_S} {out : (Int32 × zm_S)} {d : Nat} {a0 : Nat} {i1 : Int32} {a2 : Nat} (hd : 8 ≤ d) (h : zf_L_told N a0 i1 a2 S = some out) : zm_Met l zk_E V yL_told (.codeWith yL_told cL_told 4 (some .int) [(0, 9, 12, 13), (0, 9, 15, 15)]) d [.ref a0, .int i1, .ref a2] S 2 12 (zo_i out) zo_x := by
  refine zm_ofH (by decide +kernel) (Nat.le_of_ble_eq_true rfl) ?_
  intro p e R s m args below meth c hRR hX hr hxt
  have hR : R.frames = d ∧ R.locals = 64 * d := by rw [hRR]; exact ⟨rfl, rfl⟩
  have hX : zm_X p R s m args meth c RL "told" cL_told 4 zk_E V 2 12 := hX
  unfold zf_L_told at h
  refine zw_sub (lv' := [(0, .ref a0), (1, .int i1), (2, .ref a2)]) (List.forall_mem_cons.mpr ⟨rfl, (List.forall_mem_cons.mpr ⟨rfl, (List.forall_mem_cons.mpr ⟨rfl, zs_nil⟩)⟩)⟩) ?_
  refine zw_aload_n hX dL_told_0 rfl ?_
  refine zw_iconst (v := (0 : Int32)) hX dL_told_1 (by decide) ?_
  refine zw_aload_n hX dL_told_2 rfl ?_
  refine zw_iload_n hX dL_told_3 rfl ?_
  obtain ⟨_, gi, h⟩ := zb_some h
  obtain ⟨r, g, h⟩ := zb_some h
  refine zc_V (as := [.int i1]) hX (zt_X11_told hlt (d := d - 1) (by omega) g) zl_L_268 rfl dL_told_4 (zi_spec gi) ⟨rfl, rfl, Nat.le_of_ble_eq_true rfl⟩ ⟨by omega, by omega⟩ ⟨by omega, by omega⟩ ?_ ?_
  · rintro _ S2 ⟨v1, rfl, rfl⟩
    try dsimp only at h
    refine zw_i2l hX dL_told_7 ?_
    obtain ⟨S3, g, h⟩ := zb_some h
    refine zw_sl hX dL_told_8 g ?_
    refine zw_goto (tgt := 18) hX dL_told_9 (by decide) ?_
    refine zw_iconst (v := (0 : Int32)) hX dL_told_18 (by decide) ?_
    obtain rfl := Option.some.inj h
    exact zw_iret hX hr dL_told_19 rfl ⟨rfl, rfl⟩
  · rintro X S9 rfl
    try dsimp only at h
    by_cases cx0 : X = "java/lang/IllegalArgumentException"
    · rw [if_pos cx0] at h
      subst cx0
      refine zx_catch (name := "java/lang/IllegalArgumentException") (i := 3) (h9 := 12) (k9 := 1) hX [] { startPc := 0, endPc := 9, handlerPc := 12, catchType := 13 } [{ startPc := 0, endPc := 9, handlerPc := 15, catchType := 15 }] hxt (fun _ h => absurd h List.not_mem_nil) (by decide) (by decide) zl_L_c13 zl_cast_IllegalArgumentException rfl (by decide) (Or.inr ⟨3, rfl, dL_told_12⟩) (by rw [dL_told_12]; rfl) ?_
      refine zw_sub (lv' := []) zs_nil ?_
      refine zw_iconst (v := (1 : Int32)) hX dL_told_13 (by decide) ?_
      obtain rfl := Option.some.inj h
      exact zw_iret hX hr dL_told_14 rfl ⟨rfl, rfl⟩
    · rw [if_neg cx0] at h
      by_cases cx1 : X = "java/lang/IllegalStateException"
      · rw [if_pos cx1] at h
        subst cx1
        refine zx_catch (name := "java/lang/IllegalStateException") (i := 3) (h9 := 15) (k9 := 1) hX [{ startPc := 0, endPc := 9, handlerPc := 12, catchType := 13 }] { startPc := 0, endPc := 9, handlerPc := 15, catchType := 15 } [] hxt (List.forall_mem_cons.mpr ⟨Or.inr ⟨by decide, _, zl_L_c13, zx_nc hX⟩, fun _ h => absurd h List.not_mem_nil⟩) (by decide) (by decide) zl_L_c15 zl_cast_IllegalStateException rfl (by decide) (Or.inr ⟨3, rfl, dL_told_15⟩) (by rw [dL_told_15]; rfl) ?_
        refine zw_sub (lv' := []) zs_nil ?_
        refine zw_iconst (v := (2 : Int32)) hX dL_told_16 (by decide) ?_
        obtain rfl := Option.some.inj h
        exact zw_iret hX hr dL_told_17 rfl ⟨rfl, rfl⟩
      · rw [if_neg cx1] at h
        cases h

