theorem d_L_put_0 : decode b_L_put 0 = .ok (.aload 4, 2) := by decide +kernel
theorem d_L_put_2 : decode b_L_put 2 = .ok (.iconst 0, 1) := by decide +kernel
theorem d_L_put_3 : decode b_L_put 3 = .ok (.aload_n 0, 1) := by decide +kernel
theorem d_L_put_4 : decode b_L_put 4 = .ok (.lload_n 1, 1) := by decide +kernel
theorem d_L_put_5 : decode b_L_put 5 = .ok (.iload_n 3, 1) := by decide +kernel
theorem d_L_put_6 : decode b_L_put 6 = .ok (.invokevirtual 7, 3) := by decide +kernel
theorem d_L_put_9 : decode b_L_put 9 = .ok (.i2l, 1) := by decide +kernel
theorem d_L_put_10 : decode b_L_put 10 = .ok (.lastore, 1) := by decide +kernel
theorem d_L_put_11 : decode b_L_put 11 = .ok (.goto 11, 3) := by decide +kernel
theorem d_L_put_14 : decode b_L_put 14 = .ok (.astore 5, 2) := by decide +kernel
theorem d_L_put_16 : decode b_L_put 16 = .ok (.iconst 1, 1) := by decide +kernel
theorem d_L_put_17 : decode b_L_put 17 = .ok (.ireturn, 1) := by decide +kernel
theorem d_L_put_18 : decode b_L_put 18 = .ok (.astore 5, 2) := by decide +kernel
theorem d_L_put_20 : decode b_L_put 20 = .ok (.iconst 2, 1) := by decide +kernel
theorem d_L_put_21 : decode b_L_put 21 = .ok (.ireturn, 1) := by decide +kernel
theorem d_L_put_22 : decode b_L_put 22 = .ok (.iconst 0, 1) := by decide +kernel
theorem d_L_put_23 : decode b_L_put 23 = .ok (.ireturn, 1) := by decide +kernel
theorem d_L_putRange_0 : decode b_L_putRange 0 = .ok (.aload 7, 2) := by decide +kernel
theorem d_L_putRange_2 : decode b_L_putRange 2 = .ok (.iconst 0, 1) := by decide +kernel
theorem d_L_putRange_3 : decode b_L_putRange 3 = .ok (.aload_n 0, 1) := by decide +kernel
theorem d_L_putRange_4 : decode b_L_putRange 4 = .ok (.lload_n 1, 1) := by decide +kernel
theorem d_L_putRange_5 : decode b_L_putRange 5 = .ok (.lload_n 3, 1) := by decide +kernel
theorem d_L_putRange_6 : decode b_L_putRange 6 = .ok (.lload 5, 2) := by decide +kernel
theorem d_L_putRange_8 : decode b_L_putRange 8 = .ok (.invokevirtual 17, 3) := by decide +kernel
theorem d_L_putRange_11 : decode b_L_putRange 11 = .ok (.i2l, 1) := by decide +kernel
theorem d_L_putRange_12 : decode b_L_putRange 12 = .ok (.lastore, 1) := by decide +kernel
theorem d_L_putRange_13 : decode b_L_putRange 13 = .ok (.goto 11, 3) := by decide +kernel
theorem d_L_putRange_16 : decode b_L_putRange 16 = .ok (.astore 8, 2) := by decide +kernel
theorem d_L_putRange_18 : decode b_L_putRange 18 = .ok (.iconst 1, 1) := by decide +kernel
theorem d_L_putRange_19 : decode b_L_putRange 19 = .ok (.ireturn, 1) := by decide +kernel
theorem d_L_putRange_20 : decode b_L_putRange 20 = .ok (.astore 8, 2) := by decide +kernel
theorem d_L_putRange_22 : decode b_L_putRange 22 = .ok (.iconst 2, 1) := by decide +kernel
theorem d_L_putRange_23 : decode b_L_putRange 23 = .ok (.ireturn, 1) := by decide +kernel
theorem d_L_putRange_24 : decode b_L_putRange 24 = .ok (.iconst 0, 1) := by decide +kernel
theorem d_L_putRange_25 : decode b_L_putRange 25 = .ok (.ireturn, 1) := by decide +kernel
theorem d_L_putLength_0 : decode b_L_putLength 0 = .ok (.aload_n 2, 1) := by decide +kernel
theorem d_L_putLength_1 : decode b_L_putLength 1 = .ok (.iconst 0, 1) := by decide +kernel
theorem d_L_putLength_2 : decode b_L_putLength 2 = .ok (.aload_n 0, 1) := by decide +kernel
theorem d_L_putLength_3 : decode b_L_putLength 3 = .ok (.iload_n 1, 1) := by decide +kernel
theorem d_L_putLength_4 : decode b_L_putLength 4 = .ok (.invokevirtual 21, 3) := by decide +kernel
theorem d_L_putLength_7 : decode b_L_putLength 7 = .ok (.i2l, 1) := by decide +kernel
theorem d_L_putLength_8 : decode b_L_putLength 8 = .ok (.lastore, 1) := by decide +kernel
theorem d_L_putLength_9 : decode b_L_putLength 9 = .ok (.goto 9, 3) := by decide +kernel
theorem d_L_putLength_12 : decode b_L_putLength 12 = .ok (.astore_n 3, 1) := by decide +kernel
theorem d_L_putLength_13 : decode b_L_putLength 13 = .ok (.iconst 1, 1) := by decide +kernel
theorem d_L_putLength_14 : decode b_L_putLength 14 = .ok (.ireturn, 1) := by decide +kernel
theorem d_L_putLength_15 : decode b_L_putLength 15 = .ok (.astore_n 3, 1) := by decide +kernel
theorem d_L_putLength_16 : decode b_L_putLength 16 = .ok (.iconst 2, 1) := by decide +kernel
theorem d_L_putLength_17 : decode b_L_putLength 17 = .ok (.ireturn, 1) := by decide +kernel
theorem d_L_putLength_18 : decode b_L_putLength 18 = .ok (.iconst 0, 1) := by decide +kernel
theorem d_L_putLength_19 : decode b_L_putLength 19 = .ok (.ireturn, 1) := by decide +kernel
theorem d_L_putNumber_0 : decode b_L_putNumber 0 = .ok (.aload 4, 2) := by decide +kernel
theorem d_L_putNumber_2 : decode b_L_putNumber 2 = .ok (.iconst 0, 1) := by decide +kernel
theorem d_L_putNumber_3 : decode b_L_putNumber 3 = .ok (.aload_n 0, 1) := by decide +kernel
theorem d_L_putNumber_4 : decode b_L_putNumber 4 = .ok (.iload_n 1, 1) := by decide +kernel
theorem d_L_putNumber_5 : decode b_L_putNumber 5 = .ok (.lload_n 2, 1) := by decide +kernel
theorem d_L_putNumber_6 : decode b_L_putNumber 6 = .ok (.invokevirtual 25, 3) := by decide +kernel
theorem d_L_putNumber_9 : decode b_L_putNumber 9 = .ok (.i2l, 1) := by decide +kernel
theorem d_L_putNumber_10 : decode b_L_putNumber 10 = .ok (.lastore, 1) := by decide +kernel
theorem d_L_putNumber_11 : decode b_L_putNumber 11 = .ok (.goto 11, 3) := by decide +kernel
theorem d_L_putNumber_14 : decode b_L_putNumber 14 = .ok (.astore 5, 2) := by decide +kernel
theorem d_L_putNumber_16 : decode b_L_putNumber 16 = .ok (.iconst 1, 1) := by decide +kernel
theorem d_L_putNumber_17 : decode b_L_putNumber 17 = .ok (.ireturn, 1) := by decide +kernel
theorem d_L_putNumber_18 : decode b_L_putNumber 18 = .ok (.astore 5, 2) := by decide +kernel
theorem d_L_putNumber_20 : decode b_L_putNumber 20 = .ok (.iconst 2, 1) := by decide +kernel
theorem d_L_putNumber_21 : decode b_L_putNumber 21 = .ok (.ireturn, 1) := by decide +kernel
theorem d_L_putNumber_22 : decode b_L_putNumber 22 = .ok (.iconst 0, 1) := by decide +kernel
theorem d_L_putNumber_23 : decode b_L_putNumber 23 = .ok (.ireturn, 1) := by decide +kernel
theorem d_L_fill_0 : decode b_L_fill 0 = .ok (.aload_n 1, 1) := by decide +kernel
theorem d_L_fill_1 : decode b_L_fill 1 = .ok (.iconst 0, 1) := by decide +kernel
theorem d_L_fill_2 : decode b_L_fill 2 = .ok (.aload_n 0, 1) := by decide +kernel
theorem d_L_fill_3 : decode b_L_fill 3 = .ok (.invokevirtual 29, 3) := by decide +kernel
theorem d_L_fill_6 : decode b_L_fill 6 = .ok (.i2l, 1) := by decide +kernel
theorem d_L_fill_7 : decode b_L_fill 7 = .ok (.lastore, 1) := by decide +kernel
theorem d_L_fill_8 : decode b_L_fill 8 = .ok (.goto 6, 3) := by decide +kernel
theorem d_L_fill_11 : decode b_L_fill 11 = .ok (.astore_n 2, 1) := by decide +kernel
theorem d_L_fill_12 : decode b_L_fill 12 = .ok (.iconst 1, 1) := by decide +kernel
theorem d_L_fill_13 : decode b_L_fill 13 = .ok (.ireturn, 1) := by decide +kernel
theorem d_L_fill_14 : decode b_L_fill 14 = .ok (.iconst 0, 1) := by decide +kernel
theorem d_L_fill_15 : decode b_L_fill 15 = .ok (.ireturn, 1) := by decide +kernel
theorem d_L_take_0 : decode b_L_take 0 = .ok (.aload_n 2, 1) := by decide +kernel
theorem d_L_take_1 : decode b_L_take 1 = .ok (.iconst 0, 1) := by decide +kernel
theorem d_L_take_2 : decode b_L_take 2 = .ok (.aload_n 0, 1) := by decide +kernel
theorem d_L_take_3 : decode b_L_take 3 = .ok (.iload_n 1, 1) := by decide +kernel
theorem d_L_take_4 : decode b_L_take 4 = .ok (.invokevirtual 33, 3) := by decide +kernel
theorem d_L_take_7 : decode b_L_take 7 = .ok (.lastore, 1) := by decide +kernel
theorem d_L_take_8 : decode b_L_take 8 = .ok (.goto 9, 3) := by decide +kernel
theorem d_L_take_11 : decode b_L_take 11 = .ok (.astore_n 3, 1) := by decide +kernel
theorem d_L_take_12 : decode b_L_take 12 = .ok (.iconst 1, 1) := by decide +kernel
theorem d_L_take_13 : decode b_L_take 13 = .ok (.ireturn, 1) := by decide +kernel
theorem d_L_take_14 : decode b_L_take 14 = .ok (.astore_n 3, 1) := by decide +kernel
theorem d_L_take_15 : decode b_L_take 15 = .ok (.iconst 2, 1) := by decide +kernel
theorem d_L_take_16 : decode b_L_take 16 = .ok (.ireturn, 1) := by decide +kernel
theorem d_L_take_17 : decode b_L_take 17 = .ok (.iconst 0, 1) := by decide +kernel
theorem d_L_take_18 : decode b_L_take 18 = .ok (.ireturn, 1) := by decide +kernel
theorem d_L_takeRange_0 : decode b_L_takeRange 0 = .ok (.aload 5, 2) := by decide +kernel
theorem d_L_takeRange_2 : decode b_L_takeRange 2 = .ok (.iconst 0, 1) := by decide +kernel
theorem d_L_takeRange_3 : decode b_L_takeRange 3 = .ok (.aload_n 0, 1) := by decide +kernel
theorem d_L_takeRange_4 : decode b_L_takeRange 4 = .ok (.lload_n 1, 1) := by decide +kernel
theorem d_L_takeRange_5 : decode b_L_takeRange 5 = .ok (.lload_n 3, 1) := by decide +kernel
theorem d_L_takeRange_6 : decode b_L_takeRange 6 = .ok (.invokevirtual 39, 3) := by decide +kernel
theorem d_L_takeRange_9 : decode b_L_takeRange 9 = .ok (.lastore, 1) := by decide +kernel
theorem d_L_takeRange_10 : decode b_L_takeRange 10 = .ok (.goto 11, 3) := by decide +kernel
theorem d_L_takeRange_13 : decode b_L_takeRange 13 = .ok (.astore 6, 2) := by decide +kernel
theorem d_L_takeRange_15 : decode b_L_takeRange 15 = .ok (.iconst 1, 1) := by decide +kernel
theorem d_L_takeRange_16 : decode b_L_takeRange 16 = .ok (.ireturn, 1) := by decide +kernel
theorem d_L_takeRange_17 : decode b_L_takeRange 17 = .ok (.astore 6, 2) := by decide +kernel
theorem d_L_takeRange_19 : decode b_L_takeRange 19 = .ok (.iconst 2, 1) := by decide +kernel
theorem d_L_takeRange_20 : decode b_L_takeRange 20 = .ok (.ireturn, 1) := by decide +kernel
theorem d_L_takeRange_21 : decode b_L_takeRange 21 = .ok (.iconst 0, 1) := by decide +kernel
theorem d_L_takeRange_22 : decode b_L_takeRange 22 = .ok (.ireturn, 1) := by decide +kernel
theorem d_L_takeLength_0 : decode b_L_takeLength 0 = .ok (.aload_n 1, 1) := by decide +kernel
theorem d_L_takeLength_1 : decode b_L_takeLength 1 = .ok (.iconst 0, 1) := by decide +kernel
theorem d_L_takeLength_2 : decode b_L_takeLength 2 = .ok (.aload_n 0, 1) := by decide +kernel
theorem d_L_takeLength_3 : decode b_L_takeLength 3 = .ok (.invokevirtual 43, 3) := by decide +kernel
theorem d_L_takeLength_6 : decode b_L_takeLength 6 = .ok (.i2l, 1) := by decide +kernel
theorem d_L_takeLength_7 : decode b_L_takeLength 7 = .ok (.lastore, 1) := by decide +kernel
theorem d_L_takeLength_8 : decode b_L_takeLength 8 = .ok (.goto 6, 3) := by decide +kernel
theorem d_L_takeLength_11 : decode b_L_takeLength 11 = .ok (.astore_n 2, 1) := by decide +kernel
theorem d_L_takeLength_12 : decode b_L_takeLength 12 = .ok (.iconst 1, 1) := by decide +kernel
theorem d_L_takeLength_13 : decode b_L_takeLength 13 = .ok (.ireturn, 1) := by decide +kernel
theorem d_L_takeLength_14 : decode b_L_takeLength 14 = .ok (.iconst 0, 1) := by decide +kernel
theorem d_L_takeLength_15 : decode b_L_takeLength 15 = .ok (.ireturn, 1) := by decide +kernel
theorem d_L_takeNumber_0 : decode b_L_takeNumber 0 = .ok (.aload_n 2, 1) := by decide +kernel
theorem d_L_takeNumber_1 : decode b_L_takeNumber 1 = .ok (.iconst 0, 1) := by decide +kernel
theorem d_L_takeNumber_2 : decode b_L_takeNumber 2 = .ok (.aload_n 0, 1) := by decide +kernel
theorem d_L_takeNumber_3 : decode b_L_takeNumber 3 = .ok (.iload_n 1, 1) := by decide +kernel
theorem d_L_takeNumber_4 : decode b_L_takeNumber 4 = .ok (.invokevirtual 46, 3) := by decide +kernel
theorem d_L_takeNumber_7 : decode b_L_takeNumber 7 = .ok (.lastore, 1) := by decide +kernel
theorem d_L_takeNumber_8 : decode b_L_takeNumber 8 = .ok (.goto 9, 3) := by decide +kernel
theorem d_L_takeNumber_11 : decode b_L_takeNumber 11 = .ok (.astore_n 3, 1) := by decide +kernel
theorem d_L_takeNumber_12 : decode b_L_takeNumber 12 = .ok (.iconst 1, 1) := by decide +kernel
theorem d_L_takeNumber_13 : decode b_L_takeNumber 13 = .ok (.ireturn, 1) := by decide +kernel
theorem d_L_takeNumber_14 : decode b_L_takeNumber 14 = .ok (.astore_n 3, 1) := by decide +kernel
theorem d_L_takeNumber_15 : decode b_L_takeNumber 15 = .ok (.iconst 2, 1) := by decide +kernel
theorem d_L_takeNumber_16 : decode b_L_takeNumber 16 = .ok (.ireturn, 1) := by decide +kernel
theorem d_L_takeNumber_17 : decode b_L_takeNumber 17 = .ok (.iconst 0, 1) := by decide +kernel
theorem d_L_takeNumber_18 : decode b_L_takeNumber 18 = .ok (.ireturn, 1) := by decide +kernel
theorem d_L_go_0 : decode b_L_go 0 = .ok (.aload_n 2, 1) := by decide +kernel
theorem d_L_go_1 : decode b_L_go 1 = .ok (.iconst 0, 1) := by decide +kernel
theorem d_L_go_2 : decode b_L_go 2 = .ok (.aload_n 0, 1) := by decide +kernel
theorem d_L_go_3 : decode b_L_go 3 = .ok (.iload_n 1, 1) := by decide +kernel
theorem d_L_go_4 : decode b_L_go 4 = .ok (.invokevirtual 49, 3) := by decide +kernel
theorem d_L_go_7 : decode b_L_go 7 = .ok (.i2l, 1) := by decide +kernel
theorem d_L_go_8 : decode b_L_go 8 = .ok (.lastore, 1) := by decide +kernel
theorem d_L_go_9 : decode b_L_go 9 = .ok (.goto 6, 3) := by decide +kernel
theorem d_L_go_12 : decode b_L_go 12 = .ok (.astore_n 3, 1) := by decide +kernel
theorem d_L_go_13 : decode b_L_go 13 = .ok (.iconst 1, 1) := by decide +kernel
theorem d_L_go_14 : decode b_L_go 14 = .ok (.ireturn, 1) := by decide +kernel
theorem d_L_go_15 : decode b_L_go 15 = .ok (.iconst 0, 1) := by decide +kernel
theorem d_L_go_16 : decode b_L_go 16 = .ok (.ireturn, 1) := by decide +kernel
theorem d_L_turn_0 : decode b_L_turn 0 = .ok (.aload_n 2, 1) := by decide +kernel
theorem d_L_turn_1 : decode b_L_turn 1 = .ok (.iconst 0, 1) := by decide +kernel
theorem d_L_turn_2 : decode b_L_turn 2 = .ok (.aload_n 0, 1) := by decide +kernel
theorem d_L_turn_3 : decode b_L_turn 3 = .ok (.iload_n 1, 1) := by decide +kernel
theorem d_L_turn_4 : decode b_L_turn 4 = .ok (.invokevirtual 52, 3) := by decide +kernel
theorem d_L_turn_7 : decode b_L_turn 7 = .ok (.ifCond .eq 7, 3) := by decide +kernel
theorem d_L_turn_10 : decode b_L_turn 10 = .ok (.lconst 1, 1) := by decide +kernel
theorem d_L_turn_11 : decode b_L_turn 11 = .ok (.goto 4, 3) := by decide +kernel
theorem d_L_turn_14 : decode b_L_turn 14 = .ok (.lconst 0, 1) := by decide +kernel
theorem d_L_turn_15 : decode b_L_turn 15 = .ok (.lastore, 1) := by decide +kernel
theorem d_L_turn_16 : decode b_L_turn 16 = .ok (.goto 6, 3) := by decide +kernel
theorem d_L_turn_19 : decode b_L_turn 19 = .ok (.astore_n 3, 1) := by decide +kernel
theorem d_L_turn_20 : decode b_L_turn 20 = .ok (.iconst 1, 1) := by decide +kernel
theorem d_L_turn_21 : decode b_L_turn 21 = .ok (.ireturn, 1) := by decide +kernel
theorem d_L_turn_22 : decode b_L_turn 22 = .ok (.iconst 0, 1) := by decide +kernel
theorem d_L_turn_23 : decode b_L_turn 23 = .ok (.ireturn, 1) := by decide +kernel
theorem d_L_cut_0 : decode b_L_cut 0 = .ok (.aload_n 2, 1) := by decide +kernel
theorem d_L_cut_1 : decode b_L_cut 1 = .ok (.iconst 0, 1) := by decide +kernel
theorem d_L_cut_2 : decode b_L_cut 2 = .ok (.aload_n 0, 1) := by decide +kernel
theorem d_L_cut_3 : decode b_L_cut 3 = .ok (.iload_n 1, 1) := by decide +kernel
theorem d_L_cut_4 : decode b_L_cut 4 = .ok (.invokevirtual 56, 3) := by decide +kernel
theorem d_L_cut_7 : decode b_L_cut 7 = .ok (.i2l, 1) := by decide +kernel
theorem d_L_cut_8 : decode b_L_cut 8 = .ok (.lastore, 1) := by decide +kernel
theorem d_L_cut_9 : decode b_L_cut 9 = .ok (.goto 6, 3) := by decide +kernel
theorem d_L_cut_12 : decode b_L_cut 12 = .ok (.astore_n 3, 1) := by decide +kernel
theorem d_L_cut_13 : decode b_L_cut 13 = .ok (.iconst 1, 1) := by decide +kernel
theorem d_L_cut_14 : decode b_L_cut 14 = .ok (.ireturn, 1) := by decide +kernel
theorem d_L_cut_15 : decode b_L_cut 15 = .ok (.iconst 0, 1) := by decide +kernel
theorem d_L_cut_16 : decode b_L_cut 16 = .ok (.ireturn, 1) := by decide +kernel
theorem d_L_count_0 : decode b_L_count 0 = .ok (.aload_n 2, 1) := by decide +kernel
theorem d_L_count_1 : decode b_L_count 1 = .ok (.iconst 0, 1) := by decide +kernel
theorem d_L_count_2 : decode b_L_count 2 = .ok (.aload_n 0, 1) := by decide +kernel
theorem d_L_count_3 : decode b_L_count 3 = .ok (.iload_n 1, 1) := by decide +kernel
theorem d_L_count_4 : decode b_L_count 4 = .ok (.invokevirtual 59, 3) := by decide +kernel
theorem d_L_count_7 : decode b_L_count 7 = .ok (.i2l, 1) := by decide +kernel
theorem d_L_count_8 : decode b_L_count 8 = .ok (.lastore, 1) := by decide +kernel
theorem d_L_count_9 : decode b_L_count 9 = .ok (.goto 6, 3) := by decide +kernel
theorem d_L_count_12 : decode b_L_count 12 = .ok (.astore_n 3, 1) := by decide +kernel
theorem d_L_count_13 : decode b_L_count 13 = .ok (.iconst 1, 1) := by decide +kernel
theorem d_L_count_14 : decode b_L_count 14 = .ok (.ireturn, 1) := by decide +kernel
theorem d_L_count_15 : decode b_L_count 15 = .ok (.iconst 0, 1) := by decide +kernel
theorem d_L_count_16 : decode b_L_count 16 = .ok (.ireturn, 1) := by decide +kernel
