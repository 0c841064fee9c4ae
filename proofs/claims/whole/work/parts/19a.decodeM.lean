theorem d_M_init_0 : decode b_M_init 0 = .ok (.aload_n 0, 1) := by decide +kernel
theorem d_M_init_1 : decode b_M_init 1 = .ok (.invokespecial 1, 3) := by decide +kernel
theorem d_M_init_4 : decode b_M_init 4 = .ok (.aload_n 0, 1) := by decide +kernel
theorem d_M_init_5 : decode b_M_init 5 = .ok (.ldc 7, 2) := by decide +kernel
theorem d_M_init_7 : decode b_M_init 7 = .ok (.newarray .boolean, 2) := by decide +kernel
theorem d_M_init_9 : decode b_M_init 9 = .ok (.putfield 8, 3) := by decide +kernel
theorem d_M_init_12 : decode b_M_init 12 = .ok (.return_, 1) := by decide +kernel
theorem d_M_thrown_0 : decode b_M_thrown 0 = .ok (.aload_n 0, 1) := by decide +kernel
theorem d_M_thrown_1 : decode b_M_thrown 1 = .ok (.getfield 14, 3) := by decide +kernel
theorem d_M_thrown_4 : decode b_M_thrown 4 = .ok (.ireturn, 1) := by decide +kernel
theorem d_M_put_0 : decode b_M_put 0 = .ok (.aload_n 0, 1) := by decide +kernel
theorem d_M_put_1 : decode b_M_put 1 = .ok (.iconst 0, 1) := by decide +kernel
theorem d_M_put_2 : decode b_M_put 2 = .ok (.putfield 14, 3) := by decide +kernel
theorem d_M_put_5 : decode b_M_put 5 = .ok (.iload_n 3, 1) := by decide +kernel
theorem d_M_put_6 : decode b_M_put 6 = .ok (.ifCond .lt 9, 3) := by decide +kernel
theorem d_M_put_9 : decode b_M_put 9 = .ok (.iload_n 3, 1) := by decide +kernel
theorem d_M_put_10 : decode b_M_put 10 = .ok (.bipush 64, 2) := by decide +kernel
theorem d_M_put_12 : decode b_M_put 12 = .ok (.if_icmp .le 11, 3) := by decide +kernel
theorem d_M_put_15 : decode b_M_put 15 = .ok (.aload_n 0, 1) := by decide +kernel
theorem d_M_put_16 : decode b_M_put 16 = .ok (.iconst 1, 1) := by decide +kernel
theorem d_M_put_17 : decode b_M_put 17 = .ok (.invokevirtual 27, 3) := by decide +kernel
theorem d_M_put_20 : decode b_M_put 20 = .ok (.goto 10, 3) := by decide +kernel
theorem d_M_put_23 : decode b_M_put 23 = .ok (.aload_n 0, 1) := by decide +kernel
theorem d_M_put_24 : decode b_M_put 24 = .ok (.lload_n 1, 1) := by decide +kernel
theorem d_M_put_25 : decode b_M_put 25 = .ok (.iload_n 3, 1) := by decide +kernel
theorem d_M_put_26 : decode b_M_put 26 = .ok (.iconst 2, 1) := by decide +kernel
theorem d_M_put_27 : decode b_M_put 27 = .ok (.invokevirtual 35, 3) := by decide +kernel
theorem d_M_put_30 : decode b_M_put 30 = .ok (.ireturn, 1) := by decide +kernel
theorem d_M_fail_0 : decode b_M_fail 0 = .ok (.aload_n 0, 1) := by decide +kernel
theorem d_M_fail_1 : decode b_M_fail 1 = .ok (.iload_n 1, 1) := by decide +kernel
theorem d_M_fail_2 : decode b_M_fail 2 = .ok (.putfield 14, 3) := by decide +kernel
theorem d_M_fail_5 : decode b_M_fail 5 = .ok (.iconst 0, 1) := by decide +kernel
theorem d_M_fail_6 : decode b_M_fail 6 = .ok (.ireturn, 1) := by decide +kernel
theorem d_M_write_0 : decode b_M_write 0 = .ok (.aload_n 0, 1) := by decide +kernel
theorem d_M_write_1 : decode b_M_write 1 = .ok (.getfield 24, 3) := by decide +kernel
theorem d_M_write_4 : decode b_M_write 4 = .ok (.iload_n 3, 1) := by decide +kernel
theorem d_M_write_5 : decode b_M_write 5 = .ok (.iadd, 1) := by decide +kernel
theorem d_M_write_6 : decode b_M_write 6 = .ok (.ldc 7, 2) := by decide +kernel
theorem d_M_write_8 : decode b_M_write 8 = .ok (.if_icmp .le 10, 3) := by decide +kernel
theorem d_M_write_11 : decode b_M_write 11 = .ok (.aload_n 0, 1) := by decide +kernel
theorem d_M_write_12 : decode b_M_write 12 = .ok (.iload 4, 2) := by decide +kernel
theorem d_M_write_14 : decode b_M_write 14 = .ok (.invokevirtual 27, 3) := by decide +kernel
theorem d_M_write_17 : decode b_M_write 17 = .ok (.ireturn, 1) := by decide +kernel
theorem d_M_write_18 : decode b_M_write 18 = .ok (.aload_n 0, 1) := by decide +kernel
theorem d_M_write_19 : decode b_M_write 19 = .ok (.lload_n 1, 1) := by decide +kernel
theorem d_M_write_20 : decode b_M_write 20 = .ok (.iload_n 3, 1) := by decide +kernel
theorem d_M_write_21 : decode b_M_write 21 = .ok (.invokevirtual 31, 3) := by decide +kernel
theorem d_M_write_24 : decode b_M_write 24 = .ok (.aload_n 0, 1) := by decide +kernel
theorem d_M_write_25 : decode b_M_write 25 = .ok (.getfield 24, 3) := by decide +kernel
theorem d_M_write_28 : decode b_M_write 28 = .ok (.ireturn, 1) := by decide +kernel
theorem d_M_append_0 : decode b_M_append 0 = .ok (.iload_n 3, 1) := by decide +kernel
theorem d_M_append_1 : decode b_M_append 1 = .ok (.iconst 1, 1) := by decide +kernel
theorem d_M_append_2 : decode b_M_append 2 = .ok (.isub, 1) := by decide +kernel
theorem d_M_append_3 : decode b_M_append 3 = .ok (.istore 4, 2) := by decide +kernel
theorem d_M_append_5 : decode b_M_append 5 = .ok (.iload 4, 2) := by decide +kernel
theorem d_M_append_7 : decode b_M_append 7 = .ok (.ifCond .lt 44, 3) := by decide +kernel
theorem d_M_append_10 : decode b_M_append 10 = .ok (.aload_n 0, 1) := by decide +kernel
theorem d_M_append_11 : decode b_M_append 11 = .ok (.getfield 8, 3) := by decide +kernel
theorem d_M_append_14 : decode b_M_append 14 = .ok (.aload_n 0, 1) := by decide +kernel
theorem d_M_append_15 : decode b_M_append 15 = .ok (.getfield 24, 3) := by decide +kernel
theorem d_M_append_18 : decode b_M_append 18 = .ok (.lload_n 1, 1) := by decide +kernel
theorem d_M_append_19 : decode b_M_append 19 = .ok (.iload 4, 2) := by decide +kernel
theorem d_M_append_21 : decode b_M_append 21 = .ok (.lushr, 1) := by decide +kernel
theorem d_M_append_22 : decode b_M_append 22 = .ok (.lconst 1, 1) := by decide +kernel
theorem d_M_append_23 : decode b_M_append 23 = .ok (.land, 1) := by decide +kernel
theorem d_M_append_24 : decode b_M_append 24 = .ok (.lconst 1, 1) := by decide +kernel
theorem d_M_append_25 : decode b_M_append 25 = .ok (.lcmp, 1) := by decide +kernel
theorem d_M_append_26 : decode b_M_append 26 = .ok (.ifCond .ne 7, 3) := by decide +kernel
theorem d_M_append_29 : decode b_M_append 29 = .ok (.iconst 1, 1) := by decide +kernel
theorem d_M_append_30 : decode b_M_append 30 = .ok (.goto 4, 3) := by decide +kernel
theorem d_M_append_33 : decode b_M_append 33 = .ok (.iconst 0, 1) := by decide +kernel
theorem d_M_append_34 : decode b_M_append 34 = .ok (.bastore, 1) := by decide +kernel
theorem d_M_append_35 : decode b_M_append 35 = .ok (.aload_n 0, 1) := by decide +kernel
theorem d_M_append_36 : decode b_M_append 36 = .ok (.dup, 1) := by decide +kernel
theorem d_M_append_37 : decode b_M_append 37 = .ok (.getfield 24, 3) := by decide +kernel
theorem d_M_append_40 : decode b_M_append 40 = .ok (.iconst 1, 1) := by decide +kernel
theorem d_M_append_41 : decode b_M_append 41 = .ok (.iadd, 1) := by decide +kernel
theorem d_M_append_42 : decode b_M_append 42 = .ok (.putfield 24, 3) := by decide +kernel
theorem d_M_append_45 : decode b_M_append 45 = .ok (.iinc 4 (-1), 3) := by decide +kernel
theorem d_M_append_48 : decode b_M_append 48 = .ok (.goto (-43), 3) := by decide +kernel
theorem d_M_append_51 : decode b_M_append 51 = .ok (.return_, 1) := by decide +kernel
theorem d_M_putRange_0 : decode b_M_putRange 0 = .ok (.aload_n 0, 1) := by decide +kernel
theorem d_M_putRange_1 : decode b_M_putRange 1 = .ok (.iconst 0, 1) := by decide +kernel
theorem d_M_putRange_2 : decode b_M_putRange 2 = .ok (.putfield 14, 3) := by decide +kernel
theorem d_M_putRange_5 : decode b_M_putRange 5 = .ok (.lload 5, 2) := by decide +kernel
theorem d_M_putRange_7 : decode b_M_putRange 7 = .ok (.lload_n 1, 1) := by decide +kernel
theorem d_M_putRange_8 : decode b_M_putRange 8 = .ok (.lcmp, 1) := by decide +kernel
theorem d_M_putRange_9 : decode b_M_putRange 9 = .ok (.ifCond .lt 10, 3) := by decide +kernel
theorem d_M_putRange_12 : decode b_M_putRange 12 = .ok (.lload 5, 2) := by decide +kernel
theorem d_M_putRange_14 : decode b_M_putRange 14 = .ok (.lload_n 3, 1) := by decide +kernel
theorem d_M_putRange_15 : decode b_M_putRange 15 = .ok (.lcmp, 1) := by decide +kernel
theorem d_M_putRange_16 : decode b_M_putRange 16 = .ok (.ifCond .le 11, 3) := by decide +kernel
theorem d_M_putRange_19 : decode b_M_putRange 19 = .ok (.aload_n 0, 1) := by decide +kernel
theorem d_M_putRange_20 : decode b_M_putRange 20 = .ok (.iconst 1, 1) := by decide +kernel
theorem d_M_putRange_21 : decode b_M_putRange 21 = .ok (.invokevirtual 27, 3) := by decide +kernel
theorem d_M_putRange_24 : decode b_M_putRange 24 = .ok (.goto 19, 3) := by decide +kernel
theorem d_M_putRange_27 : decode b_M_putRange 27 = .ok (.aload_n 0, 1) := by decide +kernel
theorem d_M_putRange_28 : decode b_M_putRange 28 = .ok (.lload 5, 2) := by decide +kernel
theorem d_M_putRange_30 : decode b_M_putRange 30 = .ok (.lload_n 1, 1) := by decide +kernel
theorem d_M_putRange_31 : decode b_M_putRange 31 = .ok (.lsub, 1) := by decide +kernel
theorem d_M_putRange_32 : decode b_M_putRange 32 = .ok (.aload_n 0, 1) := by decide +kernel
theorem d_M_putRange_33 : decode b_M_putRange 33 = .ok (.lload_n 3, 1) := by decide +kernel
theorem d_M_putRange_34 : decode b_M_putRange 34 = .ok (.lload_n 1, 1) := by decide +kernel
theorem d_M_putRange_35 : decode b_M_putRange 35 = .ok (.lsub, 1) := by decide +kernel
theorem d_M_putRange_36 : decode b_M_putRange 36 = .ok (.invokevirtual 18, 3) := by decide +kernel
theorem d_M_putRange_39 : decode b_M_putRange 39 = .ok (.iconst 2, 1) := by decide +kernel
theorem d_M_putRange_40 : decode b_M_putRange 40 = .ok (.invokevirtual 35, 3) := by decide +kernel
theorem d_M_putRange_43 : decode b_M_putRange 43 = .ok (.ireturn, 1) := by decide +kernel
theorem d_M_width_0 : decode b_M_width 0 = .ok (.iconst 0, 1) := by decide +kernel
theorem d_M_width_1 : decode b_M_width 1 = .ok (.istore_n 3, 1) := by decide +kernel
theorem d_M_width_2 : decode b_M_width 2 = .ok (.iload_n 3, 1) := by decide +kernel
theorem d_M_width_3 : decode b_M_width 3 = .ok (.bipush 64, 2) := by decide +kernel
theorem d_M_width_5 : decode b_M_width 5 = .ok (.if_icmp .ge 17, 3) := by decide +kernel
theorem d_M_width_8 : decode b_M_width 8 = .ok (.lload_n 1, 1) := by decide +kernel
theorem d_M_width_9 : decode b_M_width 9 = .ok (.iload_n 3, 1) := by decide +kernel
theorem d_M_width_10 : decode b_M_width 10 = .ok (.lushr, 1) := by decide +kernel
theorem d_M_width_11 : decode b_M_width 11 = .ok (.lconst 0, 1) := by decide +kernel
theorem d_M_width_12 : decode b_M_width 12 = .ok (.lcmp, 1) := by decide +kernel
theorem d_M_width_13 : decode b_M_width 13 = .ok (.ifCond .eq 9, 3) := by decide +kernel
theorem d_M_width_16 : decode b_M_width 16 = .ok (.iinc 3 1, 3) := by decide +kernel
theorem d_M_width_19 : decode b_M_width 19 = .ok (.goto (-17), 3) := by decide +kernel
theorem d_M_width_22 : decode b_M_width 22 = .ok (.iload_n 3, 1) := by decide +kernel
theorem d_M_width_23 : decode b_M_width 23 = .ok (.ireturn, 1) := by decide +kernel
theorem d_M_putLength_0 : decode b_M_putLength 0 = .ok (.aload_n 0, 1) := by decide +kernel
theorem d_M_putLength_1 : decode b_M_putLength 1 = .ok (.iconst 0, 1) := by decide +kernel
theorem d_M_putLength_2 : decode b_M_putLength 2 = .ok (.putfield 14, 3) := by decide +kernel
theorem d_M_putLength_5 : decode b_M_putLength 5 = .ok (.iload_n 1, 1) := by decide +kernel
theorem d_M_putLength_6 : decode b_M_putLength 6 = .ok (.ifCond .ge 9, 3) := by decide +kernel
theorem d_M_putLength_9 : decode b_M_putLength 9 = .ok (.aload_n 0, 1) := by decide +kernel
theorem d_M_putLength_10 : decode b_M_putLength 10 = .ok (.iconst 1, 1) := by decide +kernel
theorem d_M_putLength_11 : decode b_M_putLength 11 = .ok (.invokevirtual 27, 3) := by decide +kernel
theorem d_M_putLength_14 : decode b_M_putLength 14 = .ok (.ireturn, 1) := by decide +kernel
theorem d_M_putLength_15 : decode b_M_putLength 15 = .ok (.iconst 4, 1) := by decide +kernel
theorem d_M_putLength_16 : decode b_M_putLength 16 = .ok (.iload_n 1, 1) := by decide +kernel
theorem d_M_putLength_17 : decode b_M_putLength 17 = .ok (.sipush 16384, 3) := by decide +kernel
theorem d_M_putLength_20 : decode b_M_putLength 20 = .ok (.idiv, 1) := by decide +kernel
theorem d_M_putLength_21 : decode b_M_putLength 21 = .ok (.invokestatic 39, 3) := by decide +kernel
theorem d_M_putLength_24 : decode b_M_putLength 24 = .ok (.istore_n 2, 1) := by decide +kernel
theorem d_M_putLength_25 : decode b_M_putLength 25 = .ok (.iload_n 1, 1) := by decide +kernel
theorem d_M_putLength_26 : decode b_M_putLength 26 = .ok (.sipush 128, 3) := by decide +kernel
theorem d_M_putLength_29 : decode b_M_putLength 29 = .ok (.if_icmp .ge 15, 3) := by decide +kernel
theorem d_M_putLength_32 : decode b_M_putLength 32 = .ok (.aload_n 0, 1) := by decide +kernel
theorem d_M_putLength_33 : decode b_M_putLength 33 = .ok (.iload_n 1, 1) := by decide +kernel
theorem d_M_putLength_34 : decode b_M_putLength 34 = .ok (.i2l, 1) := by decide +kernel
theorem d_M_putLength_35 : decode b_M_putLength 35 = .ok (.bipush 8, 2) := by decide +kernel
theorem d_M_putLength_37 : decode b_M_putLength 37 = .ok (.iconst 2, 1) := by decide +kernel
theorem d_M_putLength_38 : decode b_M_putLength 38 = .ok (.invokevirtual 35, 3) := by decide +kernel
theorem d_M_putLength_41 : decode b_M_putLength 41 = .ok (.goto 39, 3) := by decide +kernel
theorem d_M_putLength_44 : decode b_M_putLength 44 = .ok (.iload_n 1, 1) := by decide +kernel
theorem d_M_putLength_45 : decode b_M_putLength 45 = .ok (.sipush 16384, 3) := by decide +kernel
theorem d_M_putLength_48 : decode b_M_putLength 48 = .ok (.if_icmp .ge 19, 3) := by decide +kernel
theorem d_M_putLength_51 : decode b_M_putLength 51 = .ok (.aload_n 0, 1) := by decide +kernel
theorem d_M_putLength_52 : decode b_M_putLength 52 = .ok (.ldc2_w 45, 3) := by decide +kernel
theorem d_M_putLength_55 : decode b_M_putLength 55 = .ok (.iload_n 1, 1) := by decide +kernel
theorem d_M_putLength_56 : decode b_M_putLength 56 = .ok (.i2l, 1) := by decide +kernel
theorem d_M_putLength_57 : decode b_M_putLength 57 = .ok (.lor, 1) := by decide +kernel
theorem d_M_putLength_58 : decode b_M_putLength 58 = .ok (.bipush 16, 2) := by decide +kernel
theorem d_M_putLength_60 : decode b_M_putLength 60 = .ok (.iconst 2, 1) := by decide +kernel
theorem d_M_putLength_61 : decode b_M_putLength 61 = .ok (.invokevirtual 35, 3) := by decide +kernel
theorem d_M_putLength_64 : decode b_M_putLength 64 = .ok (.goto 16, 3) := by decide +kernel
theorem d_M_putLength_67 : decode b_M_putLength 67 = .ok (.aload_n 0, 1) := by decide +kernel
theorem d_M_putLength_68 : decode b_M_putLength 68 = .ok (.ldc2_w 47, 3) := by decide +kernel
theorem d_M_putLength_71 : decode b_M_putLength 71 = .ok (.iload_n 2, 1) := by decide +kernel
theorem d_M_putLength_72 : decode b_M_putLength 72 = .ok (.i2l, 1) := by decide +kernel
theorem d_M_putLength_73 : decode b_M_putLength 73 = .ok (.lor, 1) := by decide +kernel
theorem d_M_putLength_74 : decode b_M_putLength 74 = .ok (.bipush 8, 2) := by decide +kernel
theorem d_M_putLength_76 : decode b_M_putLength 76 = .ok (.iconst 2, 1) := by decide +kernel
theorem d_M_putLength_77 : decode b_M_putLength 77 = .ok (.invokevirtual 35, 3) := by decide +kernel
theorem d_M_putLength_80 : decode b_M_putLength 80 = .ok (.istore_n 3, 1) := by decide +kernel
theorem d_M_putLength_81 : decode b_M_putLength 81 = .ok (.aload_n 0, 1) := by decide +kernel
theorem d_M_putLength_82 : decode b_M_putLength 82 = .ok (.getfield 14, 3) := by decide +kernel
theorem d_M_putLength_85 : decode b_M_putLength 85 = .ok (.ifCond .le 7, 3) := by decide +kernel
theorem d_M_putLength_88 : decode b_M_putLength 88 = .ok (.iconst 0, 1) := by decide +kernel
theorem d_M_putLength_89 : decode b_M_putLength 89 = .ok (.goto 19, 3) := by decide +kernel
theorem d_M_putLength_92 : decode b_M_putLength 92 = .ok (.iload_n 1, 1) := by decide +kernel
theorem d_M_putLength_93 : decode b_M_putLength 93 = .ok (.sipush 16384, 3) := by decide +kernel
theorem d_M_putLength_96 : decode b_M_putLength 96 = .ok (.if_icmp .ge 7, 3) := by decide +kernel
theorem d_M_putLength_99 : decode b_M_putLength 99 = .ok (.iload_n 1, 1) := by decide +kernel
theorem d_M_putLength_100 : decode b_M_putLength 100 = .ok (.goto 8, 3) := by decide +kernel
theorem d_M_putLength_103 : decode b_M_putLength 103 = .ok (.sipush 16384, 3) := by decide +kernel
theorem d_M_putLength_106 : decode b_M_putLength 106 = .ok (.iload_n 2, 1) := by decide +kernel
theorem d_M_putLength_107 : decode b_M_putLength 107 = .ok (.imul, 1) := by decide +kernel
theorem d_M_putLength_108 : decode b_M_putLength 108 = .ok (.ireturn, 1) := by decide +kernel
theorem d_M_putNumber_0 : decode b_M_putNumber 0 = .ok (.aload_n 0, 1) := by decide +kernel
theorem d_M_putNumber_1 : decode b_M_putNumber 1 = .ok (.iconst 0, 1) := by decide +kernel
theorem d_M_putNumber_2 : decode b_M_putNumber 2 = .ok (.putfield 14, 3) := by decide +kernel
theorem d_M_putNumber_5 : decode b_M_putNumber 5 = .ok (.iload_n 1, 1) := by decide +kernel
theorem d_M_putNumber_6 : decode b_M_putNumber 6 = .ok (.ifCond .lt 8, 3) := by decide +kernel
theorem d_M_putNumber_9 : decode b_M_putNumber 9 = .ok (.iload_n 1, 1) := by decide +kernel
theorem d_M_putNumber_10 : decode b_M_putNumber 10 = .ok (.iconst 2, 1) := by decide +kernel
theorem d_M_putNumber_11 : decode b_M_putNumber 11 = .ok (.if_icmp .le 9, 3) := by decide +kernel
theorem d_M_putNumber_14 : decode b_M_putNumber 14 = .ok (.aload_n 0, 1) := by decide +kernel
theorem d_M_putNumber_15 : decode b_M_putNumber 15 = .ok (.iconst 1, 1) := by decide +kernel
theorem d_M_putNumber_16 : decode b_M_putNumber 16 = .ok (.invokevirtual 27, 3) := by decide +kernel
theorem d_M_putNumber_19 : decode b_M_putNumber 19 = .ok (.ireturn, 1) := by decide +kernel
theorem d_M_putNumber_20 : decode b_M_putNumber 20 = .ok (.iload_n 1, 1) := by decide +kernel
theorem d_M_putNumber_21 : decode b_M_putNumber 21 = .ok (.iconst 2, 1) := by decide +kernel
theorem d_M_putNumber_22 : decode b_M_putNumber 22 = .ok (.if_icmp .ne 21, 3) := by decide +kernel
theorem d_M_putNumber_25 : decode b_M_putNumber 25 = .ok (.lload_n 2, 1) := by decide +kernel
theorem d_M_putNumber_26 : decode b_M_putNumber 26 = .ok (.lconst 0, 1) := by decide +kernel
theorem d_M_putNumber_27 : decode b_M_putNumber 27 = .ok (.lcmp, 1) := by decide +kernel
theorem d_M_putNumber_28 : decode b_M_putNumber 28 = .ok (.ifCond .lt 15, 3) := by decide +kernel
theorem d_M_putNumber_31 : decode b_M_putNumber 31 = .ok (.lload_n 2, 1) := by decide +kernel
theorem d_M_putNumber_32 : decode b_M_putNumber 32 = .ok (.ldc2_w 49, 3) := by decide +kernel
theorem d_M_putNumber_35 : decode b_M_putNumber 35 = .ok (.lcmp, 1) := by decide +kernel
theorem d_M_putNumber_36 : decode b_M_putNumber 36 = .ok (.ifCond .ge 7, 3) := by decide +kernel
theorem d_M_putNumber_39 : decode b_M_putNumber 39 = .ok (.iconst 1, 1) := by decide +kernel
theorem d_M_putNumber_40 : decode b_M_putNumber 40 = .ok (.goto 4, 3) := by decide +kernel
theorem d_M_putNumber_43 : decode b_M_putNumber 43 = .ok (.iconst 0, 1) := by decide +kernel
theorem d_M_putNumber_44 : decode b_M_putNumber 44 = .ok (.istore 4, 2) := by decide +kernel
theorem d_M_putNumber_46 : decode b_M_putNumber 46 = .ok (.iload_n 1, 1) := by decide +kernel
theorem d_M_putNumber_47 : decode b_M_putNumber 47 = .ok (.iconst 1, 1) := by decide +kernel
theorem d_M_putNumber_48 : decode b_M_putNumber 48 = .ok (.if_icmp .ne 11, 3) := by decide +kernel
theorem d_M_putNumber_51 : decode b_M_putNumber 51 = .ok (.aload_n 0, 1) := by decide +kernel
theorem d_M_putNumber_52 : decode b_M_putNumber 52 = .ok (.lload_n 2, 1) := by decide +kernel
theorem d_M_putNumber_53 : decode b_M_putNumber 53 = .ok (.invokevirtual 51, 3) := by decide +kernel
theorem d_M_putNumber_56 : decode b_M_putNumber 56 = .ok (.goto 8, 3) := by decide +kernel
theorem d_M_putNumber_59 : decode b_M_putNumber 59 = .ok (.aload_n 0, 1) := by decide +kernel
theorem d_M_putNumber_60 : decode b_M_putNumber 60 = .ok (.lload_n 2, 1) := by decide +kernel
theorem d_M_putNumber_61 : decode b_M_putNumber 61 = .ok (.invokevirtual 54, 3) := by decide +kernel
theorem d_M_putNumber_64 : decode b_M_putNumber 64 = .ok (.istore 5, 2) := by decide +kernel
theorem d_M_putNumber_66 : decode b_M_putNumber 66 = .ok (.iload 4, 2) := by decide +kernel
theorem d_M_putNumber_68 : decode b_M_putNumber 68 = .ok (.ifCond .eq 8, 3) := by decide +kernel
theorem d_M_putNumber_71 : decode b_M_putNumber 71 = .ok (.bipush 7, 2) := by decide +kernel
theorem d_M_putNumber_73 : decode b_M_putNumber 73 = .ok (.goto 22, 3) := by decide +kernel
theorem d_M_putNumber_76 : decode b_M_putNumber 76 = .ok (.bipush 8, 2) := by decide +kernel
theorem d_M_putNumber_78 : decode b_M_putNumber 78 = .ok (.bipush 8, 2) := by decide +kernel
theorem d_M_putNumber_80 : decode b_M_putNumber 80 = .ok (.iload 5, 2) := by decide +kernel
theorem d_M_putNumber_82 : decode b_M_putNumber 82 = .ok (.imul, 1) := by decide +kernel
theorem d_M_putNumber_83 : decode b_M_putNumber 83 = .ok (.iadd, 1) := by decide +kernel
theorem d_M_putNumber_84 : decode b_M_putNumber 84 = .ok (.iload_n 1, 1) := by decide +kernel
theorem d_M_putNumber_85 : decode b_M_putNumber 85 = .ok (.iconst 2, 1) := by decide +kernel
theorem d_M_putNumber_86 : decode b_M_putNumber 86 = .ok (.if_icmp .ne 7, 3) := by decide +kernel
theorem d_M_putNumber_89 : decode b_M_putNumber 89 = .ok (.iconst 1, 1) := by decide +kernel
theorem d_M_putNumber_90 : decode b_M_putNumber 90 = .ok (.goto 4, 3) := by decide +kernel
theorem d_M_putNumber_93 : decode b_M_putNumber 93 = .ok (.iconst 0, 1) := by decide +kernel
theorem d_M_putNumber_94 : decode b_M_putNumber 94 = .ok (.iadd, 1) := by decide +kernel
theorem d_M_putNumber_95 : decode b_M_putNumber 95 = .ok (.istore 6, 2) := by decide +kernel
theorem d_M_putNumber_97 : decode b_M_putNumber 97 = .ok (.aload_n 0, 1) := by decide +kernel
theorem d_M_putNumber_98 : decode b_M_putNumber 98 = .ok (.getfield 24, 3) := by decide +kernel
theorem d_M_putNumber_101 : decode b_M_putNumber 101 = .ok (.iload 6, 2) := by decide +kernel
theorem d_M_putNumber_103 : decode b_M_putNumber 103 = .ok (.iadd, 1) := by decide +kernel
theorem d_M_putNumber_104 : decode b_M_putNumber 104 = .ok (.ldc 7, 2) := by decide +kernel
theorem d_M_putNumber_106 : decode b_M_putNumber 106 = .ok (.if_icmp .le 9, 3) := by decide +kernel
theorem d_M_putNumber_109 : decode b_M_putNumber 109 = .ok (.aload_n 0, 1) := by decide +kernel
theorem d_M_putNumber_110 : decode b_M_putNumber 110 = .ok (.iconst 2, 1) := by decide +kernel
theorem d_M_putNumber_111 : decode b_M_putNumber 111 = .ok (.invokevirtual 27, 3) := by decide +kernel
theorem d_M_putNumber_114 : decode b_M_putNumber 114 = .ok (.ireturn, 1) := by decide +kernel
theorem d_M_putNumber_115 : decode b_M_putNumber 115 = .ok (.iload 4, 2) := by decide +kernel
theorem d_M_putNumber_117 : decode b_M_putNumber 117 = .ok (.ifCond .eq 13, 3) := by decide +kernel
theorem d_M_putNumber_120 : decode b_M_putNumber 120 = .ok (.aload_n 0, 1) := by decide +kernel
theorem d_M_putNumber_121 : decode b_M_putNumber 121 = .ok (.lload_n 2, 1) := by decide +kernel
theorem d_M_putNumber_122 : decode b_M_putNumber 122 = .ok (.bipush 7, 2) := by decide +kernel
theorem d_M_putNumber_124 : decode b_M_putNumber 124 = .ok (.invokevirtual 31, 3) := by decide +kernel
theorem d_M_putNumber_127 : decode b_M_putNumber 127 = .ok (.goto 33, 3) := by decide +kernel
theorem d_M_putNumber_130 : decode b_M_putNumber 130 = .ok (.iload_n 1, 1) := by decide +kernel
theorem d_M_putNumber_131 : decode b_M_putNumber 131 = .ok (.iconst 2, 1) := by decide +kernel
theorem d_M_putNumber_132 : decode b_M_putNumber 132 = .ok (.if_icmp .ne 9, 3) := by decide +kernel
theorem d_M_putNumber_135 : decode b_M_putNumber 135 = .ok (.aload_n 0, 1) := by decide +kernel
theorem d_M_putNumber_136 : decode b_M_putNumber 136 = .ok (.lconst 1, 1) := by decide +kernel
theorem d_M_putNumber_137 : decode b_M_putNumber 137 = .ok (.iconst 1, 1) := by decide +kernel
theorem d_M_putNumber_138 : decode b_M_putNumber 138 = .ok (.invokevirtual 31, 3) := by decide +kernel
theorem d_M_putNumber_141 : decode b_M_putNumber 141 = .ok (.aload_n 0, 1) := by decide +kernel
theorem d_M_putNumber_142 : decode b_M_putNumber 142 = .ok (.iload 5, 2) := by decide +kernel
theorem d_M_putNumber_144 : decode b_M_putNumber 144 = .ok (.i2l, 1) := by decide +kernel
theorem d_M_putNumber_145 : decode b_M_putNumber 145 = .ok (.bipush 8, 2) := by decide +kernel
theorem d_M_putNumber_147 : decode b_M_putNumber 147 = .ok (.invokevirtual 31, 3) := by decide +kernel
theorem d_M_putNumber_150 : decode b_M_putNumber 150 = .ok (.aload_n 0, 1) := by decide +kernel
theorem d_M_putNumber_151 : decode b_M_putNumber 151 = .ok (.lload_n 2, 1) := by decide +kernel
theorem d_M_putNumber_152 : decode b_M_putNumber 152 = .ok (.bipush 8, 2) := by decide +kernel
theorem d_M_putNumber_154 : decode b_M_putNumber 154 = .ok (.iload 5, 2) := by decide +kernel
theorem d_M_putNumber_156 : decode b_M_putNumber 156 = .ok (.imul, 1) := by decide +kernel
theorem d_M_putNumber_157 : decode b_M_putNumber 157 = .ok (.invokevirtual 31, 3) := by decide +kernel
theorem d_M_putNumber_160 : decode b_M_putNumber 160 = .ok (.aload_n 0, 1) := by decide +kernel
theorem d_M_putNumber_161 : decode b_M_putNumber 161 = .ok (.getfield 24, 3) := by decide +kernel
theorem d_M_putNumber_164 : decode b_M_putNumber 164 = .ok (.ireturn, 1) := by decide +kernel
theorem d_M_complement_0 : decode b_M_complement 0 = .ok (.iconst 1, 1) := by decide +kernel
theorem d_M_complement_1 : decode b_M_complement 1 = .ok (.istore_n 3, 1) := by decide +kernel
theorem d_M_complement_2 : decode b_M_complement 2 = .ok (.iload_n 3, 1) := by decide +kernel
theorem d_M_complement_3 : decode b_M_complement 3 = .ok (.bipush 8, 2) := by decide +kernel
theorem d_M_complement_5 : decode b_M_complement 5 = .ok (.if_icmp .ge 37, 3) := by decide +kernel
theorem d_M_complement_8 : decode b_M_complement 8 = .ok (.lload_n 1, 1) := by decide +kernel
theorem d_M_complement_9 : decode b_M_complement 9 = .ok (.bipush 8, 2) := by decide +kernel
theorem d_M_complement_11 : decode b_M_complement 11 = .ok (.iload_n 3, 1) := by decide +kernel
theorem d_M_complement_12 : decode b_M_complement 12 = .ok (.imul, 1) := by decide +kernel
theorem d_M_complement_13 : decode b_M_complement 13 = .ok (.iconst 1, 1) := by decide +kernel
theorem d_M_complement_14 : decode b_M_complement 14 = .ok (.isub, 1) := by decide +kernel
theorem d_M_complement_15 : decode b_M_complement 15 = .ok (.lshr, 1) := by decide +kernel
theorem d_M_complement_16 : decode b_M_complement 16 = .ok (.lconst 0, 1) := by decide +kernel
theorem d_M_complement_17 : decode b_M_complement 17 = .ok (.lcmp, 1) := by decide +kernel
theorem d_M_complement_18 : decode b_M_complement 18 = .ok (.ifCond .eq 24, 3) := by decide +kernel
theorem d_M_complement_21 : decode b_M_complement 21 = .ok (.lload_n 1, 1) := by decide +kernel
theorem d_M_complement_22 : decode b_M_complement 22 = .ok (.bipush 8, 2) := by decide +kernel
theorem d_M_complement_24 : decode b_M_complement 24 = .ok (.iload_n 3, 1) := by decide +kernel
theorem d_M_complement_25 : decode b_M_complement 25 = .ok (.imul, 1) := by decide +kernel
theorem d_M_complement_26 : decode b_M_complement 26 = .ok (.iconst 1, 1) := by decide +kernel
theorem d_M_complement_27 : decode b_M_complement 27 = .ok (.isub, 1) := by decide +kernel
theorem d_M_complement_28 : decode b_M_complement 28 = .ok (.lshr, 1) := by decide +kernel
theorem d_M_complement_29 : decode b_M_complement 29 = .ok (.ldc2_w 22, 3) := by decide +kernel
theorem d_M_complement_32 : decode b_M_complement 32 = .ok (.lcmp, 1) := by decide +kernel
theorem d_M_complement_33 : decode b_M_complement 33 = .ok (.ifCond .eq 9, 3) := by decide +kernel
theorem d_M_complement_36 : decode b_M_complement 36 = .ok (.iinc 3 1, 3) := by decide +kernel
theorem d_M_complement_39 : decode b_M_complement 39 = .ok (.goto (-37), 3) := by decide +kernel
theorem d_M_complement_42 : decode b_M_complement 42 = .ok (.iload_n 3, 1) := by decide +kernel
theorem d_M_complement_43 : decode b_M_complement 43 = .ok (.ireturn, 1) := by decide +kernel
theorem d_M_bytesOf_0 : decode b_M_bytesOf 0 = .ok (.aload_n 0, 1) := by decide +kernel
theorem d_M_bytesOf_1 : decode b_M_bytesOf 1 = .ok (.lload_n 1, 1) := by decide +kernel
theorem d_M_bytesOf_2 : decode b_M_bytesOf 2 = .ok (.invokevirtual 18, 3) := by decide +kernel
theorem d_M_bytesOf_5 : decode b_M_bytesOf 5 = .ok (.ifCond .ne 7, 3) := by decide +kernel
theorem d_M_bytesOf_8 : decode b_M_bytesOf 8 = .ok (.iconst 1, 1) := by decide +kernel
theorem d_M_bytesOf_9 : decode b_M_bytesOf 9 = .ok (.goto 14, 3) := by decide +kernel
theorem d_M_bytesOf_12 : decode b_M_bytesOf 12 = .ok (.aload_n 0, 1) := by decide +kernel
theorem d_M_bytesOf_13 : decode b_M_bytesOf 13 = .ok (.lload_n 1, 1) := by decide +kernel
theorem d_M_bytesOf_14 : decode b_M_bytesOf 14 = .ok (.invokevirtual 18, 3) := by decide +kernel
theorem d_M_bytesOf_17 : decode b_M_bytesOf 17 = .ok (.bipush 7, 2) := by decide +kernel
theorem d_M_bytesOf_19 : decode b_M_bytesOf 19 = .ok (.iadd, 1) := by decide +kernel
theorem d_M_bytesOf_20 : decode b_M_bytesOf 20 = .ok (.bipush 8, 2) := by decide +kernel
theorem d_M_bytesOf_22 : decode b_M_bytesOf 22 = .ok (.idiv, 1) := by decide +kernel
theorem d_M_bytesOf_23 : decode b_M_bytesOf 23 = .ok (.ireturn, 1) := by decide +kernel
theorem d_M_fill_0 : decode b_M_fill 0 = .ok (.aload_n 0, 1) := by decide +kernel
theorem d_M_fill_1 : decode b_M_fill 1 = .ok (.iconst 0, 1) := by decide +kernel
theorem d_M_fill_2 : decode b_M_fill 2 = .ok (.putfield 14, 3) := by decide +kernel
theorem d_M_fill_5 : decode b_M_fill 5 = .ok (.aload_n 0, 1) := by decide +kernel
theorem d_M_fill_6 : decode b_M_fill 6 = .ok (.getfield 24, 3) := by decide +kernel
theorem d_M_fill_9 : decode b_M_fill 9 = .ok (.ifCond .ne 8, 3) := by decide +kernel
theorem d_M_fill_12 : decode b_M_fill 12 = .ok (.bipush 8, 2) := by decide +kernel
theorem d_M_fill_14 : decode b_M_fill 14 = .ok (.goto 16, 3) := by decide +kernel
theorem d_M_fill_17 : decode b_M_fill 17 = .ok (.bipush 8, 2) := by decide +kernel
theorem d_M_fill_19 : decode b_M_fill 19 = .ok (.aload_n 0, 1) := by decide +kernel
theorem d_M_fill_20 : decode b_M_fill 20 = .ok (.getfield 24, 3) := by decide +kernel
theorem d_M_fill_23 : decode b_M_fill 23 = .ok (.bipush 8, 2) := by decide +kernel
theorem d_M_fill_25 : decode b_M_fill 25 = .ok (.irem, 1) := by decide +kernel
theorem d_M_fill_26 : decode b_M_fill 26 = .ok (.isub, 1) := by decide +kernel
theorem d_M_fill_27 : decode b_M_fill 27 = .ok (.bipush 8, 2) := by decide +kernel
theorem d_M_fill_29 : decode b_M_fill 29 = .ok (.irem, 1) := by decide +kernel
theorem d_M_fill_30 : decode b_M_fill 30 = .ok (.istore_n 1, 1) := by decide +kernel
theorem d_M_fill_31 : decode b_M_fill 31 = .ok (.aload_n 0, 1) := by decide +kernel
theorem d_M_fill_32 : decode b_M_fill 32 = .ok (.lconst 0, 1) := by decide +kernel
theorem d_M_fill_33 : decode b_M_fill 33 = .ok (.iload_n 1, 1) := by decide +kernel
theorem d_M_fill_34 : decode b_M_fill 34 = .ok (.iconst 1, 1) := by decide +kernel
theorem d_M_fill_35 : decode b_M_fill 35 = .ok (.invokevirtual 35, 3) := by decide +kernel
theorem d_M_fill_38 : decode b_M_fill 38 = .ok (.ireturn, 1) := by decide +kernel
theorem d_M_take_0 : decode b_M_take 0 = .ok (.aload_n 0, 1) := by decide +kernel
theorem d_M_take_1 : decode b_M_take 1 = .ok (.invokevirtual 67, 3) := by decide +kernel
theorem d_M_take_4 : decode b_M_take 4 = .ok (.iload_n 1, 1) := by decide +kernel
theorem d_M_take_5 : decode b_M_take 5 = .ok (.ifCond .lt 9, 3) := by decide +kernel
theorem d_M_take_8 : decode b_M_take 8 = .ok (.iload_n 1, 1) := by decide +kernel
theorem d_M_take_9 : decode b_M_take 9 = .ok (.bipush 64, 2) := by decide +kernel
theorem d_M_take_11 : decode b_M_take 11 = .ok (.if_icmp .le 10, 3) := by decide +kernel
theorem d_M_take_14 : decode b_M_take 14 = .ok (.aload_n 0, 1) := by decide +kernel
theorem d_M_take_15 : decode b_M_take 15 = .ok (.iconst 1, 1) := by decide +kernel
theorem d_M_take_16 : decode b_M_take 16 = .ok (.invokevirtual 27, 3) := by decide +kernel
theorem d_M_take_19 : decode b_M_take 19 = .ok (.i2l, 1) := by decide +kernel
theorem d_M_take_20 : decode b_M_take 20 = .ok (.lreturn, 1) := by decide +kernel
theorem d_M_take_21 : decode b_M_take 21 = .ok (.aload_n 0, 1) := by decide +kernel
theorem d_M_take_22 : decode b_M_take 22 = .ok (.aload_n 0, 1) := by decide +kernel
theorem d_M_take_23 : decode b_M_take 23 = .ok (.iload_n 1, 1) := by decide +kernel
theorem d_M_take_24 : decode b_M_take 24 = .ok (.invokevirtual 70, 3) := by decide +kernel
theorem d_M_take_27 : decode b_M_take 27 = .ok (.iconst 2, 1) := by decide +kernel
theorem d_M_take_28 : decode b_M_take 28 = .ok (.invokevirtual 74, 3) := by decide +kernel
theorem d_M_take_31 : decode b_M_take 31 = .ok (.lreturn, 1) := by decide +kernel
theorem d_M_begin_0 : decode b_M_begin 0 = .ok (.aload_n 0, 1) := by decide +kernel
theorem d_M_begin_1 : decode b_M_begin 1 = .ok (.iconst 0, 1) := by decide +kernel
theorem d_M_begin_2 : decode b_M_begin 2 = .ok (.putfield 14, 3) := by decide +kernel
theorem d_M_begin_5 : decode b_M_begin 5 = .ok (.aload_n 0, 1) := by decide +kernel
theorem d_M_begin_6 : decode b_M_begin 6 = .ok (.aload_n 0, 1) := by decide +kernel
theorem d_M_begin_7 : decode b_M_begin 7 = .ok (.getfield 64, 3) := by decide +kernel
theorem d_M_begin_10 : decode b_M_begin 10 = .ok (.putfield 57, 3) := by decide +kernel
theorem d_M_begin_13 : decode b_M_begin 13 = .ok (.aload_n 0, 1) := by decide +kernel
theorem d_M_begin_14 : decode b_M_begin 14 = .ok (.iconst 1, 1) := by decide +kernel
theorem d_M_begin_15 : decode b_M_begin 15 = .ok (.putfield 60, 3) := by decide +kernel
theorem d_M_begin_18 : decode b_M_begin 18 = .ok (.return_, 1) := by decide +kernel
theorem d_M_get_0 : decode b_M_get 0 = .ok (.aload_n 0, 1) := by decide +kernel
theorem d_M_get_1 : decode b_M_get 1 = .ok (.getfield 57, 3) := by decide +kernel
theorem d_M_get_4 : decode b_M_get 4 = .ok (.iload_n 1, 1) := by decide +kernel
theorem d_M_get_5 : decode b_M_get 5 = .ok (.iadd, 1) := by decide +kernel
theorem d_M_get_6 : decode b_M_get 6 = .ok (.aload_n 0, 1) := by decide +kernel
theorem d_M_get_7 : decode b_M_get 7 = .ok (.getfield 24, 3) := by decide +kernel
theorem d_M_get_10 : decode b_M_get 10 = .ok (.if_icmp .le 8, 3) := by decide +kernel
theorem d_M_get_13 : decode b_M_get 13 = .ok (.aload_n 0, 1) := by decide +kernel
theorem d_M_get_14 : decode b_M_get 14 = .ok (.iconst 0, 1) := by decide +kernel
theorem d_M_get_15 : decode b_M_get 15 = .ok (.putfield 60, 3) := by decide +kernel
theorem d_M_get_18 : decode b_M_get 18 = .ok (.lconst 0, 1) := by decide +kernel
theorem d_M_get_19 : decode b_M_get 19 = .ok (.lstore_n 2, 1) := by decide +kernel
theorem d_M_get_20 : decode b_M_get 20 = .ok (.iconst 0, 1) := by decide +kernel
theorem d_M_get_21 : decode b_M_get 21 = .ok (.istore 4, 2) := by decide +kernel
theorem d_M_get_23 : decode b_M_get 23 = .ok (.iload 4, 2) := by decide +kernel
theorem d_M_get_25 : decode b_M_get 25 = .ok (.iload_n 1, 1) := by decide +kernel
theorem d_M_get_26 : decode b_M_get 26 = .ok (.if_icmp .ge 48, 3) := by decide +kernel
theorem d_M_get_29 : decode b_M_get 29 = .ok (.aload_n 0, 1) := by decide +kernel
theorem d_M_get_30 : decode b_M_get 30 = .ok (.getfield 60, 3) := by decide +kernel
theorem d_M_get_33 : decode b_M_get 33 = .ok (.ifCond .eq 41, 3) := by decide +kernel
theorem d_M_get_36 : decode b_M_get 36 = .ok (.lload_n 2, 1) := by decide +kernel
theorem d_M_get_37 : decode b_M_get 37 = .ok (.iconst 1, 1) := by decide +kernel
theorem d_M_get_38 : decode b_M_get 38 = .ok (.lshl, 1) := by decide +kernel
theorem d_M_get_39 : decode b_M_get 39 = .ok (.aload_n 0, 1) := by decide +kernel
theorem d_M_get_40 : decode b_M_get 40 = .ok (.getfield 8, 3) := by decide +kernel
theorem d_M_get_43 : decode b_M_get 43 = .ok (.aload_n 0, 1) := by decide +kernel
theorem d_M_get_44 : decode b_M_get 44 = .ok (.getfield 57, 3) := by decide +kernel
theorem d_M_get_47 : decode b_M_get 47 = .ok (.baload, 1) := by decide +kernel
theorem d_M_get_48 : decode b_M_get 48 = .ok (.ifCond .eq 7, 3) := by decide +kernel
theorem d_M_get_51 : decode b_M_get 51 = .ok (.lconst 1, 1) := by decide +kernel
theorem d_M_get_52 : decode b_M_get 52 = .ok (.goto 4, 3) := by decide +kernel
theorem d_M_get_55 : decode b_M_get 55 = .ok (.lconst 0, 1) := by decide +kernel
theorem d_M_get_56 : decode b_M_get 56 = .ok (.lor, 1) := by decide +kernel
theorem d_M_get_57 : decode b_M_get 57 = .ok (.lstore_n 2, 1) := by decide +kernel
theorem d_M_get_58 : decode b_M_get 58 = .ok (.aload_n 0, 1) := by decide +kernel
theorem d_M_get_59 : decode b_M_get 59 = .ok (.dup, 1) := by decide +kernel
theorem d_M_get_60 : decode b_M_get 60 = .ok (.getfield 57, 3) := by decide +kernel
theorem d_M_get_63 : decode b_M_get 63 = .ok (.iconst 1, 1) := by decide +kernel
theorem d_M_get_64 : decode b_M_get 64 = .ok (.iadd, 1) := by decide +kernel
theorem d_M_get_65 : decode b_M_get 65 = .ok (.putfield 57, 3) := by decide +kernel
theorem d_M_get_68 : decode b_M_get 68 = .ok (.iinc 4 1, 3) := by decide +kernel
theorem d_M_get_71 : decode b_M_get 71 = .ok (.goto (-48), 3) := by decide +kernel
theorem d_M_get_74 : decode b_M_get 74 = .ok (.lload_n 2, 1) := by decide +kernel
theorem d_M_get_75 : decode b_M_get 75 = .ok (.lreturn, 1) := by decide +kernel
theorem d_M_done_0 : decode b_M_done 0 = .ok (.aload_n 0, 1) := by decide +kernel
theorem d_M_done_1 : decode b_M_done 1 = .ok (.getfield 60, 3) := by decide +kernel
theorem d_M_done_4 : decode b_M_done 4 = .ok (.ifCond .ne 10, 3) := by decide +kernel
theorem d_M_done_7 : decode b_M_done 7 = .ok (.aload_n 0, 1) := by decide +kernel
theorem d_M_done_8 : decode b_M_done 8 = .ok (.iload_n 3, 1) := by decide +kernel
theorem d_M_done_9 : decode b_M_done 9 = .ok (.invokevirtual 27, 3) := by decide +kernel
theorem d_M_done_12 : decode b_M_done 12 = .ok (.i2l, 1) := by decide +kernel
theorem d_M_done_13 : decode b_M_done 13 = .ok (.lreturn, 1) := by decide +kernel
theorem d_M_done_14 : decode b_M_done 14 = .ok (.aload_n 0, 1) := by decide +kernel
theorem d_M_done_15 : decode b_M_done 15 = .ok (.aload_n 0, 1) := by decide +kernel
theorem d_M_done_16 : decode b_M_done 16 = .ok (.getfield 57, 3) := by decide +kernel
theorem d_M_done_19 : decode b_M_done 19 = .ok (.putfield 64, 3) := by decide +kernel
theorem d_M_done_22 : decode b_M_done 22 = .ok (.lload_n 1, 1) := by decide +kernel
theorem d_M_done_23 : decode b_M_done 23 = .ok (.lreturn, 1) := by decide +kernel
theorem d_M_takeRange_0 : decode b_M_takeRange 0 = .ok (.aload_n 0, 1) := by decide +kernel
theorem d_M_takeRange_1 : decode b_M_takeRange 1 = .ok (.invokevirtual 67, 3) := by decide +kernel
theorem d_M_takeRange_4 : decode b_M_takeRange 4 = .ok (.lload_n 1, 1) := by decide +kernel
theorem d_M_takeRange_5 : decode b_M_takeRange 5 = .ok (.lload_n 3, 1) := by decide +kernel
theorem d_M_takeRange_6 : decode b_M_takeRange 6 = .ok (.lcmp, 1) := by decide +kernel
theorem d_M_takeRange_7 : decode b_M_takeRange 7 = .ok (.ifCond .le 10, 3) := by decide +kernel
theorem d_M_takeRange_10 : decode b_M_takeRange 10 = .ok (.aload_n 0, 1) := by decide +kernel
theorem d_M_takeRange_11 : decode b_M_takeRange 11 = .ok (.iconst 1, 1) := by decide +kernel
theorem d_M_takeRange_12 : decode b_M_takeRange 12 = .ok (.invokevirtual 27, 3) := by decide +kernel
theorem d_M_takeRange_15 : decode b_M_takeRange 15 = .ok (.i2l, 1) := by decide +kernel
theorem d_M_takeRange_16 : decode b_M_takeRange 16 = .ok (.lreturn, 1) := by decide +kernel
theorem d_M_takeRange_17 : decode b_M_takeRange 17 = .ok (.lload_n 3, 1) := by decide +kernel
theorem d_M_takeRange_18 : decode b_M_takeRange 18 = .ok (.lload_n 1, 1) := by decide +kernel
theorem d_M_takeRange_19 : decode b_M_takeRange 19 = .ok (.lsub, 1) := by decide +kernel
theorem d_M_takeRange_20 : decode b_M_takeRange 20 = .ok (.lstore 5, 2) := by decide +kernel
theorem d_M_takeRange_22 : decode b_M_takeRange 22 = .ok (.aload_n 0, 1) := by decide +kernel
theorem d_M_takeRange_23 : decode b_M_takeRange 23 = .ok (.aload_n 0, 1) := by decide +kernel
theorem d_M_takeRange_24 : decode b_M_takeRange 24 = .ok (.lload 5, 2) := by decide +kernel
theorem d_M_takeRange_26 : decode b_M_takeRange 26 = .ok (.invokevirtual 18, 3) := by decide +kernel
theorem d_M_takeRange_29 : decode b_M_takeRange 29 = .ok (.invokevirtual 70, 3) := by decide +kernel
theorem d_M_takeRange_32 : decode b_M_takeRange 32 = .ok (.lstore 7, 2) := by decide +kernel
theorem d_M_takeRange_34 : decode b_M_takeRange 34 = .ok (.lload 7, 2) := by decide +kernel
theorem d_M_takeRange_36 : decode b_M_takeRange 36 = .ok (.lconst 0, 1) := by decide +kernel
theorem d_M_takeRange_37 : decode b_M_takeRange 37 = .ok (.lcmp, 1) := by decide +kernel
theorem d_M_takeRange_38 : decode b_M_takeRange 38 = .ok (.ifCond .ge 21, 3) := by decide +kernel
theorem d_M_takeRange_41 : decode b_M_takeRange 41 = .ok (.lload 5, 2) := by decide +kernel
theorem d_M_takeRange_43 : decode b_M_takeRange 43 = .ok (.lconst 0, 1) := by decide +kernel
theorem d_M_takeRange_44 : decode b_M_takeRange 44 = .ok (.lcmp, 1) := by decide +kernel
theorem d_M_takeRange_45 : decode b_M_takeRange 45 = .ok (.ifCond .ge 29, 3) := by decide +kernel
theorem d_M_takeRange_48 : decode b_M_takeRange 48 = .ok (.lload 7, 2) := by decide +kernel
theorem d_M_takeRange_50 : decode b_M_takeRange 50 = .ok (.lload 5, 2) := by decide +kernel
theorem d_M_takeRange_52 : decode b_M_takeRange 52 = .ok (.lcmp, 1) := by decide +kernel
theorem d_M_takeRange_53 : decode b_M_takeRange 53 = .ok (.ifCond .le 26, 3) := by decide +kernel
theorem d_M_takeRange_56 : decode b_M_takeRange 56 = .ok (.goto 18, 3) := by decide +kernel
theorem d_M_takeRange_59 : decode b_M_takeRange 59 = .ok (.lload 5, 2) := by decide +kernel
theorem d_M_takeRange_61 : decode b_M_takeRange 61 = .ok (.lconst 0, 1) := by decide +kernel
theorem d_M_takeRange_62 : decode b_M_takeRange 62 = .ok (.lcmp, 1) := by decide +kernel
theorem d_M_takeRange_63 : decode b_M_takeRange 63 = .ok (.ifCond .lt 16, 3) := by decide +kernel
theorem d_M_takeRange_66 : decode b_M_takeRange 66 = .ok (.lload 7, 2) := by decide +kernel
theorem d_M_takeRange_68 : decode b_M_takeRange 68 = .ok (.lload 5, 2) := by decide +kernel
theorem d_M_takeRange_70 : decode b_M_takeRange 70 = .ok (.lcmp, 1) := by decide +kernel
theorem d_M_takeRange_71 : decode b_M_takeRange 71 = .ok (.ifCond .le 8, 3) := by decide +kernel
theorem d_M_takeRange_74 : decode b_M_takeRange 74 = .ok (.aload_n 0, 1) := by decide +kernel
theorem d_M_takeRange_75 : decode b_M_takeRange 75 = .ok (.iconst 0, 1) := by decide +kernel
theorem d_M_takeRange_76 : decode b_M_takeRange 76 = .ok (.putfield 60, 3) := by decide +kernel
theorem d_M_takeRange_79 : decode b_M_takeRange 79 = .ok (.aload_n 0, 1) := by decide +kernel
theorem d_M_takeRange_80 : decode b_M_takeRange 80 = .ok (.lload_n 1, 1) := by decide +kernel
theorem d_M_takeRange_81 : decode b_M_takeRange 81 = .ok (.lload 7, 2) := by decide +kernel
theorem d_M_takeRange_83 : decode b_M_takeRange 83 = .ok (.ladd, 1) := by decide +kernel
theorem d_M_takeRange_84 : decode b_M_takeRange 84 = .ok (.iconst 2, 1) := by decide +kernel
theorem d_M_takeRange_85 : decode b_M_takeRange 85 = .ok (.invokevirtual 74, 3) := by decide +kernel
theorem d_M_takeRange_88 : decode b_M_takeRange 88 = .ok (.lreturn, 1) := by decide +kernel
theorem d_M_takeLength_0 : decode b_M_takeLength 0 = .ok (.aload_n 0, 1) := by decide +kernel
theorem d_M_takeLength_1 : decode b_M_takeLength 1 = .ok (.invokevirtual 67, 3) := by decide +kernel
theorem d_M_takeLength_4 : decode b_M_takeLength 4 = .ok (.aload_n 0, 1) := by decide +kernel
theorem d_M_takeLength_5 : decode b_M_takeLength 5 = .ok (.aload_n 0, 1) := by decide +kernel
theorem d_M_takeLength_6 : decode b_M_takeLength 6 = .ok (.invokevirtual 78, 3) := by decide +kernel
theorem d_M_takeLength_9 : decode b_M_takeLength 9 = .ok (.i2l, 1) := by decide +kernel
theorem d_M_takeLength_10 : decode b_M_takeLength 10 = .ok (.iconst 1, 1) := by decide +kernel
theorem d_M_takeLength_11 : decode b_M_takeLength 11 = .ok (.invokevirtual 74, 3) := by decide +kernel
theorem d_M_takeLength_14 : decode b_M_takeLength 14 = .ok (.l2i, 1) := by decide +kernel
theorem d_M_takeLength_15 : decode b_M_takeLength 15 = .ok (.ireturn, 1) := by decide +kernel
theorem d_M_length_0 : decode b_M_length 0 = .ok (.aload_n 0, 1) := by decide +kernel
theorem d_M_length_1 : decode b_M_length 1 = .ok (.iconst 1, 1) := by decide +kernel
theorem d_M_length_2 : decode b_M_length 2 = .ok (.invokevirtual 70, 3) := by decide +kernel
theorem d_M_length_5 : decode b_M_length 5 = .ok (.lconst 0, 1) := by decide +kernel
theorem d_M_length_6 : decode b_M_length 6 = .ok (.lcmp, 1) := by decide +kernel
theorem d_M_length_7 : decode b_M_length 7 = .ok (.ifCond .ne 11, 3) := by decide +kernel
theorem d_M_length_10 : decode b_M_length 10 = .ok (.aload_n 0, 1) := by decide +kernel
theorem d_M_length_11 : decode b_M_length 11 = .ok (.bipush 7, 2) := by decide +kernel
theorem d_M_length_13 : decode b_M_length 13 = .ok (.invokevirtual 70, 3) := by decide +kernel
theorem d_M_length_16 : decode b_M_length 16 = .ok (.l2i, 1) := by decide +kernel
theorem d_M_length_17 : decode b_M_length 17 = .ok (.ireturn, 1) := by decide +kernel
theorem d_M_length_18 : decode b_M_length 18 = .ok (.aload_n 0, 1) := by decide +kernel
theorem d_M_length_19 : decode b_M_length 19 = .ok (.iconst 1, 1) := by decide +kernel
theorem d_M_length_20 : decode b_M_length 20 = .ok (.invokevirtual 70, 3) := by decide +kernel
theorem d_M_length_23 : decode b_M_length 23 = .ok (.lconst 0, 1) := by decide +kernel
theorem d_M_length_24 : decode b_M_length 24 = .ok (.lcmp, 1) := by decide +kernel
theorem d_M_length_25 : decode b_M_length 25 = .ok (.ifCond .ne 25, 3) := by decide +kernel
theorem d_M_length_28 : decode b_M_length 28 = .ok (.aload_n 0, 1) := by decide +kernel
theorem d_M_length_29 : decode b_M_length 29 = .ok (.bipush 14, 2) := by decide +kernel
theorem d_M_length_31 : decode b_M_length 31 = .ok (.invokevirtual 70, 3) := by decide +kernel
theorem d_M_length_34 : decode b_M_length 34 = .ok (.l2i, 1) := by decide +kernel
theorem d_M_length_35 : decode b_M_length 35 = .ok (.istore_n 1, 1) := by decide +kernel
theorem d_M_length_36 : decode b_M_length 36 = .ok (.iload_n 1, 1) := by decide +kernel
theorem d_M_length_37 : decode b_M_length 37 = .ok (.sipush 128, 3) := by decide +kernel
theorem d_M_length_40 : decode b_M_length 40 = .ok (.if_icmp .ge 8, 3) := by decide +kernel
theorem d_M_length_43 : decode b_M_length 43 = .ok (.aload_n 0, 1) := by decide +kernel
theorem d_M_length_44 : decode b_M_length 44 = .ok (.iconst 0, 1) := by decide +kernel
theorem d_M_length_45 : decode b_M_length 45 = .ok (.putfield 60, 3) := by decide +kernel
theorem d_M_length_48 : decode b_M_length 48 = .ok (.iload_n 1, 1) := by decide +kernel
theorem d_M_length_49 : decode b_M_length 49 = .ok (.ireturn, 1) := by decide +kernel
theorem d_M_length_50 : decode b_M_length 50 = .ok (.aload_n 0, 1) := by decide +kernel
theorem d_M_length_51 : decode b_M_length 51 = .ok (.bipush 6, 2) := by decide +kernel
theorem d_M_length_53 : decode b_M_length 53 = .ok (.invokevirtual 70, 3) := by decide +kernel
theorem d_M_length_56 : decode b_M_length 56 = .ok (.l2i, 1) := by decide +kernel
theorem d_M_length_57 : decode b_M_length 57 = .ok (.istore_n 1, 1) := by decide +kernel
theorem d_M_length_58 : decode b_M_length 58 = .ok (.iload_n 1, 1) := by decide +kernel
theorem d_M_length_59 : decode b_M_length 59 = .ok (.iconst 1, 1) := by decide +kernel
theorem d_M_length_60 : decode b_M_length 60 = .ok (.if_icmp .lt 8, 3) := by decide +kernel
theorem d_M_length_63 : decode b_M_length 63 = .ok (.iload_n 1, 1) := by decide +kernel
theorem d_M_length_64 : decode b_M_length 64 = .ok (.iconst 4, 1) := by decide +kernel
theorem d_M_length_65 : decode b_M_length 65 = .ok (.if_icmp .le 8, 3) := by decide +kernel
theorem d_M_length_68 : decode b_M_length 68 = .ok (.aload_n 0, 1) := by decide +kernel
theorem d_M_length_69 : decode b_M_length 69 = .ok (.iconst 0, 1) := by decide +kernel
theorem d_M_length_70 : decode b_M_length 70 = .ok (.putfield 60, 3) := by decide +kernel
theorem d_M_length_73 : decode b_M_length 73 = .ok (.sipush 16384, 3) := by decide +kernel
theorem d_M_length_76 : decode b_M_length 76 = .ok (.iload_n 1, 1) := by decide +kernel
theorem d_M_length_77 : decode b_M_length 77 = .ok (.imul, 1) := by decide +kernel
theorem d_M_length_78 : decode b_M_length 78 = .ok (.ireturn, 1) := by decide +kernel
theorem d_M_takeNumber_0 : decode b_M_takeNumber 0 = .ok (.aload_n 0, 1) := by decide +kernel
theorem d_M_takeNumber_1 : decode b_M_takeNumber 1 = .ok (.invokevirtual 67, 3) := by decide +kernel
theorem d_M_takeNumber_4 : decode b_M_takeNumber 4 = .ok (.iload_n 1, 1) := by decide +kernel
theorem d_M_takeNumber_5 : decode b_M_takeNumber 5 = .ok (.ifCond .lt 8, 3) := by decide +kernel
theorem d_M_takeNumber_8 : decode b_M_takeNumber 8 = .ok (.iload_n 1, 1) := by decide +kernel
theorem d_M_takeNumber_9 : decode b_M_takeNumber 9 = .ok (.iconst 2, 1) := by decide +kernel
theorem d_M_takeNumber_10 : decode b_M_takeNumber 10 = .ok (.if_icmp .le 10, 3) := by decide +kernel
theorem d_M_takeNumber_13 : decode b_M_takeNumber 13 = .ok (.aload_n 0, 1) := by decide +kernel
theorem d_M_takeNumber_14 : decode b_M_takeNumber 14 = .ok (.iconst 1, 1) := by decide +kernel
theorem d_M_takeNumber_15 : decode b_M_takeNumber 15 = .ok (.invokevirtual 27, 3) := by decide +kernel
theorem d_M_takeNumber_18 : decode b_M_takeNumber 18 = .ok (.i2l, 1) := by decide +kernel
theorem d_M_takeNumber_19 : decode b_M_takeNumber 19 = .ok (.lreturn, 1) := by decide +kernel
theorem d_M_takeNumber_20 : decode b_M_takeNumber 20 = .ok (.iload_n 1, 1) := by decide +kernel
theorem d_M_takeNumber_21 : decode b_M_takeNumber 21 = .ok (.iconst 2, 1) := by decide +kernel
theorem d_M_takeNumber_22 : decode b_M_takeNumber 22 = .ok (.if_icmp .ne 25, 3) := by decide +kernel
theorem d_M_takeNumber_25 : decode b_M_takeNumber 25 = .ok (.aload_n 0, 1) := by decide +kernel
theorem d_M_takeNumber_26 : decode b_M_takeNumber 26 = .ok (.iconst 1, 1) := by decide +kernel
theorem d_M_takeNumber_27 : decode b_M_takeNumber 27 = .ok (.invokevirtual 70, 3) := by decide +kernel
theorem d_M_takeNumber_30 : decode b_M_takeNumber 30 = .ok (.lconst 0, 1) := by decide +kernel
theorem d_M_takeNumber_31 : decode b_M_takeNumber 31 = .ok (.lcmp, 1) := by decide +kernel
theorem d_M_takeNumber_32 : decode b_M_takeNumber 32 = .ok (.ifCond .ne 15, 3) := by decide +kernel
theorem d_M_takeNumber_35 : decode b_M_takeNumber 35 = .ok (.aload_n 0, 1) := by decide +kernel
theorem d_M_takeNumber_36 : decode b_M_takeNumber 36 = .ok (.aload_n 0, 1) := by decide +kernel
theorem d_M_takeNumber_37 : decode b_M_takeNumber 37 = .ok (.bipush 6, 2) := by decide +kernel
theorem d_M_takeNumber_39 : decode b_M_takeNumber 39 = .ok (.invokevirtual 70, 3) := by decide +kernel
theorem d_M_takeNumber_42 : decode b_M_takeNumber 42 = .ok (.iconst 2, 1) := by decide +kernel
theorem d_M_takeNumber_43 : decode b_M_takeNumber 43 = .ok (.invokevirtual 74, 3) := by decide +kernel
theorem d_M_takeNumber_46 : decode b_M_takeNumber 46 = .ok (.lreturn, 1) := by decide +kernel
theorem d_M_takeNumber_47 : decode b_M_takeNumber 47 = .ok (.aload_n 0, 1) := by decide +kernel
theorem d_M_takeNumber_48 : decode b_M_takeNumber 48 = .ok (.invokevirtual 78, 3) := by decide +kernel
theorem d_M_takeNumber_51 : decode b_M_takeNumber 51 = .ok (.istore_n 2, 1) := by decide +kernel
theorem d_M_takeNumber_52 : decode b_M_takeNumber 52 = .ok (.iload_n 2, 1) := by decide +kernel
theorem d_M_takeNumber_53 : decode b_M_takeNumber 53 = .ok (.iconst 1, 1) := by decide +kernel
theorem d_M_takeNumber_54 : decode b_M_takeNumber 54 = .ok (.if_icmp .lt 9, 3) := by decide +kernel
theorem d_M_takeNumber_57 : decode b_M_takeNumber 57 = .ok (.iload_n 2, 1) := by decide +kernel
theorem d_M_takeNumber_58 : decode b_M_takeNumber 58 = .ok (.bipush 8, 2) := by decide +kernel
theorem d_M_takeNumber_60 : decode b_M_takeNumber 60 = .ok (.if_icmp .le 8, 3) := by decide +kernel
theorem d_M_takeNumber_63 : decode b_M_takeNumber 63 = .ok (.aload_n 0, 1) := by decide +kernel
theorem d_M_takeNumber_64 : decode b_M_takeNumber 64 = .ok (.iconst 0, 1) := by decide +kernel
theorem d_M_takeNumber_65 : decode b_M_takeNumber 65 = .ok (.putfield 60, 3) := by decide +kernel
theorem d_M_takeNumber_68 : decode b_M_takeNumber 68 = .ok (.aload_n 0, 1) := by decide +kernel
theorem d_M_takeNumber_69 : decode b_M_takeNumber 69 = .ok (.getfield 60, 3) := by decide +kernel
theorem d_M_takeNumber_72 : decode b_M_takeNumber 72 = .ok (.ifCond .ne 10, 3) := by decide +kernel
theorem d_M_takeNumber_75 : decode b_M_takeNumber 75 = .ok (.aload_n 0, 1) := by decide +kernel
theorem d_M_takeNumber_76 : decode b_M_takeNumber 76 = .ok (.iconst 2, 1) := by decide +kernel
theorem d_M_takeNumber_77 : decode b_M_takeNumber 77 = .ok (.invokevirtual 27, 3) := by decide +kernel
theorem d_M_takeNumber_80 : decode b_M_takeNumber 80 = .ok (.i2l, 1) := by decide +kernel
theorem d_M_takeNumber_81 : decode b_M_takeNumber 81 = .ok (.lreturn, 1) := by decide +kernel
theorem d_M_takeNumber_82 : decode b_M_takeNumber 82 = .ok (.aload_n 0, 1) := by decide +kernel
theorem d_M_takeNumber_83 : decode b_M_takeNumber 83 = .ok (.bipush 8, 2) := by decide +kernel
theorem d_M_takeNumber_85 : decode b_M_takeNumber 85 = .ok (.iload_n 2, 1) := by decide +kernel
theorem d_M_takeNumber_86 : decode b_M_takeNumber 86 = .ok (.imul, 1) := by decide +kernel
theorem d_M_takeNumber_87 : decode b_M_takeNumber 87 = .ok (.invokevirtual 70, 3) := by decide +kernel
theorem d_M_takeNumber_90 : decode b_M_takeNumber 90 = .ok (.lstore_n 3, 1) := by decide +kernel
theorem d_M_takeNumber_91 : decode b_M_takeNumber 91 = .ok (.iload_n 1, 1) := by decide +kernel
theorem d_M_takeNumber_92 : decode b_M_takeNumber 92 = .ok (.iconst 1, 1) := by decide +kernel
theorem d_M_takeNumber_93 : decode b_M_takeNumber 93 = .ok (.if_icmp .ne 21, 3) := by decide +kernel
theorem d_M_takeNumber_96 : decode b_M_takeNumber 96 = .ok (.lload_n 3, 1) := by decide +kernel
theorem d_M_takeNumber_97 : decode b_M_takeNumber 97 = .ok (.bipush 64, 2) := by decide +kernel
theorem d_M_takeNumber_99 : decode b_M_takeNumber 99 = .ok (.bipush 8, 2) := by decide +kernel
theorem d_M_takeNumber_101 : decode b_M_takeNumber 101 = .ok (.iload_n 2, 1) := by decide +kernel
theorem d_M_takeNumber_102 : decode b_M_takeNumber 102 = .ok (.imul, 1) := by decide +kernel
theorem d_M_takeNumber_103 : decode b_M_takeNumber 103 = .ok (.isub, 1) := by decide +kernel
theorem d_M_takeNumber_104 : decode b_M_takeNumber 104 = .ok (.lshl, 1) := by decide +kernel
theorem d_M_takeNumber_105 : decode b_M_takeNumber 105 = .ok (.bipush 64, 2) := by decide +kernel
theorem d_M_takeNumber_107 : decode b_M_takeNumber 107 = .ok (.bipush 8, 2) := by decide +kernel
theorem d_M_takeNumber_109 : decode b_M_takeNumber 109 = .ok (.iload_n 2, 1) := by decide +kernel
theorem d_M_takeNumber_110 : decode b_M_takeNumber 110 = .ok (.imul, 1) := by decide +kernel
theorem d_M_takeNumber_111 : decode b_M_takeNumber 111 = .ok (.isub, 1) := by decide +kernel
theorem d_M_takeNumber_112 : decode b_M_takeNumber 112 = .ok (.lshr, 1) := by decide +kernel
theorem d_M_takeNumber_113 : decode b_M_takeNumber 113 = .ok (.lstore_n 3, 1) := by decide +kernel
theorem d_M_takeNumber_114 : decode b_M_takeNumber 114 = .ok (.iload_n 2, 1) := by decide +kernel
theorem d_M_takeNumber_115 : decode b_M_takeNumber 115 = .ok (.iload_n 1, 1) := by decide +kernel
theorem d_M_takeNumber_116 : decode b_M_takeNumber 116 = .ok (.iconst 1, 1) := by decide +kernel
theorem d_M_takeNumber_117 : decode b_M_takeNumber 117 = .ok (.if_icmp .ne 11, 3) := by decide +kernel
theorem d_M_takeNumber_120 : decode b_M_takeNumber 120 = .ok (.aload_n 0, 1) := by decide +kernel
theorem d_M_takeNumber_121 : decode b_M_takeNumber 121 = .ok (.lload_n 3, 1) := by decide +kernel
theorem d_M_takeNumber_122 : decode b_M_takeNumber 122 = .ok (.invokevirtual 51, 3) := by decide +kernel
theorem d_M_takeNumber_125 : decode b_M_takeNumber 125 = .ok (.goto 8, 3) := by decide +kernel
theorem d_M_takeNumber_128 : decode b_M_takeNumber 128 = .ok (.aload_n 0, 1) := by decide +kernel
theorem d_M_takeNumber_129 : decode b_M_takeNumber 129 = .ok (.lload_n 3, 1) := by decide +kernel
theorem d_M_takeNumber_130 : decode b_M_takeNumber 130 = .ok (.invokevirtual 54, 3) := by decide +kernel
theorem d_M_takeNumber_133 : decode b_M_takeNumber 133 = .ok (.if_icmp .ne 22, 3) := by decide +kernel
theorem d_M_takeNumber_136 : decode b_M_takeNumber 136 = .ok (.iload_n 1, 1) := by decide +kernel
theorem d_M_takeNumber_137 : decode b_M_takeNumber 137 = .ok (.iconst 2, 1) := by decide +kernel
theorem d_M_takeNumber_138 : decode b_M_takeNumber 138 = .ok (.if_icmp .ne 22, 3) := by decide +kernel
theorem d_M_takeNumber_141 : decode b_M_takeNumber 141 = .ok (.lload_n 3, 1) := by decide +kernel
theorem d_M_takeNumber_142 : decode b_M_takeNumber 142 = .ok (.lconst 0, 1) := by decide +kernel
theorem d_M_takeNumber_143 : decode b_M_takeNumber 143 = .ok (.lcmp, 1) := by decide +kernel
theorem d_M_takeNumber_144 : decode b_M_takeNumber 144 = .ok (.ifCond .lt 16, 3) := by decide +kernel
theorem d_M_takeNumber_147 : decode b_M_takeNumber 147 = .ok (.lload_n 3, 1) := by decide +kernel
theorem d_M_takeNumber_148 : decode b_M_takeNumber 148 = .ok (.ldc2_w 49, 3) := by decide +kernel
theorem d_M_takeNumber_151 : decode b_M_takeNumber 151 = .ok (.lcmp, 1) := by decide +kernel
theorem d_M_takeNumber_152 : decode b_M_takeNumber 152 = .ok (.ifCond .ge 8, 3) := by decide +kernel
theorem d_M_takeNumber_155 : decode b_M_takeNumber 155 = .ok (.aload_n 0, 1) := by decide +kernel
theorem d_M_takeNumber_156 : decode b_M_takeNumber 156 = .ok (.iconst 0, 1) := by decide +kernel
theorem d_M_takeNumber_157 : decode b_M_takeNumber 157 = .ok (.putfield 60, 3) := by decide +kernel
theorem d_M_takeNumber_160 : decode b_M_takeNumber 160 = .ok (.aload_n 0, 1) := by decide +kernel
theorem d_M_takeNumber_161 : decode b_M_takeNumber 161 = .ok (.lload_n 3, 1) := by decide +kernel
theorem d_M_takeNumber_162 : decode b_M_takeNumber 162 = .ok (.iconst 2, 1) := by decide +kernel
theorem d_M_takeNumber_163 : decode b_M_takeNumber 163 = .ok (.invokevirtual 74, 3) := by decide +kernel
theorem d_M_takeNumber_166 : decode b_M_takeNumber 166 = .ok (.lreturn, 1) := by decide +kernel
theorem d_M_go_0 : decode b_M_go 0 = .ok (.aload_n 0, 1) := by decide +kernel
theorem d_M_go_1 : decode b_M_go 1 = .ok (.iconst 0, 1) := by decide +kernel
theorem d_M_go_2 : decode b_M_go 2 = .ok (.putfield 14, 3) := by decide +kernel
theorem d_M_go_5 : decode b_M_go 5 = .ok (.iload_n 1, 1) := by decide +kernel
theorem d_M_go_6 : decode b_M_go 6 = .ok (.ifCond .lt 11, 3) := by decide +kernel
theorem d_M_go_9 : decode b_M_go 9 = .ok (.iload_n 1, 1) := by decide +kernel
theorem d_M_go_10 : decode b_M_go 10 = .ok (.aload_n 0, 1) := by decide +kernel
theorem d_M_go_11 : decode b_M_go 11 = .ok (.getfield 24, 3) := by decide +kernel
theorem d_M_go_14 : decode b_M_go 14 = .ok (.if_icmp .le 9, 3) := by decide +kernel
theorem d_M_go_17 : decode b_M_go 17 = .ok (.aload_n 0, 1) := by decide +kernel
theorem d_M_go_18 : decode b_M_go 18 = .ok (.iconst 1, 1) := by decide +kernel
theorem d_M_go_19 : decode b_M_go 19 = .ok (.invokevirtual 27, 3) := by decide +kernel
theorem d_M_go_22 : decode b_M_go 22 = .ok (.ireturn, 1) := by decide +kernel
theorem d_M_go_23 : decode b_M_go 23 = .ok (.aload_n 0, 1) := by decide +kernel
theorem d_M_go_24 : decode b_M_go 24 = .ok (.getfield 64, 3) := by decide +kernel
theorem d_M_go_27 : decode b_M_go 27 = .ok (.istore_n 2, 1) := by decide +kernel
theorem d_M_go_28 : decode b_M_go 28 = .ok (.aload_n 0, 1) := by decide +kernel
theorem d_M_go_29 : decode b_M_go 29 = .ok (.iload_n 1, 1) := by decide +kernel
theorem d_M_go_30 : decode b_M_go 30 = .ok (.putfield 64, 3) := by decide +kernel
theorem d_M_go_33 : decode b_M_go 33 = .ok (.iload_n 2, 1) := by decide +kernel
theorem d_M_go_34 : decode b_M_go 34 = .ok (.ireturn, 1) := by decide +kernel
theorem d_M_turn_0 : decode b_M_turn 0 = .ok (.aload_n 0, 1) := by decide +kernel
theorem d_M_turn_1 : decode b_M_turn 1 = .ok (.iconst 0, 1) := by decide +kernel
theorem d_M_turn_2 : decode b_M_turn 2 = .ok (.putfield 14, 3) := by decide +kernel
theorem d_M_turn_5 : decode b_M_turn 5 = .ok (.iload_n 1, 1) := by decide +kernel
theorem d_M_turn_6 : decode b_M_turn 6 = .ok (.ifCond .lt 11, 3) := by decide +kernel
theorem d_M_turn_9 : decode b_M_turn 9 = .ok (.iload_n 1, 1) := by decide +kernel
theorem d_M_turn_10 : decode b_M_turn 10 = .ok (.aload_n 0, 1) := by decide +kernel
theorem d_M_turn_11 : decode b_M_turn 11 = .ok (.getfield 24, 3) := by decide +kernel
theorem d_M_turn_14 : decode b_M_turn 14 = .ok (.if_icmp .lt 17, 3) := by decide +kernel
theorem d_M_turn_17 : decode b_M_turn 17 = .ok (.aload_n 0, 1) := by decide +kernel
theorem d_M_turn_18 : decode b_M_turn 18 = .ok (.iconst 1, 1) := by decide +kernel
theorem d_M_turn_19 : decode b_M_turn 19 = .ok (.invokevirtual 27, 3) := by decide +kernel
theorem d_M_turn_22 : decode b_M_turn 22 = .ok (.ifCond .le 7, 3) := by decide +kernel
theorem d_M_turn_25 : decode b_M_turn 25 = .ok (.iconst 1, 1) := by decide +kernel
theorem d_M_turn_26 : decode b_M_turn 26 = .ok (.goto 4, 3) := by decide +kernel
theorem d_M_turn_29 : decode b_M_turn 29 = .ok (.iconst 0, 1) := by decide +kernel
theorem d_M_turn_30 : decode b_M_turn 30 = .ok (.ireturn, 1) := by decide +kernel
theorem d_M_turn_31 : decode b_M_turn 31 = .ok (.aload_n 0, 1) := by decide +kernel
theorem d_M_turn_32 : decode b_M_turn 32 = .ok (.getfield 8, 3) := by decide +kernel
theorem d_M_turn_35 : decode b_M_turn 35 = .ok (.iload_n 1, 1) := by decide +kernel
theorem d_M_turn_36 : decode b_M_turn 36 = .ok (.aload_n 0, 1) := by decide +kernel
theorem d_M_turn_37 : decode b_M_turn 37 = .ok (.getfield 8, 3) := by decide +kernel
theorem d_M_turn_40 : decode b_M_turn 40 = .ok (.iload_n 1, 1) := by decide +kernel
theorem d_M_turn_41 : decode b_M_turn 41 = .ok (.baload, 1) := by decide +kernel
theorem d_M_turn_42 : decode b_M_turn 42 = .ok (.ifCond .ne 7, 3) := by decide +kernel
theorem d_M_turn_45 : decode b_M_turn 45 = .ok (.iconst 1, 1) := by decide +kernel
theorem d_M_turn_46 : decode b_M_turn 46 = .ok (.goto 4, 3) := by decide +kernel
theorem d_M_turn_49 : decode b_M_turn 49 = .ok (.iconst 0, 1) := by decide +kernel
theorem d_M_turn_50 : decode b_M_turn 50 = .ok (.bastore, 1) := by decide +kernel
theorem d_M_turn_51 : decode b_M_turn 51 = .ok (.aload_n 0, 1) := by decide +kernel
theorem d_M_turn_52 : decode b_M_turn 52 = .ok (.getfield 8, 3) := by decide +kernel
theorem d_M_turn_55 : decode b_M_turn 55 = .ok (.iload_n 1, 1) := by decide +kernel
theorem d_M_turn_56 : decode b_M_turn 56 = .ok (.baload, 1) := by decide +kernel
theorem d_M_turn_57 : decode b_M_turn 57 = .ok (.ireturn, 1) := by decide +kernel
theorem d_M_cut_0 : decode b_M_cut 0 = .ok (.aload_n 0, 1) := by decide +kernel
theorem d_M_cut_1 : decode b_M_cut 1 = .ok (.iconst 0, 1) := by decide +kernel
theorem d_M_cut_2 : decode b_M_cut 2 = .ok (.putfield 14, 3) := by decide +kernel
theorem d_M_cut_5 : decode b_M_cut 5 = .ok (.iload_n 1, 1) := by decide +kernel
theorem d_M_cut_6 : decode b_M_cut 6 = .ok (.ifCond .lt 11, 3) := by decide +kernel
theorem d_M_cut_9 : decode b_M_cut 9 = .ok (.iload_n 1, 1) := by decide +kernel
theorem d_M_cut_10 : decode b_M_cut 10 = .ok (.aload_n 0, 1) := by decide +kernel
theorem d_M_cut_11 : decode b_M_cut 11 = .ok (.getfield 24, 3) := by decide +kernel
theorem d_M_cut_14 : decode b_M_cut 14 = .ok (.if_icmp .le 9, 3) := by decide +kernel
theorem d_M_cut_17 : decode b_M_cut 17 = .ok (.aload_n 0, 1) := by decide +kernel
theorem d_M_cut_18 : decode b_M_cut 18 = .ok (.iconst 1, 1) := by decide +kernel
theorem d_M_cut_19 : decode b_M_cut 19 = .ok (.invokevirtual 27, 3) := by decide +kernel
theorem d_M_cut_22 : decode b_M_cut 22 = .ok (.ireturn, 1) := by decide +kernel
theorem d_M_cut_23 : decode b_M_cut 23 = .ok (.aload_n 0, 1) := by decide +kernel
theorem d_M_cut_24 : decode b_M_cut 24 = .ok (.getfield 24, 3) := by decide +kernel
theorem d_M_cut_27 : decode b_M_cut 27 = .ok (.istore_n 2, 1) := by decide +kernel
theorem d_M_cut_28 : decode b_M_cut 28 = .ok (.aload_n 0, 1) := by decide +kernel
theorem d_M_cut_29 : decode b_M_cut 29 = .ok (.iload_n 1, 1) := by decide +kernel
theorem d_M_cut_30 : decode b_M_cut 30 = .ok (.putfield 24, 3) := by decide +kernel
theorem d_M_cut_33 : decode b_M_cut 33 = .ok (.aload_n 0, 1) := by decide +kernel
theorem d_M_cut_34 : decode b_M_cut 34 = .ok (.aload_n 0, 1) := by decide +kernel
theorem d_M_cut_35 : decode b_M_cut 35 = .ok (.getfield 64, 3) := by decide +kernel
theorem d_M_cut_38 : decode b_M_cut 38 = .ok (.iload_n 1, 1) := by decide +kernel
theorem d_M_cut_39 : decode b_M_cut 39 = .ok (.invokestatic 39, 3) := by decide +kernel
theorem d_M_cut_42 : decode b_M_cut 42 = .ok (.putfield 64, 3) := by decide +kernel
theorem d_M_cut_45 : decode b_M_cut 45 = .ok (.iload_n 2, 1) := by decide +kernel
theorem d_M_cut_46 : decode b_M_cut 46 = .ok (.ireturn, 1) := by decide +kernel
theorem d_M_count_0 : decode b_M_count 0 = .ok (.aload_n 0, 1) := by decide +kernel
theorem d_M_count_1 : decode b_M_count 1 = .ok (.iconst 0, 1) := by decide +kernel
theorem d_M_count_2 : decode b_M_count 2 = .ok (.putfield 14, 3) := by decide +kernel
theorem d_M_count_5 : decode b_M_count 5 = .ok (.iload_n 1, 1) := by decide +kernel
theorem d_M_count_6 : decode b_M_count 6 = .ok (.ifCond .ne 10, 3) := by decide +kernel
theorem d_M_count_9 : decode b_M_count 9 = .ok (.aload_n 0, 1) := by decide +kernel
theorem d_M_count_10 : decode b_M_count 10 = .ok (.getfield 24, 3) := by decide +kernel
theorem d_M_count_13 : decode b_M_count 13 = .ok (.goto 20, 3) := by decide +kernel
theorem d_M_count_16 : decode b_M_count 16 = .ok (.iload_n 1, 1) := by decide +kernel
theorem d_M_count_17 : decode b_M_count 17 = .ok (.iconst 1, 1) := by decide +kernel
theorem d_M_count_18 : decode b_M_count 18 = .ok (.if_icmp .ne 10, 3) := by decide +kernel
theorem d_M_count_21 : decode b_M_count 21 = .ok (.aload_n 0, 1) := by decide +kernel
theorem d_M_count_22 : decode b_M_count 22 = .ok (.getfield 64, 3) := by decide +kernel
theorem d_M_count_25 : decode b_M_count 25 = .ok (.goto 8, 3) := by decide +kernel
theorem d_M_count_28 : decode b_M_count 28 = .ok (.aload_n 0, 1) := by decide +kernel
theorem d_M_count_29 : decode b_M_count 29 = .ok (.iconst 1, 1) := by decide +kernel
theorem d_M_count_30 : decode b_M_count 30 = .ok (.invokevirtual 27, 3) := by decide +kernel
theorem d_M_count_33 : decode b_M_count 33 = .ok (.ireturn, 1) := by decide +kernel
