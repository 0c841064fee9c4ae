theorem d_X_init_0 : decode b_X_init 0 = .ok (.aload_n 0, 1) := by decide +kernel
theorem d_X_init_1 : decode b_X_init 1 = .ok (.invokespecial 1, 3) := by decide +kernel
theorem d_X_init_4 : decode b_X_init 4 = .ok (.aload_n 0, 1) := by decide +kernel
theorem d_X_init_5 : decode b_X_init 5 = .ok (.sipush 1024, 3) := by decide +kernel
theorem d_X_init_8 : decode b_X_init 8 = .ok (.newarray .long, 2) := by decide +kernel
theorem d_X_init_10 : decode b_X_init 10 = .ok (.putfield 9, 3) := by decide +kernel
theorem d_X_init_13 : decode b_X_init 13 = .ok (.aload_n 0, 1) := by decide +kernel
theorem d_X_init_14 : decode b_X_init 14 = .ok (.iconst 0, 1) := by decide +kernel
theorem d_X_init_15 : decode b_X_init 15 = .ok (.putfield 13, 3) := by decide +kernel
theorem d_X_init_18 : decode b_X_init 18 = .ok (.aload_n 0, 1) := by decide +kernel
theorem d_X_init_19 : decode b_X_init 19 = .ok (.iconst 0, 1) := by decide +kernel
theorem d_X_init_20 : decode b_X_init 20 = .ok (.putfield 17, 3) := by decide +kernel
theorem d_X_init_23 : decode b_X_init 23 = .ok (.return_, 1) := by decide +kernel
theorem d_X_put_0 : decode b_X_put 0 = .ok (.iload_n 3, 1) := by decide +kernel
theorem d_X_put_1 : decode b_X_put 1 = .ok (.invokestatic 20, 3) := by decide +kernel
theorem d_X_put_4 : decode b_X_put 4 = .ok (.aload_n 0, 1) := by decide +kernel
theorem d_X_put_5 : decode b_X_put 5 = .ok (.iload_n 3, 1) := by decide +kernel
theorem d_X_put_6 : decode b_X_put 6 = .ok (.invokevirtual 24, 3) := by decide +kernel
theorem d_X_put_9 : decode b_X_put 9 = .ok (.aload_n 0, 1) := by decide +kernel
theorem d_X_put_10 : decode b_X_put 10 = .ok (.lload_n 1, 1) := by decide +kernel
theorem d_X_put_11 : decode b_X_put 11 = .ok (.iload_n 3, 1) := by decide +kernel
theorem d_X_put_12 : decode b_X_put 12 = .ok (.invokevirtual 27, 3) := by decide +kernel
theorem d_X_put_15 : decode b_X_put 15 = .ok (.aload_n 0, 1) := by decide +kernel
theorem d_X_put_16 : decode b_X_put 16 = .ok (.getfield 13, 3) := by decide +kernel
theorem d_X_put_19 : decode b_X_put 19 = .ok (.ireturn, 1) := by decide +kernel
theorem d_X_requireWidth_0 : decode b_X_requireWidth 0 = .ok (.iload_n 0, 1) := by decide +kernel
theorem d_X_requireWidth_1 : decode b_X_requireWidth 1 = .ok (.ifCond .lt 9, 3) := by decide +kernel
theorem d_X_requireWidth_4 : decode b_X_requireWidth 4 = .ok (.iload_n 0, 1) := by decide +kernel
theorem d_X_requireWidth_5 : decode b_X_requireWidth 5 = .ok (.bipush 64, 2) := by decide +kernel
theorem d_X_requireWidth_7 : decode b_X_requireWidth 7 = .ok (.if_icmp .le 13, 3) := by decide +kernel
theorem d_X_requireWidth_10 : decode b_X_requireWidth 10 = .ok (.new 31, 3) := by decide +kernel
theorem d_X_requireWidth_13 : decode b_X_requireWidth 13 = .ok (.dup, 1) := by decide +kernel
theorem d_X_requireWidth_14 : decode b_X_requireWidth 14 = .ok (.ldc 112, 2) := by decide +kernel
theorem d_X_requireWidth_16 : decode b_X_requireWidth 16 = .ok (.invokespecial 35, 3) := by decide +kernel
theorem d_X_requireWidth_19 : decode b_X_requireWidth 19 = .ok (.athrow, 1) := by decide +kernel
theorem d_X_requireWidth_20 : decode b_X_requireWidth 20 = .ok (.return_, 1) := by decide +kernel
theorem d_X_requireRoom_0 : decode b_X_requireRoom 0 = .ok (.iload_n 1, 1) := by decide +kernel
theorem d_X_requireRoom_1 : decode b_X_requireRoom 1 = .ok (.ldc 118, 2) := by decide +kernel
theorem d_X_requireRoom_3 : decode b_X_requireRoom 3 = .ok (.aload_n 0, 1) := by decide +kernel
theorem d_X_requireRoom_4 : decode b_X_requireRoom 4 = .ok (.getfield 13, 3) := by decide +kernel
theorem d_X_requireRoom_7 : decode b_X_requireRoom 7 = .ok (.isub, 1) := by decide +kernel
theorem d_X_requireRoom_8 : decode b_X_requireRoom 8 = .ok (.if_icmp .le 13, 3) := by decide +kernel
theorem d_X_requireRoom_11 : decode b_X_requireRoom 11 = .ok (.new 119, 3) := by decide +kernel
theorem d_X_requireRoom_14 : decode b_X_requireRoom 14 = .ok (.dup, 1) := by decide +kernel
theorem d_X_requireRoom_15 : decode b_X_requireRoom 15 = .ok (.ldc 121, 2) := by decide +kernel
theorem d_X_requireRoom_17 : decode b_X_requireRoom 17 = .ok (.invokespecial 123, 3) := by decide +kernel
theorem d_X_requireRoom_20 : decode b_X_requireRoom 20 = .ok (.athrow, 1) := by decide +kernel
theorem d_X_requireRoom_21 : decode b_X_requireRoom 21 = .ok (.return_, 1) := by decide +kernel
theorem d_X_append_0 : decode b_X_append 0 = .ok (.iload_n 3, 1) := by decide +kernel
theorem d_X_append_1 : decode b_X_append 1 = .ok (.iconst 1, 1) := by decide +kernel
theorem d_X_append_2 : decode b_X_append 2 = .ok (.isub, 1) := by decide +kernel
theorem d_X_append_3 : decode b_X_append 3 = .ok (.istore 4, 2) := by decide +kernel
theorem d_X_append_5 : decode b_X_append 5 = .ok (.iload 4, 2) := by decide +kernel
theorem d_X_append_7 : decode b_X_append 7 = .ok (.ifCond .lt 33, 3) := by decide +kernel
theorem d_X_append_10 : decode b_X_append 10 = .ok (.aload_n 0, 1) := by decide +kernel
theorem d_X_append_11 : decode b_X_append 11 = .ok (.aload_n 0, 1) := by decide +kernel
theorem d_X_append_12 : decode b_X_append 12 = .ok (.getfield 13, 3) := by decide +kernel
theorem d_X_append_15 : decode b_X_append 15 = .ok (.lload_n 1, 1) := by decide +kernel
theorem d_X_append_16 : decode b_X_append 16 = .ok (.iload 4, 2) := by decide +kernel
theorem d_X_append_18 : decode b_X_append 18 = .ok (.lushr, 1) := by decide +kernel
theorem d_X_append_19 : decode b_X_append 19 = .ok (.lconst 1, 1) := by decide +kernel
theorem d_X_append_20 : decode b_X_append 20 = .ok (.land, 1) := by decide +kernel
theorem d_X_append_21 : decode b_X_append 21 = .ok (.invokevirtual 107, 3) := by decide +kernel
theorem d_X_append_24 : decode b_X_append 24 = .ok (.aload_n 0, 1) := by decide +kernel
theorem d_X_append_25 : decode b_X_append 25 = .ok (.dup, 1) := by decide +kernel
theorem d_X_append_26 : decode b_X_append 26 = .ok (.getfield 13, 3) := by decide +kernel
theorem d_X_append_29 : decode b_X_append 29 = .ok (.iconst 1, 1) := by decide +kernel
theorem d_X_append_30 : decode b_X_append 30 = .ok (.iadd, 1) := by decide +kernel
theorem d_X_append_31 : decode b_X_append 31 = .ok (.putfield 13, 3) := by decide +kernel
theorem d_X_append_34 : decode b_X_append 34 = .ok (.iinc 4 (-1), 3) := by decide +kernel
theorem d_X_append_37 : decode b_X_append 37 = .ok (.goto (-32), 3) := by decide +kernel
theorem d_X_append_40 : decode b_X_append 40 = .ok (.return_, 1) := by decide +kernel
theorem d_X_setBit_0 : decode b_X_setBit 0 = .ok (.lconst 1, 1) := by decide +kernel
theorem d_X_setBit_1 : decode b_X_setBit 1 = .ok (.iload_n 1, 1) := by decide +kernel
theorem d_X_setBit_2 : decode b_X_setBit 2 = .ok (.bipush 64, 2) := by decide +kernel
theorem d_X_setBit_4 : decode b_X_setBit 4 = .ok (.irem, 1) := by decide +kernel
theorem d_X_setBit_5 : decode b_X_setBit 5 = .ok (.lshl, 1) := by decide +kernel
theorem d_X_setBit_6 : decode b_X_setBit 6 = .ok (.lstore 4, 2) := by decide +kernel
theorem d_X_setBit_8 : decode b_X_setBit 8 = .ok (.iload_n 1, 1) := by decide +kernel
theorem d_X_setBit_9 : decode b_X_setBit 9 = .ok (.bipush 64, 2) := by decide +kernel
theorem d_X_setBit_11 : decode b_X_setBit 11 = .ok (.idiv, 1) := by decide +kernel
theorem d_X_setBit_12 : decode b_X_setBit 12 = .ok (.istore 6, 2) := by decide +kernel
theorem d_X_setBit_14 : decode b_X_setBit 14 = .ok (.aload_n 0, 1) := by decide +kernel
theorem d_X_setBit_15 : decode b_X_setBit 15 = .ok (.getfield 9, 3) := by decide +kernel
theorem d_X_setBit_18 : decode b_X_setBit 18 = .ok (.iload 6, 2) := by decide +kernel
theorem d_X_setBit_20 : decode b_X_setBit 20 = .ok (.lload_n 2, 1) := by decide +kernel
theorem d_X_setBit_21 : decode b_X_setBit 21 = .ok (.lconst 1, 1) := by decide +kernel
theorem d_X_setBit_22 : decode b_X_setBit 22 = .ok (.lcmp, 1) := by decide +kernel
theorem d_X_setBit_23 : decode b_X_setBit 23 = .ok (.ifCond .ne 16, 3) := by decide +kernel
theorem d_X_setBit_26 : decode b_X_setBit 26 = .ok (.aload_n 0, 1) := by decide +kernel
theorem d_X_setBit_27 : decode b_X_setBit 27 = .ok (.getfield 9, 3) := by decide +kernel
theorem d_X_setBit_30 : decode b_X_setBit 30 = .ok (.iload 6, 2) := by decide +kernel
theorem d_X_setBit_32 : decode b_X_setBit 32 = .ok (.laload, 1) := by decide +kernel
theorem d_X_setBit_33 : decode b_X_setBit 33 = .ok (.lload 4, 2) := by decide +kernel
theorem d_X_setBit_35 : decode b_X_setBit 35 = .ok (.lor, 1) := by decide +kernel
theorem d_X_setBit_36 : decode b_X_setBit 36 = .ok (.goto 17, 3) := by decide +kernel
theorem d_X_setBit_39 : decode b_X_setBit 39 = .ok (.aload_n 0, 1) := by decide +kernel
theorem d_X_setBit_40 : decode b_X_setBit 40 = .ok (.getfield 9, 3) := by decide +kernel
theorem d_X_setBit_43 : decode b_X_setBit 43 = .ok (.iload 6, 2) := by decide +kernel
theorem d_X_setBit_45 : decode b_X_setBit 45 = .ok (.laload, 1) := by decide +kernel
theorem d_X_setBit_46 : decode b_X_setBit 46 = .ok (.lload 4, 2) := by decide +kernel
theorem d_X_setBit_48 : decode b_X_setBit 48 = .ok (.ldc2_w 127, 3) := by decide +kernel
theorem d_X_setBit_51 : decode b_X_setBit 51 = .ok (.lxor, 1) := by decide +kernel
theorem d_X_setBit_52 : decode b_X_setBit 52 = .ok (.land, 1) := by decide +kernel
theorem d_X_setBit_53 : decode b_X_setBit 53 = .ok (.lastore, 1) := by decide +kernel
theorem d_X_setBit_54 : decode b_X_setBit 54 = .ok (.return_, 1) := by decide +kernel
theorem d_X_putRange_0 : decode b_X_putRange 0 = .ok (.lload 5, 2) := by decide +kernel
theorem d_X_putRange_2 : decode b_X_putRange 2 = .ok (.lload_n 1, 1) := by decide +kernel
theorem d_X_putRange_3 : decode b_X_putRange 3 = .ok (.lcmp, 1) := by decide +kernel
theorem d_X_putRange_4 : decode b_X_putRange 4 = .ok (.ifCond .lt 10, 3) := by decide +kernel
theorem d_X_putRange_7 : decode b_X_putRange 7 = .ok (.lload 5, 2) := by decide +kernel
theorem d_X_putRange_9 : decode b_X_putRange 9 = .ok (.lload_n 3, 1) := by decide +kernel
theorem d_X_putRange_10 : decode b_X_putRange 10 = .ok (.lcmp, 1) := by decide +kernel
theorem d_X_putRange_11 : decode b_X_putRange 11 = .ok (.ifCond .le 13, 3) := by decide +kernel
theorem d_X_putRange_14 : decode b_X_putRange 14 = .ok (.new 31, 3) := by decide +kernel
theorem d_X_putRange_17 : decode b_X_putRange 17 = .ok (.dup, 1) := by decide +kernel
theorem d_X_putRange_18 : decode b_X_putRange 18 = .ok (.ldc 33, 2) := by decide +kernel
theorem d_X_putRange_20 : decode b_X_putRange 20 = .ok (.invokespecial 35, 3) := by decide +kernel
theorem d_X_putRange_23 : decode b_X_putRange 23 = .ok (.athrow, 1) := by decide +kernel
theorem d_X_putRange_24 : decode b_X_putRange 24 = .ok (.lload_n 3, 1) := by decide +kernel
theorem d_X_putRange_25 : decode b_X_putRange 25 = .ok (.lload_n 1, 1) := by decide +kernel
theorem d_X_putRange_26 : decode b_X_putRange 26 = .ok (.lsub, 1) := by decide +kernel
theorem d_X_putRange_27 : decode b_X_putRange 27 = .ok (.invokestatic 38, 3) := by decide +kernel
theorem d_X_putRange_30 : decode b_X_putRange 30 = .ok (.istore 7, 2) := by decide +kernel
theorem d_X_putRange_32 : decode b_X_putRange 32 = .ok (.aload_n 0, 1) := by decide +kernel
theorem d_X_putRange_33 : decode b_X_putRange 33 = .ok (.iload 7, 2) := by decide +kernel
theorem d_X_putRange_35 : decode b_X_putRange 35 = .ok (.invokevirtual 24, 3) := by decide +kernel
theorem d_X_putRange_38 : decode b_X_putRange 38 = .ok (.aload_n 0, 1) := by decide +kernel
theorem d_X_putRange_39 : decode b_X_putRange 39 = .ok (.lload 5, 2) := by decide +kernel
theorem d_X_putRange_41 : decode b_X_putRange 41 = .ok (.lload_n 1, 1) := by decide +kernel
theorem d_X_putRange_42 : decode b_X_putRange 42 = .ok (.lsub, 1) := by decide +kernel
theorem d_X_putRange_43 : decode b_X_putRange 43 = .ok (.iload 7, 2) := by decide +kernel
theorem d_X_putRange_45 : decode b_X_putRange 45 = .ok (.invokevirtual 27, 3) := by decide +kernel
theorem d_X_putRange_48 : decode b_X_putRange 48 = .ok (.aload_n 0, 1) := by decide +kernel
theorem d_X_putRange_49 : decode b_X_putRange 49 = .ok (.getfield 13, 3) := by decide +kernel
theorem d_X_putRange_52 : decode b_X_putRange 52 = .ok (.ireturn, 1) := by decide +kernel
theorem d_X_bitsToHold_0 : decode b_X_bitsToHold 0 = .ok (.bipush 64, 2) := by decide +kernel
theorem d_X_bitsToHold_2 : decode b_X_bitsToHold 2 = .ok (.lload_n 0, 1) := by decide +kernel
theorem d_X_bitsToHold_3 : decode b_X_bitsToHold 3 = .ok (.invokestatic 149, 3) := by decide +kernel
theorem d_X_bitsToHold_6 : decode b_X_bitsToHold 6 = .ok (.isub, 1) := by decide +kernel
theorem d_X_bitsToHold_7 : decode b_X_bitsToHold 7 = .ok (.ireturn, 1) := by decide +kernel
theorem d_X_putLength_0 : decode b_X_putLength 0 = .ok (.iload_n 1, 1) := by decide +kernel
theorem d_X_putLength_1 : decode b_X_putLength 1 = .ok (.ifCond .ge 13, 3) := by decide +kernel
theorem d_X_putLength_4 : decode b_X_putLength 4 = .ok (.new 31, 3) := by decide +kernel
theorem d_X_putLength_7 : decode b_X_putLength 7 = .ok (.dup, 1) := by decide +kernel
theorem d_X_putLength_8 : decode b_X_putLength 8 = .ok (.ldc 42, 2) := by decide +kernel
theorem d_X_putLength_10 : decode b_X_putLength 10 = .ok (.invokespecial 35, 3) := by decide +kernel
theorem d_X_putLength_13 : decode b_X_putLength 13 = .ok (.athrow, 1) := by decide +kernel
theorem d_X_putLength_14 : decode b_X_putLength 14 = .ok (.iload_n 1, 1) := by decide +kernel
theorem d_X_putLength_15 : decode b_X_putLength 15 = .ok (.sipush 16384, 3) := by decide +kernel
theorem d_X_putLength_18 : decode b_X_putLength 18 = .ok (.if_icmp .ge 7, 3) := by decide +kernel
theorem d_X_putLength_21 : decode b_X_putLength 21 = .ok (.iload_n 1, 1) := by decide +kernel
theorem d_X_putLength_22 : decode b_X_putLength 22 = .ok (.goto 16, 3) := by decide +kernel
theorem d_X_putLength_25 : decode b_X_putLength 25 = .ok (.iload_n 1, 1) := by decide +kernel
theorem d_X_putLength_26 : decode b_X_putLength 26 = .ok (.sipush 16384, 3) := by decide +kernel
theorem d_X_putLength_29 : decode b_X_putLength 29 = .ok (.idiv, 1) := by decide +kernel
theorem d_X_putLength_30 : decode b_X_putLength 30 = .ok (.iconst 4, 1) := by decide +kernel
theorem d_X_putLength_31 : decode b_X_putLength 31 = .ok (.invokestatic 44, 3) := by decide +kernel
theorem d_X_putLength_34 : decode b_X_putLength 34 = .ok (.sipush 16384, 3) := by decide +kernel
theorem d_X_putLength_37 : decode b_X_putLength 37 = .ok (.imul, 1) := by decide +kernel
theorem d_X_putLength_38 : decode b_X_putLength 38 = .ok (.istore_n 2, 1) := by decide +kernel
theorem d_X_putLength_39 : decode b_X_putLength 39 = .ok (.aload_n 0, 1) := by decide +kernel
theorem d_X_putLength_40 : decode b_X_putLength 40 = .ok (.iload_n 2, 1) := by decide +kernel
theorem d_X_putLength_41 : decode b_X_putLength 41 = .ok (.invokestatic 50, 3) := by decide +kernel
theorem d_X_putLength_44 : decode b_X_putLength 44 = .ok (.invokevirtual 24, 3) := by decide +kernel
theorem d_X_putLength_47 : decode b_X_putLength 47 = .ok (.aload_n 0, 1) := by decide +kernel
theorem d_X_putLength_48 : decode b_X_putLength 48 = .ok (.iload_n 2, 1) := by decide +kernel
theorem d_X_putLength_49 : decode b_X_putLength 49 = .ok (.invokestatic 54, 3) := by decide +kernel
theorem d_X_putLength_52 : decode b_X_putLength 52 = .ok (.i2l, 1) := by decide +kernel
theorem d_X_putLength_53 : decode b_X_putLength 53 = .ok (.iload_n 2, 1) := by decide +kernel
theorem d_X_putLength_54 : decode b_X_putLength 54 = .ok (.invokestatic 50, 3) := by decide +kernel
theorem d_X_putLength_57 : decode b_X_putLength 57 = .ok (.invokevirtual 27, 3) := by decide +kernel
theorem d_X_putLength_60 : decode b_X_putLength 60 = .ok (.iload_n 2, 1) := by decide +kernel
theorem d_X_putLength_61 : decode b_X_putLength 61 = .ok (.ireturn, 1) := by decide +kernel
theorem d_X_lengthWidth_0 : decode b_X_lengthWidth 0 = .ok (.iload_n 0, 1) := by decide +kernel
theorem d_X_lengthWidth_1 : decode b_X_lengthWidth 1 = .ok (.sipush 128, 3) := by decide +kernel
theorem d_X_lengthWidth_4 : decode b_X_lengthWidth 4 = .ok (.if_icmp .lt 15, 3) := by decide +kernel
theorem d_X_lengthWidth_7 : decode b_X_lengthWidth 7 = .ok (.iload_n 0, 1) := by decide +kernel
theorem d_X_lengthWidth_8 : decode b_X_lengthWidth 8 = .ok (.sipush 16384, 3) := by decide +kernel
theorem d_X_lengthWidth_11 : decode b_X_lengthWidth 11 = .ok (.if_icmp .ge 8, 3) := by decide +kernel
theorem d_X_lengthWidth_14 : decode b_X_lengthWidth 14 = .ok (.bipush 16, 2) := by decide +kernel
theorem d_X_lengthWidth_16 : decode b_X_lengthWidth 16 = .ok (.goto 5, 3) := by decide +kernel
theorem d_X_lengthWidth_19 : decode b_X_lengthWidth 19 = .ok (.bipush 8, 2) := by decide +kernel
theorem d_X_lengthWidth_21 : decode b_X_lengthWidth 21 = .ok (.ireturn, 1) := by decide +kernel
theorem d_X_lengthCode_0 : decode b_X_lengthCode 0 = .ok (.iload_n 0, 1) := by decide +kernel
theorem d_X_lengthCode_1 : decode b_X_lengthCode 1 = .ok (.sipush 128, 3) := by decide +kernel
theorem d_X_lengthCode_4 : decode b_X_lengthCode 4 = .ok (.if_icmp .ge 5, 3) := by decide +kernel
theorem d_X_lengthCode_7 : decode b_X_lengthCode 7 = .ok (.iload_n 0, 1) := by decide +kernel
theorem d_X_lengthCode_8 : decode b_X_lengthCode 8 = .ok (.ireturn, 1) := by decide +kernel
theorem d_X_lengthCode_9 : decode b_X_lengthCode 9 = .ok (.iload_n 0, 1) := by decide +kernel
theorem d_X_lengthCode_10 : decode b_X_lengthCode 10 = .ok (.sipush 16384, 3) := by decide +kernel
theorem d_X_lengthCode_13 : decode b_X_lengthCode 13 = .ok (.if_icmp .ge 10, 3) := by decide +kernel
theorem d_X_lengthCode_16 : decode b_X_lengthCode 16 = .ok (.ldc 155, 2) := by decide +kernel
theorem d_X_lengthCode_18 : decode b_X_lengthCode 18 = .ok (.iload_n 0, 1) := by decide +kernel
theorem d_X_lengthCode_19 : decode b_X_lengthCode 19 = .ok (.ior, 1) := by decide +kernel
theorem d_X_lengthCode_20 : decode b_X_lengthCode 20 = .ok (.goto 12, 3) := by decide +kernel
theorem d_X_lengthCode_23 : decode b_X_lengthCode 23 = .ok (.sipush 192, 3) := by decide +kernel
theorem d_X_lengthCode_26 : decode b_X_lengthCode 26 = .ok (.iload_n 0, 1) := by decide +kernel
theorem d_X_lengthCode_27 : decode b_X_lengthCode 27 = .ok (.sipush 16384, 3) := by decide +kernel
theorem d_X_lengthCode_30 : decode b_X_lengthCode 30 = .ok (.idiv, 1) := by decide +kernel
theorem d_X_lengthCode_31 : decode b_X_lengthCode 31 = .ok (.ior, 1) := by decide +kernel
theorem d_X_lengthCode_32 : decode b_X_lengthCode 32 = .ok (.ireturn, 1) := by decide +kernel
theorem d_X_putNumber_0 : decode b_X_putNumber 0 = .ok (.iload_n 1, 1) := by decide +kernel
theorem d_X_putNumber_1 : decode b_X_putNumber 1 = .ok (.invokestatic 57, 3) := by decide +kernel
theorem d_X_putNumber_4 : decode b_X_putNumber 4 = .ok (.iload_n 1, 1) := by decide +kernel
theorem d_X_putNumber_5 : decode b_X_putNumber 5 = .ok (.iconst 2, 1) := by decide +kernel
theorem d_X_putNumber_6 : decode b_X_putNumber 6 = .ok (.if_icmp .ne 26, 3) := by decide +kernel
theorem d_X_putNumber_9 : decode b_X_putNumber 9 = .ok (.lload_n 2, 1) := by decide +kernel
theorem d_X_putNumber_10 : decode b_X_putNumber 10 = .ok (.invokestatic 60, 3) := by decide +kernel
theorem d_X_putNumber_13 : decode b_X_putNumber 13 = .ok (.ifCond .eq 19, 3) := by decide +kernel
theorem d_X_putNumber_16 : decode b_X_putNumber 16 = .ok (.aload_n 0, 1) := by decide +kernel
theorem d_X_putNumber_17 : decode b_X_putNumber 17 = .ok (.bipush 7, 2) := by decide +kernel
theorem d_X_putNumber_19 : decode b_X_putNumber 19 = .ok (.invokevirtual 24, 3) := by decide +kernel
theorem d_X_putNumber_22 : decode b_X_putNumber 22 = .ok (.aload_n 0, 1) := by decide +kernel
theorem d_X_putNumber_23 : decode b_X_putNumber 23 = .ok (.lload_n 2, 1) := by decide +kernel
theorem d_X_putNumber_24 : decode b_X_putNumber 24 = .ok (.bipush 7, 2) := by decide +kernel
theorem d_X_putNumber_26 : decode b_X_putNumber 26 = .ok (.invokevirtual 27, 3) := by decide +kernel
theorem d_X_putNumber_29 : decode b_X_putNumber 29 = .ok (.goto 9, 3) := by decide +kernel
theorem d_X_putNumber_32 : decode b_X_putNumber 32 = .ok (.aload_n 0, 1) := by decide +kernel
theorem d_X_putNumber_33 : decode b_X_putNumber 33 = .ok (.iload_n 1, 1) := by decide +kernel
theorem d_X_putNumber_34 : decode b_X_putNumber 34 = .ok (.lload_n 2, 1) := by decide +kernel
theorem d_X_putNumber_35 : decode b_X_putNumber 35 = .ok (.invokevirtual 64, 3) := by decide +kernel
theorem d_X_putNumber_38 : decode b_X_putNumber 38 = .ok (.aload_n 0, 1) := by decide +kernel
theorem d_X_putNumber_39 : decode b_X_putNumber 39 = .ok (.getfield 13, 3) := by decide +kernel
theorem d_X_putNumber_42 : decode b_X_putNumber 42 = .ok (.ireturn, 1) := by decide +kernel
theorem d_X_requireKind_0 : decode b_X_requireKind 0 = .ok (.iload_n 0, 1) := by decide +kernel
theorem d_X_requireKind_1 : decode b_X_requireKind 1 = .ok (.ifCond .lt 8, 3) := by decide +kernel
theorem d_X_requireKind_4 : decode b_X_requireKind 4 = .ok (.iload_n 0, 1) := by decide +kernel
theorem d_X_requireKind_5 : decode b_X_requireKind 5 = .ok (.iconst 2, 1) := by decide +kernel
theorem d_X_requireKind_6 : decode b_X_requireKind 6 = .ok (.if_icmp .le 13, 3) := by decide +kernel
theorem d_X_requireKind_9 : decode b_X_requireKind 9 = .ok (.new 31, 3) := by decide +kernel
theorem d_X_requireKind_12 : decode b_X_requireKind 12 = .ok (.dup, 1) := by decide +kernel
theorem d_X_requireKind_13 : decode b_X_requireKind 13 = .ok (.ldc 114, 2) := by decide +kernel
theorem d_X_requireKind_15 : decode b_X_requireKind 15 = .ok (.invokespecial 35, 3) := by decide +kernel
theorem d_X_requireKind_18 : decode b_X_requireKind 18 = .ok (.athrow, 1) := by decide +kernel
theorem d_X_requireKind_19 : decode b_X_requireKind 19 = .ok (.return_, 1) := by decide +kernel
theorem d_X_isSmall_0 : decode b_X_isSmall 0 = .ok (.lload_n 0, 1) := by decide +kernel
theorem d_X_isSmall_1 : decode b_X_isSmall 1 = .ok (.lconst 0, 1) := by decide +kernel
theorem d_X_isSmall_2 : decode b_X_isSmall 2 = .ok (.lcmp, 1) := by decide +kernel
theorem d_X_isSmall_3 : decode b_X_isSmall 3 = .ok (.ifCond .lt 15, 3) := by decide +kernel
theorem d_X_isSmall_6 : decode b_X_isSmall 6 = .ok (.lload_n 0, 1) := by decide +kernel
theorem d_X_isSmall_7 : decode b_X_isSmall 7 = .ok (.ldc2_w 147, 3) := by decide +kernel
theorem d_X_isSmall_10 : decode b_X_isSmall 10 = .ok (.lcmp, 1) := by decide +kernel
theorem d_X_isSmall_11 : decode b_X_isSmall 11 = .ok (.ifCond .ge 7, 3) := by decide +kernel
theorem d_X_isSmall_14 : decode b_X_isSmall 14 = .ok (.iconst 1, 1) := by decide +kernel
theorem d_X_isSmall_15 : decode b_X_isSmall 15 = .ok (.goto 4, 3) := by decide +kernel
theorem d_X_isSmall_18 : decode b_X_isSmall 18 = .ok (.iconst 0, 1) := by decide +kernel
theorem d_X_isSmall_19 : decode b_X_isSmall 19 = .ok (.ireturn, 1) := by decide +kernel
theorem d_X_appendNumber_0 : decode b_X_appendNumber 0 = .ok (.iload_n 1, 1) := by decide +kernel
theorem d_X_appendNumber_1 : decode b_X_appendNumber 1 = .ok (.lload_n 2, 1) := by decide +kernel
theorem d_X_appendNumber_2 : decode b_X_appendNumber 2 = .ok (.invokestatic 124, 3) := by decide +kernel
theorem d_X_appendNumber_5 : decode b_X_appendNumber 5 = .ok (.istore 4, 2) := by decide +kernel
theorem d_X_appendNumber_7 : decode b_X_appendNumber 7 = .ok (.aload_n 0, 1) := by decide +kernel
theorem d_X_appendNumber_8 : decode b_X_appendNumber 8 = .ok (.iload_n 1, 1) := by decide +kernel
theorem d_X_appendNumber_9 : decode b_X_appendNumber 9 = .ok (.lload_n 2, 1) := by decide +kernel
theorem d_X_appendNumber_10 : decode b_X_appendNumber 10 = .ok (.invokestatic 95, 3) := by decide +kernel
theorem d_X_appendNumber_13 : decode b_X_appendNumber 13 = .ok (.invokevirtual 24, 3) := by decide +kernel
theorem d_X_appendNumber_16 : decode b_X_appendNumber 16 = .ok (.aload_n 0, 1) := by decide +kernel
theorem d_X_appendNumber_17 : decode b_X_appendNumber 17 = .ok (.lconst 1, 1) := by decide +kernel
theorem d_X_appendNumber_18 : decode b_X_appendNumber 18 = .ok (.iload_n 1, 1) := by decide +kernel
theorem d_X_appendNumber_19 : decode b_X_appendNumber 19 = .ok (.iconst 2, 1) := by decide +kernel
theorem d_X_appendNumber_20 : decode b_X_appendNumber 20 = .ok (.if_icmp .ne 7, 3) := by decide +kernel
theorem d_X_appendNumber_23 : decode b_X_appendNumber 23 = .ok (.iconst 1, 1) := by decide +kernel
theorem d_X_appendNumber_24 : decode b_X_appendNumber 24 = .ok (.goto 4, 3) := by decide +kernel
theorem d_X_appendNumber_27 : decode b_X_appendNumber 27 = .ok (.iconst 0, 1) := by decide +kernel
theorem d_X_appendNumber_28 : decode b_X_appendNumber 28 = .ok (.invokevirtual 27, 3) := by decide +kernel
theorem d_X_appendNumber_31 : decode b_X_appendNumber 31 = .ok (.aload_n 0, 1) := by decide +kernel
theorem d_X_appendNumber_32 : decode b_X_appendNumber 32 = .ok (.iload 4, 2) := by decide +kernel
theorem d_X_appendNumber_34 : decode b_X_appendNumber 34 = .ok (.invokestatic 54, 3) := by decide +kernel
theorem d_X_appendNumber_37 : decode b_X_appendNumber 37 = .ok (.i2l, 1) := by decide +kernel
theorem d_X_appendNumber_38 : decode b_X_appendNumber 38 = .ok (.iload 4, 2) := by decide +kernel
theorem d_X_appendNumber_40 : decode b_X_appendNumber 40 = .ok (.invokestatic 50, 3) := by decide +kernel
theorem d_X_appendNumber_43 : decode b_X_appendNumber 43 = .ok (.invokevirtual 27, 3) := by decide +kernel
theorem d_X_appendNumber_46 : decode b_X_appendNumber 46 = .ok (.aload_n 0, 1) := by decide +kernel
theorem d_X_appendNumber_47 : decode b_X_appendNumber 47 = .ok (.lload_n 2, 1) := by decide +kernel
theorem d_X_appendNumber_48 : decode b_X_appendNumber 48 = .ok (.iload 4, 2) := by decide +kernel
theorem d_X_appendNumber_50 : decode b_X_appendNumber 50 = .ok (.bipush 8, 2) := by decide +kernel
theorem d_X_appendNumber_52 : decode b_X_appendNumber 52 = .ok (.imul, 1) := by decide +kernel
theorem d_X_appendNumber_53 : decode b_X_appendNumber 53 = .ok (.invokevirtual 27, 3) := by decide +kernel
theorem d_X_appendNumber_56 : decode b_X_appendNumber 56 = .ok (.return_, 1) := by decide +kernel
theorem d_X_bytesToHold_0 : decode b_X_bytesToHold 0 = .ok (.iload_n 0, 1) := by decide +kernel
theorem d_X_bytesToHold_1 : decode b_X_bytesToHold 1 = .ok (.iconst 1, 1) := by decide +kernel
theorem d_X_bytesToHold_2 : decode b_X_bytesToHold 2 = .ok (.if_icmp .ne 26, 3) := by decide +kernel
theorem d_X_bytesToHold_5 : decode b_X_bytesToHold 5 = .ok (.iconst 1, 1) := by decide +kernel
theorem d_X_bytesToHold_6 : decode b_X_bytesToHold 6 = .ok (.lload_n 1, 1) := by decide +kernel
theorem d_X_bytesToHold_7 : decode b_X_bytesToHold 7 = .ok (.lconst 0, 1) := by decide +kernel
theorem d_X_bytesToHold_8 : decode b_X_bytesToHold 8 = .ok (.lcmp, 1) := by decide +kernel
theorem d_X_bytesToHold_9 : decode b_X_bytesToHold 9 = .ok (.ifCond .ge 11, 3) := by decide +kernel
theorem d_X_bytesToHold_12 : decode b_X_bytesToHold 12 = .ok (.lload_n 1, 1) := by decide +kernel
theorem d_X_bytesToHold_13 : decode b_X_bytesToHold 13 = .ok (.ldc2_w 127, 3) := by decide +kernel
theorem d_X_bytesToHold_16 : decode b_X_bytesToHold 16 = .ok (.lxor, 1) := by decide +kernel
theorem d_X_bytesToHold_17 : decode b_X_bytesToHold 17 = .ok (.goto 4, 3) := by decide +kernel
theorem d_X_bytesToHold_20 : decode b_X_bytesToHold 20 = .ok (.lload_n 1, 1) := by decide +kernel
theorem d_X_bytesToHold_21 : decode b_X_bytesToHold 21 = .ok (.invokestatic 38, 3) := by decide +kernel
theorem d_X_bytesToHold_24 : decode b_X_bytesToHold 24 = .ok (.iadd, 1) := by decide +kernel
theorem d_X_bytesToHold_25 : decode b_X_bytesToHold 25 = .ok (.goto 7, 3) := by decide +kernel
theorem d_X_bytesToHold_28 : decode b_X_bytesToHold 28 = .ok (.lload_n 1, 1) := by decide +kernel
theorem d_X_bytesToHold_29 : decode b_X_bytesToHold 29 = .ok (.invokestatic 38, 3) := by decide +kernel
theorem d_X_bytesToHold_32 : decode b_X_bytesToHold 32 = .ok (.istore_n 3, 1) := by decide +kernel
theorem d_X_bytesToHold_33 : decode b_X_bytesToHold 33 = .ok (.iconst 1, 1) := by decide +kernel
theorem d_X_bytesToHold_34 : decode b_X_bytesToHold 34 = .ok (.iload_n 3, 1) := by decide +kernel
theorem d_X_bytesToHold_35 : decode b_X_bytesToHold 35 = .ok (.bipush 8, 2) := by decide +kernel
theorem d_X_bytesToHold_37 : decode b_X_bytesToHold 37 = .ok (.iadd, 1) := by decide +kernel
theorem d_X_bytesToHold_38 : decode b_X_bytesToHold 38 = .ok (.iconst 1, 1) := by decide +kernel
theorem d_X_bytesToHold_39 : decode b_X_bytesToHold 39 = .ok (.isub, 1) := by decide +kernel
theorem d_X_bytesToHold_40 : decode b_X_bytesToHold 40 = .ok (.bipush 8, 2) := by decide +kernel
theorem d_X_bytesToHold_42 : decode b_X_bytesToHold 42 = .ok (.idiv, 1) := by decide +kernel
theorem d_X_bytesToHold_43 : decode b_X_bytesToHold 43 = .ok (.invokestatic 152, 3) := by decide +kernel
theorem d_X_bytesToHold_46 : decode b_X_bytesToHold 46 = .ok (.ireturn, 1) := by decide +kernel
theorem d_X_numberWidth_0 : decode b_X_numberWidth 0 = .ok (.iload_n 0, 1) := by decide +kernel
theorem d_X_numberWidth_1 : decode b_X_numberWidth 1 = .ok (.iconst 2, 1) := by decide +kernel
theorem d_X_numberWidth_2 : decode b_X_numberWidth 2 = .ok (.if_icmp .ne 13, 3) := by decide +kernel
theorem d_X_numberWidth_5 : decode b_X_numberWidth 5 = .ok (.lload_n 1, 1) := by decide +kernel
theorem d_X_numberWidth_6 : decode b_X_numberWidth 6 = .ok (.invokestatic 60, 3) := by decide +kernel
theorem d_X_numberWidth_9 : decode b_X_numberWidth 9 = .ok (.ifCond .eq 6, 3) := by decide +kernel
theorem d_X_numberWidth_12 : decode b_X_numberWidth 12 = .ok (.bipush 7, 2) := by decide +kernel
theorem d_X_numberWidth_14 : decode b_X_numberWidth 14 = .ok (.ireturn, 1) := by decide +kernel
theorem d_X_numberWidth_15 : decode b_X_numberWidth 15 = .ok (.iload_n 0, 1) := by decide +kernel
theorem d_X_numberWidth_16 : decode b_X_numberWidth 16 = .ok (.lload_n 1, 1) := by decide +kernel
theorem d_X_numberWidth_17 : decode b_X_numberWidth 17 = .ok (.invokestatic 124, 3) := by decide +kernel
theorem d_X_numberWidth_20 : decode b_X_numberWidth 20 = .ok (.istore_n 3, 1) := by decide +kernel
theorem d_X_numberWidth_21 : decode b_X_numberWidth 21 = .ok (.iload_n 0, 1) := by decide +kernel
theorem d_X_numberWidth_22 : decode b_X_numberWidth 22 = .ok (.iconst 2, 1) := by decide +kernel
theorem d_X_numberWidth_23 : decode b_X_numberWidth 23 = .ok (.if_icmp .ne 7, 3) := by decide +kernel
theorem d_X_numberWidth_26 : decode b_X_numberWidth 26 = .ok (.iconst 1, 1) := by decide +kernel
theorem d_X_numberWidth_27 : decode b_X_numberWidth 27 = .ok (.goto 4, 3) := by decide +kernel
theorem d_X_numberWidth_30 : decode b_X_numberWidth 30 = .ok (.iconst 0, 1) := by decide +kernel
theorem d_X_numberWidth_31 : decode b_X_numberWidth 31 = .ok (.iload_n 3, 1) := by decide +kernel
theorem d_X_numberWidth_32 : decode b_X_numberWidth 32 = .ok (.invokestatic 50, 3) := by decide +kernel
theorem d_X_numberWidth_35 : decode b_X_numberWidth 35 = .ok (.iadd, 1) := by decide +kernel
theorem d_X_numberWidth_36 : decode b_X_numberWidth 36 = .ok (.iload_n 3, 1) := by decide +kernel
theorem d_X_numberWidth_37 : decode b_X_numberWidth 37 = .ok (.bipush 8, 2) := by decide +kernel
theorem d_X_numberWidth_39 : decode b_X_numberWidth 39 = .ok (.imul, 1) := by decide +kernel
theorem d_X_numberWidth_40 : decode b_X_numberWidth 40 = .ok (.iadd, 1) := by decide +kernel
theorem d_X_numberWidth_41 : decode b_X_numberWidth 41 = .ok (.ireturn, 1) := by decide +kernel
theorem d_X_fill_0 : decode b_X_fill 0 = .ok (.aload_n 0, 1) := by decide +kernel
theorem d_X_fill_1 : decode b_X_fill 1 = .ok (.getfield 13, 3) := by decide +kernel
theorem d_X_fill_4 : decode b_X_fill 4 = .ok (.ifCond .ne 8, 3) := by decide +kernel
theorem d_X_fill_7 : decode b_X_fill 7 = .ok (.bipush 8, 2) := by decide +kernel
theorem d_X_fill_9 : decode b_X_fill 9 = .ok (.goto 16, 3) := by decide +kernel
theorem d_X_fill_12 : decode b_X_fill 12 = .ok (.bipush 8, 2) := by decide +kernel
theorem d_X_fill_14 : decode b_X_fill 14 = .ok (.aload_n 0, 1) := by decide +kernel
theorem d_X_fill_15 : decode b_X_fill 15 = .ok (.getfield 13, 3) := by decide +kernel
theorem d_X_fill_18 : decode b_X_fill 18 = .ok (.bipush 8, 2) := by decide +kernel
theorem d_X_fill_20 : decode b_X_fill 20 = .ok (.irem, 1) := by decide +kernel
theorem d_X_fill_21 : decode b_X_fill 21 = .ok (.isub, 1) := by decide +kernel
theorem d_X_fill_22 : decode b_X_fill 22 = .ok (.bipush 8, 2) := by decide +kernel
theorem d_X_fill_24 : decode b_X_fill 24 = .ok (.irem, 1) := by decide +kernel
theorem d_X_fill_25 : decode b_X_fill 25 = .ok (.istore_n 1, 1) := by decide +kernel
theorem d_X_fill_26 : decode b_X_fill 26 = .ok (.aload_n 0, 1) := by decide +kernel
theorem d_X_fill_27 : decode b_X_fill 27 = .ok (.iload_n 1, 1) := by decide +kernel
theorem d_X_fill_28 : decode b_X_fill 28 = .ok (.invokevirtual 24, 3) := by decide +kernel
theorem d_X_fill_31 : decode b_X_fill 31 = .ok (.aload_n 0, 1) := by decide +kernel
theorem d_X_fill_32 : decode b_X_fill 32 = .ok (.lconst 0, 1) := by decide +kernel
theorem d_X_fill_33 : decode b_X_fill 33 = .ok (.iload_n 1, 1) := by decide +kernel
theorem d_X_fill_34 : decode b_X_fill 34 = .ok (.invokevirtual 27, 3) := by decide +kernel
theorem d_X_fill_37 : decode b_X_fill 37 = .ok (.aload_n 0, 1) := by decide +kernel
theorem d_X_fill_38 : decode b_X_fill 38 = .ok (.getfield 13, 3) := by decide +kernel
theorem d_X_fill_41 : decode b_X_fill 41 = .ok (.ireturn, 1) := by decide +kernel
theorem d_X_take_0 : decode b_X_take 0 = .ok (.iload_n 1, 1) := by decide +kernel
theorem d_X_take_1 : decode b_X_take 1 = .ok (.invokestatic 20, 3) := by decide +kernel
theorem d_X_take_4 : decode b_X_take 4 = .ok (.aload_n 0, 1) := by decide +kernel
theorem d_X_take_5 : decode b_X_take 5 = .ok (.aload_n 0, 1) := by decide +kernel
theorem d_X_take_6 : decode b_X_take 6 = .ok (.getfield 17, 3) := by decide +kernel
theorem d_X_take_9 : decode b_X_take 9 = .ok (.iload_n 1, 1) := by decide +kernel
theorem d_X_take_10 : decode b_X_take 10 = .ok (.invokevirtual 68, 3) := by decide +kernel
theorem d_X_take_13 : decode b_X_take 13 = .ok (.lstore_n 2, 1) := by decide +kernel
theorem d_X_take_14 : decode b_X_take 14 = .ok (.aload_n 0, 1) := by decide +kernel
theorem d_X_take_15 : decode b_X_take 15 = .ok (.dup, 1) := by decide +kernel
theorem d_X_take_16 : decode b_X_take 16 = .ok (.getfield 17, 3) := by decide +kernel
theorem d_X_take_19 : decode b_X_take 19 = .ok (.iload_n 1, 1) := by decide +kernel
theorem d_X_take_20 : decode b_X_take 20 = .ok (.iadd, 1) := by decide +kernel
theorem d_X_take_21 : decode b_X_take 21 = .ok (.putfield 17, 3) := by decide +kernel
theorem d_X_take_24 : decode b_X_take 24 = .ok (.lload_n 2, 1) := by decide +kernel
theorem d_X_take_25 : decode b_X_take 25 = .ok (.lreturn, 1) := by decide +kernel
theorem d_X_bitsAt_0 : decode b_X_bitsAt 0 = .ok (.iload_n 2, 1) := by decide +kernel
theorem d_X_bitsAt_1 : decode b_X_bitsAt 1 = .ok (.aload_n 0, 1) := by decide +kernel
theorem d_X_bitsAt_2 : decode b_X_bitsAt 2 = .ok (.getfield 13, 3) := by decide +kernel
theorem d_X_bitsAt_5 : decode b_X_bitsAt 5 = .ok (.iload_n 1, 1) := by decide +kernel
theorem d_X_bitsAt_6 : decode b_X_bitsAt 6 = .ok (.isub, 1) := by decide +kernel
theorem d_X_bitsAt_7 : decode b_X_bitsAt 7 = .ok (.if_icmp .le 13, 3) := by decide +kernel
theorem d_X_bitsAt_10 : decode b_X_bitsAt 10 = .ok (.new 80, 3) := by decide +kernel
theorem d_X_bitsAt_13 : decode b_X_bitsAt 13 = .ok (.dup, 1) := by decide +kernel
theorem d_X_bitsAt_14 : decode b_X_bitsAt 14 = .ok (.ldc 129, 2) := by decide +kernel
theorem d_X_bitsAt_16 : decode b_X_bitsAt 16 = .ok (.invokespecial 84, 3) := by decide +kernel
theorem d_X_bitsAt_19 : decode b_X_bitsAt 19 = .ok (.athrow, 1) := by decide +kernel
theorem d_X_bitsAt_20 : decode b_X_bitsAt 20 = .ok (.lconst 0, 1) := by decide +kernel
theorem d_X_bitsAt_21 : decode b_X_bitsAt 21 = .ok (.lstore_n 3, 1) := by decide +kernel
theorem d_X_bitsAt_22 : decode b_X_bitsAt 22 = .ok (.iload_n 1, 1) := by decide +kernel
theorem d_X_bitsAt_23 : decode b_X_bitsAt 23 = .ok (.istore 5, 2) := by decide +kernel
theorem d_X_bitsAt_25 : decode b_X_bitsAt 25 = .ok (.iload 5, 2) := by decide +kernel
theorem d_X_bitsAt_27 : decode b_X_bitsAt 27 = .ok (.iload_n 1, 1) := by decide +kernel
theorem d_X_bitsAt_28 : decode b_X_bitsAt 28 = .ok (.iload_n 2, 1) := by decide +kernel
theorem d_X_bitsAt_29 : decode b_X_bitsAt 29 = .ok (.iadd, 1) := by decide +kernel
theorem d_X_bitsAt_30 : decode b_X_bitsAt 30 = .ok (.if_icmp .ge 20, 3) := by decide +kernel
theorem d_X_bitsAt_33 : decode b_X_bitsAt 33 = .ok (.lload_n 3, 1) := by decide +kernel
theorem d_X_bitsAt_34 : decode b_X_bitsAt 34 = .ok (.iconst 1, 1) := by decide +kernel
theorem d_X_bitsAt_35 : decode b_X_bitsAt 35 = .ok (.lshl, 1) := by decide +kernel
theorem d_X_bitsAt_36 : decode b_X_bitsAt 36 = .ok (.aload_n 0, 1) := by decide +kernel
theorem d_X_bitsAt_37 : decode b_X_bitsAt 37 = .ok (.iload 5, 2) := by decide +kernel
theorem d_X_bitsAt_39 : decode b_X_bitsAt 39 = .ok (.invokevirtual 104, 3) := by decide +kernel
theorem d_X_bitsAt_42 : decode b_X_bitsAt 42 = .ok (.lor, 1) := by decide +kernel
theorem d_X_bitsAt_43 : decode b_X_bitsAt 43 = .ok (.lstore_n 3, 1) := by decide +kernel
theorem d_X_bitsAt_44 : decode b_X_bitsAt 44 = .ok (.iinc 5 1, 3) := by decide +kernel
theorem d_X_bitsAt_47 : decode b_X_bitsAt 47 = .ok (.goto (-22), 3) := by decide +kernel
theorem d_X_bitsAt_50 : decode b_X_bitsAt 50 = .ok (.lload_n 3, 1) := by decide +kernel
theorem d_X_bitsAt_51 : decode b_X_bitsAt 51 = .ok (.lreturn, 1) := by decide +kernel
theorem d_X_bit_0 : decode b_X_bit 0 = .ok (.aload_n 0, 1) := by decide +kernel
theorem d_X_bit_1 : decode b_X_bit 1 = .ok (.getfield 9, 3) := by decide +kernel
theorem d_X_bit_4 : decode b_X_bit 4 = .ok (.iload_n 1, 1) := by decide +kernel
theorem d_X_bit_5 : decode b_X_bit 5 = .ok (.bipush 64, 2) := by decide +kernel
theorem d_X_bit_7 : decode b_X_bit 7 = .ok (.idiv, 1) := by decide +kernel
theorem d_X_bit_8 : decode b_X_bit 8 = .ok (.laload, 1) := by decide +kernel
theorem d_X_bit_9 : decode b_X_bit 9 = .ok (.iload_n 1, 1) := by decide +kernel
theorem d_X_bit_10 : decode b_X_bit 10 = .ok (.bipush 64, 2) := by decide +kernel
theorem d_X_bit_12 : decode b_X_bit 12 = .ok (.irem, 1) := by decide +kernel
theorem d_X_bit_13 : decode b_X_bit 13 = .ok (.lushr, 1) := by decide +kernel
theorem d_X_bit_14 : decode b_X_bit 14 = .ok (.lconst 1, 1) := by decide +kernel
theorem d_X_bit_15 : decode b_X_bit 15 = .ok (.land, 1) := by decide +kernel
theorem d_X_bit_16 : decode b_X_bit 16 = .ok (.lreturn, 1) := by decide +kernel
theorem d_X_takeRange_0 : decode b_X_takeRange 0 = .ok (.lload_n 1, 1) := by decide +kernel
theorem d_X_takeRange_1 : decode b_X_takeRange 1 = .ok (.lload_n 3, 1) := by decide +kernel
theorem d_X_takeRange_2 : decode b_X_takeRange 2 = .ok (.lcmp, 1) := by decide +kernel
theorem d_X_takeRange_3 : decode b_X_takeRange 3 = .ok (.ifCond .le 13, 3) := by decide +kernel
theorem d_X_takeRange_6 : decode b_X_takeRange 6 = .ok (.new 31, 3) := by decide +kernel
theorem d_X_takeRange_9 : decode b_X_takeRange 9 = .ok (.dup, 1) := by decide +kernel
theorem d_X_takeRange_10 : decode b_X_takeRange 10 = .ok (.ldc 72, 2) := by decide +kernel
theorem d_X_takeRange_12 : decode b_X_takeRange 12 = .ok (.invokespecial 35, 3) := by decide +kernel
theorem d_X_takeRange_15 : decode b_X_takeRange 15 = .ok (.athrow, 1) := by decide +kernel
theorem d_X_takeRange_16 : decode b_X_takeRange 16 = .ok (.lload_n 3, 1) := by decide +kernel
theorem d_X_takeRange_17 : decode b_X_takeRange 17 = .ok (.lload_n 1, 1) := by decide +kernel
theorem d_X_takeRange_18 : decode b_X_takeRange 18 = .ok (.lsub, 1) := by decide +kernel
theorem d_X_takeRange_19 : decode b_X_takeRange 19 = .ok (.invokestatic 38, 3) := by decide +kernel
theorem d_X_takeRange_22 : decode b_X_takeRange 22 = .ok (.istore 5, 2) := by decide +kernel
theorem d_X_takeRange_24 : decode b_X_takeRange 24 = .ok (.aload_n 0, 1) := by decide +kernel
theorem d_X_takeRange_25 : decode b_X_takeRange 25 = .ok (.aload_n 0, 1) := by decide +kernel
theorem d_X_takeRange_26 : decode b_X_takeRange 26 = .ok (.getfield 17, 3) := by decide +kernel
theorem d_X_takeRange_29 : decode b_X_takeRange 29 = .ok (.iload 5, 2) := by decide +kernel
theorem d_X_takeRange_31 : decode b_X_takeRange 31 = .ok (.invokevirtual 68, 3) := by decide +kernel
theorem d_X_takeRange_34 : decode b_X_takeRange 34 = .ok (.lstore 6, 2) := by decide +kernel
theorem d_X_takeRange_36 : decode b_X_takeRange 36 = .ok (.lload 6, 2) := by decide +kernel
theorem d_X_takeRange_38 : decode b_X_takeRange 38 = .ok (.lload_n 3, 1) := by decide +kernel
theorem d_X_takeRange_39 : decode b_X_takeRange 39 = .ok (.lload_n 1, 1) := by decide +kernel
theorem d_X_takeRange_40 : decode b_X_takeRange 40 = .ok (.lsub, 1) := by decide +kernel
theorem d_X_takeRange_41 : decode b_X_takeRange 41 = .ok (.invokestatic 74, 3) := by decide +kernel
theorem d_X_takeRange_44 : decode b_X_takeRange 44 = .ok (.ifCond .le 13, 3) := by decide +kernel
theorem d_X_takeRange_47 : decode b_X_takeRange 47 = .ok (.new 80, 3) := by decide +kernel
theorem d_X_takeRange_50 : decode b_X_takeRange 50 = .ok (.dup, 1) := by decide +kernel
theorem d_X_takeRange_51 : decode b_X_takeRange 51 = .ok (.ldc 82, 2) := by decide +kernel
theorem d_X_takeRange_53 : decode b_X_takeRange 53 = .ok (.invokespecial 84, 3) := by decide +kernel
theorem d_X_takeRange_56 : decode b_X_takeRange 56 = .ok (.athrow, 1) := by decide +kernel
theorem d_X_takeRange_57 : decode b_X_takeRange 57 = .ok (.aload_n 0, 1) := by decide +kernel
theorem d_X_takeRange_58 : decode b_X_takeRange 58 = .ok (.dup, 1) := by decide +kernel
theorem d_X_takeRange_59 : decode b_X_takeRange 59 = .ok (.getfield 17, 3) := by decide +kernel
theorem d_X_takeRange_62 : decode b_X_takeRange 62 = .ok (.iload 5, 2) := by decide +kernel
theorem d_X_takeRange_64 : decode b_X_takeRange 64 = .ok (.iadd, 1) := by decide +kernel
theorem d_X_takeRange_65 : decode b_X_takeRange 65 = .ok (.putfield 17, 3) := by decide +kernel
theorem d_X_takeRange_68 : decode b_X_takeRange 68 = .ok (.lload_n 1, 1) := by decide +kernel
theorem d_X_takeRange_69 : decode b_X_takeRange 69 = .ok (.lload 6, 2) := by decide +kernel
theorem d_X_takeRange_71 : decode b_X_takeRange 71 = .ok (.ladd, 1) := by decide +kernel
theorem d_X_takeRange_72 : decode b_X_takeRange 72 = .ok (.lreturn, 1) := by decide +kernel
theorem d_X_takeLength_0 : decode b_X_takeLength 0 = .ok (.aload_n 0, 1) := by decide +kernel
theorem d_X_takeLength_1 : decode b_X_takeLength 1 = .ok (.aload_n 0, 1) := by decide +kernel
theorem d_X_takeLength_2 : decode b_X_takeLength 2 = .ok (.getfield 17, 3) := by decide +kernel
theorem d_X_takeLength_5 : decode b_X_takeLength 5 = .ok (.invokevirtual 85, 3) := by decide +kernel
theorem d_X_takeLength_8 : decode b_X_takeLength 8 = .ok (.istore_n 1, 1) := by decide +kernel
theorem d_X_takeLength_9 : decode b_X_takeLength 9 = .ok (.aload_n 0, 1) := by decide +kernel
theorem d_X_takeLength_10 : decode b_X_takeLength 10 = .ok (.dup, 1) := by decide +kernel
theorem d_X_takeLength_11 : decode b_X_takeLength 11 = .ok (.getfield 17, 3) := by decide +kernel
theorem d_X_takeLength_14 : decode b_X_takeLength 14 = .ok (.iload_n 1, 1) := by decide +kernel
theorem d_X_takeLength_15 : decode b_X_takeLength 15 = .ok (.invokestatic 50, 3) := by decide +kernel
theorem d_X_takeLength_18 : decode b_X_takeLength 18 = .ok (.iadd, 1) := by decide +kernel
theorem d_X_takeLength_19 : decode b_X_takeLength 19 = .ok (.putfield 17, 3) := by decide +kernel
theorem d_X_takeLength_22 : decode b_X_takeLength 22 = .ok (.iload_n 1, 1) := by decide +kernel
theorem d_X_takeLength_23 : decode b_X_takeLength 23 = .ok (.ireturn, 1) := by decide +kernel
theorem d_X_lengthAt_0 : decode b_X_lengthAt 0 = .ok (.aload_n 0, 1) := by decide +kernel
theorem d_X_lengthAt_1 : decode b_X_lengthAt 1 = .ok (.iload_n 1, 1) := by decide +kernel
theorem d_X_lengthAt_2 : decode b_X_lengthAt 2 = .ok (.iconst 1, 1) := by decide +kernel
theorem d_X_lengthAt_3 : decode b_X_lengthAt 3 = .ok (.invokevirtual 68, 3) := by decide +kernel
theorem d_X_lengthAt_6 : decode b_X_lengthAt 6 = .ok (.lconst 0, 1) := by decide +kernel
theorem d_X_lengthAt_7 : decode b_X_lengthAt 7 = .ok (.lcmp, 1) := by decide +kernel
theorem d_X_lengthAt_8 : decode b_X_lengthAt 8 = .ok (.ifCond .ne 14, 3) := by decide +kernel
theorem d_X_lengthAt_11 : decode b_X_lengthAt 11 = .ok (.aload_n 0, 1) := by decide +kernel
theorem d_X_lengthAt_12 : decode b_X_lengthAt 12 = .ok (.iload_n 1, 1) := by decide +kernel
theorem d_X_lengthAt_13 : decode b_X_lengthAt 13 = .ok (.iconst 1, 1) := by decide +kernel
theorem d_X_lengthAt_14 : decode b_X_lengthAt 14 = .ok (.iadd, 1) := by decide +kernel
theorem d_X_lengthAt_15 : decode b_X_lengthAt 15 = .ok (.bipush 7, 2) := by decide +kernel
theorem d_X_lengthAt_17 : decode b_X_lengthAt 17 = .ok (.invokevirtual 68, 3) := by decide +kernel
theorem d_X_lengthAt_20 : decode b_X_lengthAt 20 = .ok (.l2i, 1) := by decide +kernel
theorem d_X_lengthAt_21 : decode b_X_lengthAt 21 = .ok (.ireturn, 1) := by decide +kernel
theorem d_X_lengthAt_22 : decode b_X_lengthAt 22 = .ok (.aload_n 0, 1) := by decide +kernel
theorem d_X_lengthAt_23 : decode b_X_lengthAt 23 = .ok (.iload_n 1, 1) := by decide +kernel
theorem d_X_lengthAt_24 : decode b_X_lengthAt 24 = .ok (.iconst 1, 1) := by decide +kernel
theorem d_X_lengthAt_25 : decode b_X_lengthAt 25 = .ok (.iadd, 1) := by decide +kernel
theorem d_X_lengthAt_26 : decode b_X_lengthAt 26 = .ok (.iconst 1, 1) := by decide +kernel
theorem d_X_lengthAt_27 : decode b_X_lengthAt 27 = .ok (.invokevirtual 68, 3) := by decide +kernel
theorem d_X_lengthAt_30 : decode b_X_lengthAt 30 = .ok (.lconst 0, 1) := by decide +kernel
theorem d_X_lengthAt_31 : decode b_X_lengthAt 31 = .ok (.lcmp, 1) := by decide +kernel
theorem d_X_lengthAt_32 : decode b_X_lengthAt 32 = .ok (.ifCond .ne 13, 3) := by decide +kernel
theorem d_X_lengthAt_35 : decode b_X_lengthAt 35 = .ok (.aload_n 0, 1) := by decide +kernel
theorem d_X_lengthAt_36 : decode b_X_lengthAt 36 = .ok (.iload_n 1, 1) := by decide +kernel
theorem d_X_lengthAt_37 : decode b_X_lengthAt 37 = .ok (.iconst 2, 1) := by decide +kernel
theorem d_X_lengthAt_38 : decode b_X_lengthAt 38 = .ok (.iadd, 1) := by decide +kernel
theorem d_X_lengthAt_39 : decode b_X_lengthAt 39 = .ok (.invokevirtual 131, 3) := by decide +kernel
theorem d_X_lengthAt_42 : decode b_X_lengthAt 42 = .ok (.goto 10, 3) := by decide +kernel
theorem d_X_lengthAt_45 : decode b_X_lengthAt 45 = .ok (.aload_n 0, 1) := by decide +kernel
theorem d_X_lengthAt_46 : decode b_X_lengthAt 46 = .ok (.iload_n 1, 1) := by decide +kernel
theorem d_X_lengthAt_47 : decode b_X_lengthAt 47 = .ok (.iconst 2, 1) := by decide +kernel
theorem d_X_lengthAt_48 : decode b_X_lengthAt 48 = .ok (.iadd, 1) := by decide +kernel
theorem d_X_lengthAt_49 : decode b_X_lengthAt 49 = .ok (.invokevirtual 134, 3) := by decide +kernel
theorem d_X_lengthAt_52 : decode b_X_lengthAt 52 = .ok (.ireturn, 1) := by decide +kernel
theorem d_X_longLengthAt_0 : decode b_X_longLengthAt 0 = .ok (.aload_n 0, 1) := by decide +kernel
theorem d_X_longLengthAt_1 : decode b_X_longLengthAt 1 = .ok (.iload_n 1, 1) := by decide +kernel
theorem d_X_longLengthAt_2 : decode b_X_longLengthAt 2 = .ok (.bipush 14, 2) := by decide +kernel
theorem d_X_longLengthAt_4 : decode b_X_longLengthAt 4 = .ok (.invokevirtual 68, 3) := by decide +kernel
theorem d_X_longLengthAt_7 : decode b_X_longLengthAt 7 = .ok (.l2i, 1) := by decide +kernel
theorem d_X_longLengthAt_8 : decode b_X_longLengthAt 8 = .ok (.istore_n 2, 1) := by decide +kernel
theorem d_X_longLengthAt_9 : decode b_X_longLengthAt 9 = .ok (.iload_n 2, 1) := by decide +kernel
theorem d_X_longLengthAt_10 : decode b_X_longLengthAt 10 = .ok (.sipush 128, 3) := by decide +kernel
theorem d_X_longLengthAt_13 : decode b_X_longLengthAt 13 = .ok (.if_icmp .ge 13, 3) := by decide +kernel
theorem d_X_longLengthAt_16 : decode b_X_longLengthAt 16 = .ok (.new 80, 3) := by decide +kernel
theorem d_X_longLengthAt_19 : decode b_X_longLengthAt 19 = .ok (.dup, 1) := by decide +kernel
theorem d_X_longLengthAt_20 : decode b_X_longLengthAt 20 = .ok (.ldc 137, 2) := by decide +kernel
theorem d_X_longLengthAt_22 : decode b_X_longLengthAt 22 = .ok (.invokespecial 84, 3) := by decide +kernel
theorem d_X_longLengthAt_25 : decode b_X_longLengthAt 25 = .ok (.athrow, 1) := by decide +kernel
theorem d_X_longLengthAt_26 : decode b_X_longLengthAt 26 = .ok (.iload_n 2, 1) := by decide +kernel
theorem d_X_longLengthAt_27 : decode b_X_longLengthAt 27 = .ok (.ireturn, 1) := by decide +kernel
theorem d_X_piecesAt_0 : decode b_X_piecesAt 0 = .ok (.aload_n 0, 1) := by decide +kernel
theorem d_X_piecesAt_1 : decode b_X_piecesAt 1 = .ok (.iload_n 1, 1) := by decide +kernel
theorem d_X_piecesAt_2 : decode b_X_piecesAt 2 = .ok (.bipush 6, 2) := by decide +kernel
theorem d_X_piecesAt_4 : decode b_X_piecesAt 4 = .ok (.invokevirtual 68, 3) := by decide +kernel
theorem d_X_piecesAt_7 : decode b_X_piecesAt 7 = .ok (.l2i, 1) := by decide +kernel
theorem d_X_piecesAt_8 : decode b_X_piecesAt 8 = .ok (.istore_n 2, 1) := by decide +kernel
theorem d_X_piecesAt_9 : decode b_X_piecesAt 9 = .ok (.iload_n 2, 1) := by decide +kernel
theorem d_X_piecesAt_10 : decode b_X_piecesAt 10 = .ok (.iconst 1, 1) := by decide +kernel
theorem d_X_piecesAt_11 : decode b_X_piecesAt 11 = .ok (.if_icmp .lt 8, 3) := by decide +kernel
theorem d_X_piecesAt_14 : decode b_X_piecesAt 14 = .ok (.iload_n 2, 1) := by decide +kernel
theorem d_X_piecesAt_15 : decode b_X_piecesAt 15 = .ok (.iconst 4, 1) := by decide +kernel
theorem d_X_piecesAt_16 : decode b_X_piecesAt 16 = .ok (.if_icmp .le 13, 3) := by decide +kernel
theorem d_X_piecesAt_19 : decode b_X_piecesAt 19 = .ok (.new 80, 3) := by decide +kernel
theorem d_X_piecesAt_22 : decode b_X_piecesAt 22 = .ok (.dup, 1) := by decide +kernel
theorem d_X_piecesAt_23 : decode b_X_piecesAt 23 = .ok (.ldc 139, 2) := by decide +kernel
theorem d_X_piecesAt_25 : decode b_X_piecesAt 25 = .ok (.invokespecial 84, 3) := by decide +kernel
theorem d_X_piecesAt_28 : decode b_X_piecesAt 28 = .ok (.athrow, 1) := by decide +kernel
theorem d_X_piecesAt_29 : decode b_X_piecesAt 29 = .ok (.iload_n 2, 1) := by decide +kernel
theorem d_X_piecesAt_30 : decode b_X_piecesAt 30 = .ok (.sipush 16384, 3) := by decide +kernel
theorem d_X_piecesAt_33 : decode b_X_piecesAt 33 = .ok (.imul, 1) := by decide +kernel
theorem d_X_piecesAt_34 : decode b_X_piecesAt 34 = .ok (.ireturn, 1) := by decide +kernel
theorem d_X_takeNumber_0 : decode b_X_takeNumber 0 = .ok (.iload_n 1, 1) := by decide +kernel
theorem d_X_takeNumber_1 : decode b_X_takeNumber 1 = .ok (.invokestatic 57, 3) := by decide +kernel
theorem d_X_takeNumber_4 : decode b_X_takeNumber 4 = .ok (.iload_n 1, 1) := by decide +kernel
theorem d_X_takeNumber_5 : decode b_X_takeNumber 5 = .ok (.iconst 2, 1) := by decide +kernel
theorem d_X_takeNumber_6 : decode b_X_takeNumber 6 = .ok (.if_icmp .ne 14, 3) := by decide +kernel
theorem d_X_takeNumber_9 : decode b_X_takeNumber 9 = .ok (.aload_n 0, 1) := by decide +kernel
theorem d_X_takeNumber_10 : decode b_X_takeNumber 10 = .ok (.aload_n 0, 1) := by decide +kernel
theorem d_X_takeNumber_11 : decode b_X_takeNumber 11 = .ok (.getfield 17, 3) := by decide +kernel
theorem d_X_takeNumber_14 : decode b_X_takeNumber 14 = .ok (.invokevirtual 88, 3) := by decide +kernel
theorem d_X_takeNumber_17 : decode b_X_takeNumber 17 = .ok (.goto 12, 3) := by decide +kernel
theorem d_X_takeNumber_20 : decode b_X_takeNumber 20 = .ok (.aload_n 0, 1) := by decide +kernel
theorem d_X_takeNumber_21 : decode b_X_takeNumber 21 = .ok (.iload_n 1, 1) := by decide +kernel
theorem d_X_takeNumber_22 : decode b_X_takeNumber 22 = .ok (.aload_n 0, 1) := by decide +kernel
theorem d_X_takeNumber_23 : decode b_X_takeNumber 23 = .ok (.getfield 17, 3) := by decide +kernel
theorem d_X_takeNumber_26 : decode b_X_takeNumber 26 = .ok (.invokevirtual 92, 3) := by decide +kernel
theorem d_X_takeNumber_29 : decode b_X_takeNumber 29 = .ok (.lstore_n 2, 1) := by decide +kernel
theorem d_X_takeNumber_30 : decode b_X_takeNumber 30 = .ok (.aload_n 0, 1) := by decide +kernel
theorem d_X_takeNumber_31 : decode b_X_takeNumber 31 = .ok (.dup, 1) := by decide +kernel
theorem d_X_takeNumber_32 : decode b_X_takeNumber 32 = .ok (.getfield 17, 3) := by decide +kernel
theorem d_X_takeNumber_35 : decode b_X_takeNumber 35 = .ok (.iload_n 1, 1) := by decide +kernel
theorem d_X_takeNumber_36 : decode b_X_takeNumber 36 = .ok (.lload_n 2, 1) := by decide +kernel
theorem d_X_takeNumber_37 : decode b_X_takeNumber 37 = .ok (.invokestatic 95, 3) := by decide +kernel
theorem d_X_takeNumber_40 : decode b_X_takeNumber 40 = .ok (.iadd, 1) := by decide +kernel
theorem d_X_takeNumber_41 : decode b_X_takeNumber 41 = .ok (.putfield 17, 3) := by decide +kernel
theorem d_X_takeNumber_44 : decode b_X_takeNumber 44 = .ok (.lload_n 2, 1) := by decide +kernel
theorem d_X_takeNumber_45 : decode b_X_takeNumber 45 = .ok (.lreturn, 1) := by decide +kernel
theorem d_X_smallAt_0 : decode b_X_smallAt 0 = .ok (.aload_n 0, 1) := by decide +kernel
theorem d_X_smallAt_1 : decode b_X_smallAt 1 = .ok (.iload_n 1, 1) := by decide +kernel
theorem d_X_smallAt_2 : decode b_X_smallAt 2 = .ok (.iconst 1, 1) := by decide +kernel
theorem d_X_smallAt_3 : decode b_X_smallAt 3 = .ok (.invokevirtual 68, 3) := by decide +kernel
theorem d_X_smallAt_6 : decode b_X_smallAt 6 = .ok (.lconst 0, 1) := by decide +kernel
theorem d_X_smallAt_7 : decode b_X_smallAt 7 = .ok (.lcmp, 1) := by decide +kernel
theorem d_X_smallAt_8 : decode b_X_smallAt 8 = .ok (.ifCond .ne 13, 3) := by decide +kernel
theorem d_X_smallAt_11 : decode b_X_smallAt 11 = .ok (.aload_n 0, 1) := by decide +kernel
theorem d_X_smallAt_12 : decode b_X_smallAt 12 = .ok (.iload_n 1, 1) := by decide +kernel
theorem d_X_smallAt_13 : decode b_X_smallAt 13 = .ok (.iconst 1, 1) := by decide +kernel
theorem d_X_smallAt_14 : decode b_X_smallAt 14 = .ok (.iadd, 1) := by decide +kernel
theorem d_X_smallAt_15 : decode b_X_smallAt 15 = .ok (.bipush 6, 2) := by decide +kernel
theorem d_X_smallAt_17 : decode b_X_smallAt 17 = .ok (.invokevirtual 68, 3) := by decide +kernel
theorem d_X_smallAt_20 : decode b_X_smallAt 20 = .ok (.lreturn, 1) := by decide +kernel
theorem d_X_smallAt_21 : decode b_X_smallAt 21 = .ok (.aload_n 0, 1) := by decide +kernel
theorem d_X_smallAt_22 : decode b_X_smallAt 22 = .ok (.iconst 0, 1) := by decide +kernel
theorem d_X_smallAt_23 : decode b_X_smallAt 23 = .ok (.iload_n 1, 1) := by decide +kernel
theorem d_X_smallAt_24 : decode b_X_smallAt 24 = .ok (.iconst 1, 1) := by decide +kernel
theorem d_X_smallAt_25 : decode b_X_smallAt 25 = .ok (.iadd, 1) := by decide +kernel
theorem d_X_smallAt_26 : decode b_X_smallAt 26 = .ok (.invokevirtual 92, 3) := by decide +kernel
theorem d_X_smallAt_29 : decode b_X_smallAt 29 = .ok (.lstore_n 2, 1) := by decide +kernel
theorem d_X_smallAt_30 : decode b_X_smallAt 30 = .ok (.lload_n 2, 1) := by decide +kernel
theorem d_X_smallAt_31 : decode b_X_smallAt 31 = .ok (.invokestatic 60, 3) := by decide +kernel
theorem d_X_smallAt_34 : decode b_X_smallAt 34 = .ok (.ifCond .eq 13, 3) := by decide +kernel
theorem d_X_smallAt_37 : decode b_X_smallAt 37 = .ok (.new 80, 3) := by decide +kernel
theorem d_X_smallAt_40 : decode b_X_smallAt 40 = .ok (.dup, 1) := by decide +kernel
theorem d_X_smallAt_41 : decode b_X_smallAt 41 = .ok (.ldc 141, 2) := by decide +kernel
theorem d_X_smallAt_43 : decode b_X_smallAt 43 = .ok (.invokespecial 84, 3) := by decide +kernel
theorem d_X_smallAt_46 : decode b_X_smallAt 46 = .ok (.athrow, 1) := by decide +kernel
theorem d_X_smallAt_47 : decode b_X_smallAt 47 = .ok (.lload_n 2, 1) := by decide +kernel
theorem d_X_smallAt_48 : decode b_X_smallAt 48 = .ok (.lreturn, 1) := by decide +kernel
theorem d_X_numberAt_0 : decode b_X_numberAt 0 = .ok (.aload_n 0, 1) := by decide +kernel
theorem d_X_numberAt_1 : decode b_X_numberAt 1 = .ok (.iload_n 2, 1) := by decide +kernel
theorem d_X_numberAt_2 : decode b_X_numberAt 2 = .ok (.invokevirtual 85, 3) := by decide +kernel
theorem d_X_numberAt_5 : decode b_X_numberAt 5 = .ok (.istore_n 3, 1) := by decide +kernel
theorem d_X_numberAt_6 : decode b_X_numberAt 6 = .ok (.iload_n 3, 1) := by decide +kernel
theorem d_X_numberAt_7 : decode b_X_numberAt 7 = .ok (.iconst 1, 1) := by decide +kernel
theorem d_X_numberAt_8 : decode b_X_numberAt 8 = .ok (.if_icmp .lt 9, 3) := by decide +kernel
theorem d_X_numberAt_11 : decode b_X_numberAt 11 = .ok (.iload_n 3, 1) := by decide +kernel
theorem d_X_numberAt_12 : decode b_X_numberAt 12 = .ok (.bipush 8, 2) := by decide +kernel
theorem d_X_numberAt_14 : decode b_X_numberAt 14 = .ok (.if_icmp .le 13, 3) := by decide +kernel
theorem d_X_numberAt_17 : decode b_X_numberAt 17 = .ok (.new 80, 3) := by decide +kernel
theorem d_X_numberAt_20 : decode b_X_numberAt 20 = .ok (.dup, 1) := by decide +kernel
theorem d_X_numberAt_21 : decode b_X_numberAt 21 = .ok (.ldc 143, 2) := by decide +kernel
theorem d_X_numberAt_23 : decode b_X_numberAt 23 = .ok (.invokespecial 84, 3) := by decide +kernel
theorem d_X_numberAt_26 : decode b_X_numberAt 26 = .ok (.athrow, 1) := by decide +kernel
theorem d_X_numberAt_27 : decode b_X_numberAt 27 = .ok (.iload_n 3, 1) := by decide +kernel
theorem d_X_numberAt_28 : decode b_X_numberAt 28 = .ok (.bipush 8, 2) := by decide +kernel
theorem d_X_numberAt_30 : decode b_X_numberAt 30 = .ok (.imul, 1) := by decide +kernel
theorem d_X_numberAt_31 : decode b_X_numberAt 31 = .ok (.istore 4, 2) := by decide +kernel
theorem d_X_numberAt_33 : decode b_X_numberAt 33 = .ok (.aload_n 0, 1) := by decide +kernel
theorem d_X_numberAt_34 : decode b_X_numberAt 34 = .ok (.iload_n 2, 1) := by decide +kernel
theorem d_X_numberAt_35 : decode b_X_numberAt 35 = .ok (.iload_n 3, 1) := by decide +kernel
theorem d_X_numberAt_36 : decode b_X_numberAt 36 = .ok (.invokestatic 50, 3) := by decide +kernel
theorem d_X_numberAt_39 : decode b_X_numberAt 39 = .ok (.iadd, 1) := by decide +kernel
theorem d_X_numberAt_40 : decode b_X_numberAt 40 = .ok (.iload 4, 2) := by decide +kernel
theorem d_X_numberAt_42 : decode b_X_numberAt 42 = .ok (.invokevirtual 68, 3) := by decide +kernel
theorem d_X_numberAt_45 : decode b_X_numberAt 45 = .ok (.lstore 5, 2) := by decide +kernel
theorem d_X_numberAt_47 : decode b_X_numberAt 47 = .ok (.iload_n 1, 1) := by decide +kernel
theorem d_X_numberAt_48 : decode b_X_numberAt 48 = .ok (.iconst 1, 1) := by decide +kernel
theorem d_X_numberAt_49 : decode b_X_numberAt 49 = .ok (.if_icmp .ne 19, 3) := by decide +kernel
theorem d_X_numberAt_52 : decode b_X_numberAt 52 = .ok (.lload 5, 2) := by decide +kernel
theorem d_X_numberAt_54 : decode b_X_numberAt 54 = .ok (.bipush 64, 2) := by decide +kernel
theorem d_X_numberAt_56 : decode b_X_numberAt 56 = .ok (.iload 4, 2) := by decide +kernel
theorem d_X_numberAt_58 : decode b_X_numberAt 58 = .ok (.isub, 1) := by decide +kernel
theorem d_X_numberAt_59 : decode b_X_numberAt 59 = .ok (.lshl, 1) := by decide +kernel
theorem d_X_numberAt_60 : decode b_X_numberAt 60 = .ok (.bipush 64, 2) := by decide +kernel
theorem d_X_numberAt_62 : decode b_X_numberAt 62 = .ok (.iload 4, 2) := by decide +kernel
theorem d_X_numberAt_64 : decode b_X_numberAt 64 = .ok (.isub, 1) := by decide +kernel
theorem d_X_numberAt_65 : decode b_X_numberAt 65 = .ok (.lshr, 1) := by decide +kernel
theorem d_X_numberAt_66 : decode b_X_numberAt 66 = .ok (.lstore 5, 2) := by decide +kernel
theorem d_X_numberAt_68 : decode b_X_numberAt 68 = .ok (.iload_n 1, 1) := by decide +kernel
theorem d_X_numberAt_69 : decode b_X_numberAt 69 = .ok (.lload 5, 2) := by decide +kernel
theorem d_X_numberAt_71 : decode b_X_numberAt 71 = .ok (.invokestatic 124, 3) := by decide +kernel
theorem d_X_numberAt_74 : decode b_X_numberAt 74 = .ok (.iload_n 3, 1) := by decide +kernel
theorem d_X_numberAt_75 : decode b_X_numberAt 75 = .ok (.if_icmp .eq 13, 3) := by decide +kernel
theorem d_X_numberAt_78 : decode b_X_numberAt 78 = .ok (.new 80, 3) := by decide +kernel
theorem d_X_numberAt_81 : decode b_X_numberAt 81 = .ok (.dup, 1) := by decide +kernel
theorem d_X_numberAt_82 : decode b_X_numberAt 82 = .ok (.ldc 145, 2) := by decide +kernel
theorem d_X_numberAt_84 : decode b_X_numberAt 84 = .ok (.invokespecial 84, 3) := by decide +kernel
theorem d_X_numberAt_87 : decode b_X_numberAt 87 = .ok (.athrow, 1) := by decide +kernel
theorem d_X_numberAt_88 : decode b_X_numberAt 88 = .ok (.lload 5, 2) := by decide +kernel
theorem d_X_numberAt_90 : decode b_X_numberAt 90 = .ok (.lreturn, 1) := by decide +kernel
theorem d_X_go_0 : decode b_X_go 0 = .ok (.aload_n 0, 1) := by decide +kernel
theorem d_X_go_1 : decode b_X_go 1 = .ok (.iload_n 1, 1) := by decide +kernel
theorem d_X_go_2 : decode b_X_go 2 = .ok (.invokevirtual 99, 3) := by decide +kernel
theorem d_X_go_5 : decode b_X_go 5 = .ok (.aload_n 0, 1) := by decide +kernel
theorem d_X_go_6 : decode b_X_go 6 = .ok (.getfield 17, 3) := by decide +kernel
theorem d_X_go_9 : decode b_X_go 9 = .ok (.istore_n 2, 1) := by decide +kernel
theorem d_X_go_10 : decode b_X_go 10 = .ok (.aload_n 0, 1) := by decide +kernel
theorem d_X_go_11 : decode b_X_go 11 = .ok (.iload_n 1, 1) := by decide +kernel
theorem d_X_go_12 : decode b_X_go 12 = .ok (.putfield 17, 3) := by decide +kernel
theorem d_X_go_15 : decode b_X_go 15 = .ok (.iload_n 2, 1) := by decide +kernel
theorem d_X_go_16 : decode b_X_go 16 = .ok (.ireturn, 1) := by decide +kernel
theorem d_X_requireCut_0 : decode b_X_requireCut 0 = .ok (.iload_n 1, 1) := by decide +kernel
theorem d_X_requireCut_1 : decode b_X_requireCut 1 = .ok (.ifCond .lt 11, 3) := by decide +kernel
theorem d_X_requireCut_4 : decode b_X_requireCut 4 = .ok (.iload_n 1, 1) := by decide +kernel
theorem d_X_requireCut_5 : decode b_X_requireCut 5 = .ok (.aload_n 0, 1) := by decide +kernel
theorem d_X_requireCut_6 : decode b_X_requireCut 6 = .ok (.getfield 13, 3) := by decide +kernel
theorem d_X_requireCut_9 : decode b_X_requireCut 9 = .ok (.if_icmp .le 13, 3) := by decide +kernel
theorem d_X_requireCut_12 : decode b_X_requireCut 12 = .ok (.new 31, 3) := by decide +kernel
theorem d_X_requireCut_15 : decode b_X_requireCut 15 = .ok (.dup, 1) := by decide +kernel
theorem d_X_requireCut_16 : decode b_X_requireCut 16 = .ok (.ldc 116, 2) := by decide +kernel
theorem d_X_requireCut_18 : decode b_X_requireCut 18 = .ok (.invokespecial 35, 3) := by decide +kernel
theorem d_X_requireCut_21 : decode b_X_requireCut 21 = .ok (.athrow, 1) := by decide +kernel
theorem d_X_requireCut_22 : decode b_X_requireCut 22 = .ok (.return_, 1) := by decide +kernel
theorem d_X_turn_0 : decode b_X_turn 0 = .ok (.iload_n 1, 1) := by decide +kernel
theorem d_X_turn_1 : decode b_X_turn 1 = .ok (.ifCond .lt 11, 3) := by decide +kernel
theorem d_X_turn_4 : decode b_X_turn 4 = .ok (.iload_n 1, 1) := by decide +kernel
theorem d_X_turn_5 : decode b_X_turn 5 = .ok (.aload_n 0, 1) := by decide +kernel
theorem d_X_turn_6 : decode b_X_turn 6 = .ok (.getfield 13, 3) := by decide +kernel
theorem d_X_turn_9 : decode b_X_turn 9 = .ok (.if_icmp .lt 13, 3) := by decide +kernel
theorem d_X_turn_12 : decode b_X_turn 12 = .ok (.new 31, 3) := by decide +kernel
theorem d_X_turn_15 : decode b_X_turn 15 = .ok (.dup, 1) := by decide +kernel
theorem d_X_turn_16 : decode b_X_turn 16 = .ok (.ldc 102, 2) := by decide +kernel
theorem d_X_turn_18 : decode b_X_turn 18 = .ok (.invokespecial 35, 3) := by decide +kernel
theorem d_X_turn_21 : decode b_X_turn 21 = .ok (.athrow, 1) := by decide +kernel
theorem d_X_turn_22 : decode b_X_turn 22 = .ok (.lconst 1, 1) := by decide +kernel
theorem d_X_turn_23 : decode b_X_turn 23 = .ok (.aload_n 0, 1) := by decide +kernel
theorem d_X_turn_24 : decode b_X_turn 24 = .ok (.iload_n 1, 1) := by decide +kernel
theorem d_X_turn_25 : decode b_X_turn 25 = .ok (.invokevirtual 104, 3) := by decide +kernel
theorem d_X_turn_28 : decode b_X_turn 28 = .ok (.lsub, 1) := by decide +kernel
theorem d_X_turn_29 : decode b_X_turn 29 = .ok (.lstore_n 2, 1) := by decide +kernel
theorem d_X_turn_30 : decode b_X_turn 30 = .ok (.aload_n 0, 1) := by decide +kernel
theorem d_X_turn_31 : decode b_X_turn 31 = .ok (.iload_n 1, 1) := by decide +kernel
theorem d_X_turn_32 : decode b_X_turn 32 = .ok (.lload_n 2, 1) := by decide +kernel
theorem d_X_turn_33 : decode b_X_turn 33 = .ok (.invokevirtual 107, 3) := by decide +kernel
theorem d_X_turn_36 : decode b_X_turn 36 = .ok (.lload_n 2, 1) := by decide +kernel
theorem d_X_turn_37 : decode b_X_turn 37 = .ok (.lconst 1, 1) := by decide +kernel
theorem d_X_turn_38 : decode b_X_turn 38 = .ok (.lcmp, 1) := by decide +kernel
theorem d_X_turn_39 : decode b_X_turn 39 = .ok (.ifCond .ne 7, 3) := by decide +kernel
theorem d_X_turn_42 : decode b_X_turn 42 = .ok (.iconst 1, 1) := by decide +kernel
theorem d_X_turn_43 : decode b_X_turn 43 = .ok (.goto 4, 3) := by decide +kernel
theorem d_X_turn_46 : decode b_X_turn 46 = .ok (.iconst 0, 1) := by decide +kernel
theorem d_X_turn_47 : decode b_X_turn 47 = .ok (.ireturn, 1) := by decide +kernel
theorem d_X_cut_0 : decode b_X_cut 0 = .ok (.aload_n 0, 1) := by decide +kernel
theorem d_X_cut_1 : decode b_X_cut 1 = .ok (.iload_n 1, 1) := by decide +kernel
theorem d_X_cut_2 : decode b_X_cut 2 = .ok (.invokevirtual 99, 3) := by decide +kernel
theorem d_X_cut_5 : decode b_X_cut 5 = .ok (.aload_n 0, 1) := by decide +kernel
theorem d_X_cut_6 : decode b_X_cut 6 = .ok (.getfield 13, 3) := by decide +kernel
theorem d_X_cut_9 : decode b_X_cut 9 = .ok (.istore_n 2, 1) := by decide +kernel
theorem d_X_cut_10 : decode b_X_cut 10 = .ok (.aload_n 0, 1) := by decide +kernel
theorem d_X_cut_11 : decode b_X_cut 11 = .ok (.iload_n 1, 1) := by decide +kernel
theorem d_X_cut_12 : decode b_X_cut 12 = .ok (.putfield 13, 3) := by decide +kernel
theorem d_X_cut_15 : decode b_X_cut 15 = .ok (.aload_n 0, 1) := by decide +kernel
theorem d_X_cut_16 : decode b_X_cut 16 = .ok (.aload_n 0, 1) := by decide +kernel
theorem d_X_cut_17 : decode b_X_cut 17 = .ok (.getfield 17, 3) := by decide +kernel
theorem d_X_cut_20 : decode b_X_cut 20 = .ok (.iload_n 1, 1) := by decide +kernel
theorem d_X_cut_21 : decode b_X_cut 21 = .ok (.invokestatic 44, 3) := by decide +kernel
theorem d_X_cut_24 : decode b_X_cut 24 = .ok (.putfield 17, 3) := by decide +kernel
theorem d_X_cut_27 : decode b_X_cut 27 = .ok (.iload_n 2, 1) := by decide +kernel
theorem d_X_cut_28 : decode b_X_cut 28 = .ok (.ireturn, 1) := by decide +kernel
theorem d_X_count_0 : decode b_X_count 0 = .ok (.iload_n 1, 1) := by decide +kernel
theorem d_X_count_1 : decode b_X_count 1 = .ok (.ifCond .eq 18, 3) := by decide +kernel
theorem d_X_count_4 : decode b_X_count 4 = .ok (.iload_n 1, 1) := by decide +kernel
theorem d_X_count_5 : decode b_X_count 5 = .ok (.iconst 1, 1) := by decide +kernel
theorem d_X_count_6 : decode b_X_count 6 = .ok (.if_icmp .eq 13, 3) := by decide +kernel
theorem d_X_count_9 : decode b_X_count 9 = .ok (.new 31, 3) := by decide +kernel
theorem d_X_count_12 : decode b_X_count 12 = .ok (.dup, 1) := by decide +kernel
theorem d_X_count_13 : decode b_X_count 13 = .ok (.ldc 110, 2) := by decide +kernel
theorem d_X_count_15 : decode b_X_count 15 = .ok (.invokespecial 35, 3) := by decide +kernel
theorem d_X_count_18 : decode b_X_count 18 = .ok (.athrow, 1) := by decide +kernel
theorem d_X_count_19 : decode b_X_count 19 = .ok (.iload_n 1, 1) := by decide +kernel
theorem d_X_count_20 : decode b_X_count 20 = .ok (.ifCond .ne 10, 3) := by decide +kernel
theorem d_X_count_23 : decode b_X_count 23 = .ok (.aload_n 0, 1) := by decide +kernel
theorem d_X_count_24 : decode b_X_count 24 = .ok (.getfield 13, 3) := by decide +kernel
theorem d_X_count_27 : decode b_X_count 27 = .ok (.goto 7, 3) := by decide +kernel
theorem d_X_count_30 : decode b_X_count 30 = .ok (.aload_n 0, 1) := by decide +kernel
theorem d_X_count_31 : decode b_X_count 31 = .ok (.getfield 17, 3) := by decide +kernel
theorem d_X_count_34 : decode b_X_count 34 = .ok (.ireturn, 1) := by decide +kernel
