theorem d_J_numberOfLeadingZeros_0 : decode b_J_numberOfLeadingZeros 0 = .ok (.lload_n 0, 1) := by decide +kernel
theorem d_J_numberOfLeadingZeros_1 : decode b_J_numberOfLeadingZeros 1 = .ok (.bipush 32, 2) := by decide +kernel
theorem d_J_numberOfLeadingZeros_3 : decode b_J_numberOfLeadingZeros 3 = .ok (.lushr, 1) := by decide +kernel
theorem d_J_numberOfLeadingZeros_4 : decode b_J_numberOfLeadingZeros 4 = .ok (.l2i, 1) := by decide +kernel
theorem d_J_numberOfLeadingZeros_5 : decode b_J_numberOfLeadingZeros 5 = .ok (.istore_n 2, 1) := by decide +kernel
theorem d_J_numberOfLeadingZeros_6 : decode b_J_numberOfLeadingZeros 6 = .ok (.iload_n 2, 1) := by decide +kernel
theorem d_J_numberOfLeadingZeros_7 : decode b_J_numberOfLeadingZeros 7 = .ok (.ifCond .ne 14, 3) := by decide +kernel
theorem d_J_numberOfLeadingZeros_10 : decode b_J_numberOfLeadingZeros 10 = .ok (.bipush 32, 2) := by decide +kernel
theorem d_J_numberOfLeadingZeros_12 : decode b_J_numberOfLeadingZeros 12 = .ok (.lload_n 0, 1) := by decide +kernel
theorem d_J_numberOfLeadingZeros_13 : decode b_J_numberOfLeadingZeros 13 = .ok (.l2i, 1) := by decide +kernel
theorem d_J_numberOfLeadingZeros_14 : decode b_J_numberOfLeadingZeros 14 = .ok (.invokestatic 308, 3) := by decide +kernel
theorem d_J_numberOfLeadingZeros_17 : decode b_J_numberOfLeadingZeros 17 = .ok (.iadd, 1) := by decide +kernel
theorem d_J_numberOfLeadingZeros_18 : decode b_J_numberOfLeadingZeros 18 = .ok (.goto 7, 3) := by decide +kernel
theorem d_J_numberOfLeadingZeros_21 : decode b_J_numberOfLeadingZeros 21 = .ok (.iload_n 2, 1) := by decide +kernel
theorem d_J_numberOfLeadingZeros_22 : decode b_J_numberOfLeadingZeros 22 = .ok (.invokestatic 308, 3) := by decide +kernel
theorem d_J_numberOfLeadingZeros_25 : decode b_J_numberOfLeadingZeros 25 = .ok (.ireturn, 1) := by decide +kernel
theorem d_I_numberOfLeadingZeros_0 : decode b_I_numberOfLeadingZeros 0 = .ok (.iload_n 0, 1) := by decide +kernel
theorem d_I_numberOfLeadingZeros_1 : decode b_I_numberOfLeadingZeros 1 = .ok (.ifCond .gt 14, 3) := by decide +kernel
theorem d_I_numberOfLeadingZeros_4 : decode b_I_numberOfLeadingZeros 4 = .ok (.iload_n 0, 1) := by decide +kernel
theorem d_I_numberOfLeadingZeros_5 : decode b_I_numberOfLeadingZeros 5 = .ok (.ifCond .ne 8, 3) := by decide +kernel
theorem d_I_numberOfLeadingZeros_8 : decode b_I_numberOfLeadingZeros 8 = .ok (.bipush 32, 2) := by decide +kernel
theorem d_I_numberOfLeadingZeros_10 : decode b_I_numberOfLeadingZeros 10 = .ok (.goto 4, 3) := by decide +kernel
theorem d_I_numberOfLeadingZeros_13 : decode b_I_numberOfLeadingZeros 13 = .ok (.iconst 0, 1) := by decide +kernel
theorem d_I_numberOfLeadingZeros_14 : decode b_I_numberOfLeadingZeros 14 = .ok (.ireturn, 1) := by decide +kernel
theorem d_I_numberOfLeadingZeros_15 : decode b_I_numberOfLeadingZeros 15 = .ok (.bipush 31, 2) := by decide +kernel
theorem d_I_numberOfLeadingZeros_17 : decode b_I_numberOfLeadingZeros 17 = .ok (.istore_n 1, 1) := by decide +kernel
theorem d_I_numberOfLeadingZeros_18 : decode b_I_numberOfLeadingZeros 18 = .ok (.iload_n 0, 1) := by decide +kernel
theorem d_I_numberOfLeadingZeros_19 : decode b_I_numberOfLeadingZeros 19 = .ok (.ldc_w 264, 3) := by decide +kernel
theorem d_I_numberOfLeadingZeros_22 : decode b_I_numberOfLeadingZeros 22 = .ok (.if_icmp .lt 11, 3) := by decide +kernel
theorem d_I_numberOfLeadingZeros_25 : decode b_I_numberOfLeadingZeros 25 = .ok (.iinc 1 (-16), 3) := by decide +kernel
theorem d_I_numberOfLeadingZeros_28 : decode b_I_numberOfLeadingZeros 28 = .ok (.iload_n 0, 1) := by decide +kernel
theorem d_I_numberOfLeadingZeros_29 : decode b_I_numberOfLeadingZeros 29 = .ok (.bipush 16, 2) := by decide +kernel
theorem d_I_numberOfLeadingZeros_31 : decode b_I_numberOfLeadingZeros 31 = .ok (.iushr, 1) := by decide +kernel
theorem d_I_numberOfLeadingZeros_32 : decode b_I_numberOfLeadingZeros 32 = .ok (.istore_n 0, 1) := by decide +kernel
theorem d_I_numberOfLeadingZeros_33 : decode b_I_numberOfLeadingZeros 33 = .ok (.iload_n 0, 1) := by decide +kernel
theorem d_I_numberOfLeadingZeros_34 : decode b_I_numberOfLeadingZeros 34 = .ok (.sipush 256, 3) := by decide +kernel
theorem d_I_numberOfLeadingZeros_37 : decode b_I_numberOfLeadingZeros 37 = .ok (.if_icmp .lt 11, 3) := by decide +kernel
theorem d_I_numberOfLeadingZeros_40 : decode b_I_numberOfLeadingZeros 40 = .ok (.iinc 1 (-8), 3) := by decide +kernel
theorem d_I_numberOfLeadingZeros_43 : decode b_I_numberOfLeadingZeros 43 = .ok (.iload_n 0, 1) := by decide +kernel
theorem d_I_numberOfLeadingZeros_44 : decode b_I_numberOfLeadingZeros 44 = .ok (.bipush 8, 2) := by decide +kernel
theorem d_I_numberOfLeadingZeros_46 : decode b_I_numberOfLeadingZeros 46 = .ok (.iushr, 1) := by decide +kernel
theorem d_I_numberOfLeadingZeros_47 : decode b_I_numberOfLeadingZeros 47 = .ok (.istore_n 0, 1) := by decide +kernel
theorem d_I_numberOfLeadingZeros_48 : decode b_I_numberOfLeadingZeros 48 = .ok (.iload_n 0, 1) := by decide +kernel
theorem d_I_numberOfLeadingZeros_49 : decode b_I_numberOfLeadingZeros 49 = .ok (.bipush 16, 2) := by decide +kernel
theorem d_I_numberOfLeadingZeros_51 : decode b_I_numberOfLeadingZeros 51 = .ok (.if_icmp .lt 10, 3) := by decide +kernel
theorem d_I_numberOfLeadingZeros_54 : decode b_I_numberOfLeadingZeros 54 = .ok (.iinc 1 (-4), 3) := by decide +kernel
theorem d_I_numberOfLeadingZeros_57 : decode b_I_numberOfLeadingZeros 57 = .ok (.iload_n 0, 1) := by decide +kernel
theorem d_I_numberOfLeadingZeros_58 : decode b_I_numberOfLeadingZeros 58 = .ok (.iconst 4, 1) := by decide +kernel
theorem d_I_numberOfLeadingZeros_59 : decode b_I_numberOfLeadingZeros 59 = .ok (.iushr, 1) := by decide +kernel
theorem d_I_numberOfLeadingZeros_60 : decode b_I_numberOfLeadingZeros 60 = .ok (.istore_n 0, 1) := by decide +kernel
theorem d_I_numberOfLeadingZeros_61 : decode b_I_numberOfLeadingZeros 61 = .ok (.iload_n 0, 1) := by decide +kernel
theorem d_I_numberOfLeadingZeros_62 : decode b_I_numberOfLeadingZeros 62 = .ok (.iconst 4, 1) := by decide +kernel
theorem d_I_numberOfLeadingZeros_63 : decode b_I_numberOfLeadingZeros 63 = .ok (.if_icmp .lt 10, 3) := by decide +kernel
theorem d_I_numberOfLeadingZeros_66 : decode b_I_numberOfLeadingZeros 66 = .ok (.iinc 1 (-2), 3) := by decide +kernel
theorem d_I_numberOfLeadingZeros_69 : decode b_I_numberOfLeadingZeros 69 = .ok (.iload_n 0, 1) := by decide +kernel
theorem d_I_numberOfLeadingZeros_70 : decode b_I_numberOfLeadingZeros 70 = .ok (.iconst 2, 1) := by decide +kernel
theorem d_I_numberOfLeadingZeros_71 : decode b_I_numberOfLeadingZeros 71 = .ok (.iushr, 1) := by decide +kernel
theorem d_I_numberOfLeadingZeros_72 : decode b_I_numberOfLeadingZeros 72 = .ok (.istore_n 0, 1) := by decide +kernel
theorem d_I_numberOfLeadingZeros_73 : decode b_I_numberOfLeadingZeros 73 = .ok (.iload_n 1, 1) := by decide +kernel
theorem d_I_numberOfLeadingZeros_74 : decode b_I_numberOfLeadingZeros 74 = .ok (.iload_n 0, 1) := by decide +kernel
theorem d_I_numberOfLeadingZeros_75 : decode b_I_numberOfLeadingZeros 75 = .ok (.iconst 1, 1) := by decide +kernel
theorem d_I_numberOfLeadingZeros_76 : decode b_I_numberOfLeadingZeros 76 = .ok (.iushr, 1) := by decide +kernel
theorem d_I_numberOfLeadingZeros_77 : decode b_I_numberOfLeadingZeros 77 = .ok (.isub, 1) := by decide +kernel
theorem d_I_numberOfLeadingZeros_78 : decode b_I_numberOfLeadingZeros 78 = .ok (.ireturn, 1) := by decide +kernel
theorem d_J_compareUnsigned_0 : decode b_J_compareUnsigned 0 = .ok (.lload_n 0, 1) := by decide +kernel
theorem d_J_compareUnsigned_1 : decode b_J_compareUnsigned 1 = .ok (.ldc2_w 168, 3) := by decide +kernel
theorem d_J_compareUnsigned_4 : decode b_J_compareUnsigned 4 = .ok (.ladd, 1) := by decide +kernel
theorem d_J_compareUnsigned_5 : decode b_J_compareUnsigned 5 = .ok (.lload_n 2, 1) := by decide +kernel
theorem d_J_compareUnsigned_6 : decode b_J_compareUnsigned 6 = .ok (.ldc2_w 168, 3) := by decide +kernel
theorem d_J_compareUnsigned_9 : decode b_J_compareUnsigned 9 = .ok (.ladd, 1) := by decide +kernel
theorem d_J_compareUnsigned_10 : decode b_J_compareUnsigned 10 = .ok (.invokestatic 302, 3) := by decide +kernel
theorem d_J_compareUnsigned_13 : decode b_J_compareUnsigned 13 = .ok (.ireturn, 1) := by decide +kernel
theorem d_J_compare_0 : decode b_J_compare 0 = .ok (.lload_n 0, 1) := by decide +kernel
theorem d_J_compare_1 : decode b_J_compare 1 = .ok (.lload_n 2, 1) := by decide +kernel
theorem d_J_compare_2 : decode b_J_compare 2 = .ok (.lcmp, 1) := by decide +kernel
theorem d_J_compare_3 : decode b_J_compare 3 = .ok (.ifCond .ge 7, 3) := by decide +kernel
theorem d_J_compare_6 : decode b_J_compare 6 = .ok (.iconst (-1), 1) := by decide +kernel
theorem d_J_compare_7 : decode b_J_compare 7 = .ok (.goto 14, 3) := by decide +kernel
theorem d_J_compare_10 : decode b_J_compare 10 = .ok (.lload_n 0, 1) := by decide +kernel
theorem d_J_compare_11 : decode b_J_compare 11 = .ok (.lload_n 2, 1) := by decide +kernel
theorem d_J_compare_12 : decode b_J_compare 12 = .ok (.lcmp, 1) := by decide +kernel
theorem d_J_compare_13 : decode b_J_compare 13 = .ok (.ifCond .ne 7, 3) := by decide +kernel
theorem d_J_compare_16 : decode b_J_compare 16 = .ok (.iconst 0, 1) := by decide +kernel
theorem d_J_compare_17 : decode b_J_compare 17 = .ok (.goto 4, 3) := by decide +kernel
theorem d_J_compare_20 : decode b_J_compare 20 = .ok (.iconst 1, 1) := by decide +kernel
theorem d_J_compare_21 : decode b_J_compare 21 = .ok (.ireturn, 1) := by decide +kernel
