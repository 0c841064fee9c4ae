theorem d_L_law_1071 : decode code 1071 = .ok (.aload_n 2, 1) := by decide +kernel
theorem d_L_law_1072 : decode code 1072 = .ok (.invokevirtual 74, 3) := by decide +kernel
theorem d_L_law_1075 : decode code 1075 = .ok (.iload 5, 2) := by decide +kernel
theorem d_L_law_1077 : decode code 1077 = .ok (.if_icmp .eq 5, 3) := by decide +kernel
theorem d_L_law_1080 : decode code 1080 = .ok (.iconst 0, 1) := by decide +kernel
theorem d_L_law_1081 : decode code 1081 = .ok (.ireturn, 1) := by decide +kernel
theorem d_L_law_1082 : decode code 1082 = .ok (.iload 5, 2) := by decide +kernel
theorem d_L_law_1084 : decode code 1084 = .ok (.ifCond .ne 15, 3) := by decide +kernel
theorem d_L_law_1087 : decode code 1087 = .ok (.aload_n 3, 1) := by decide +kernel
theorem d_L_law_1088 : decode code 1088 = .ok (.iconst 0, 1) := by decide +kernel
theorem d_L_law_1089 : decode code 1089 = .ok (.laload, 1) := by decide +kernel
theorem d_L_law_1090 : decode code 1090 = .ok (.iload 6, 2) := by decide +kernel
theorem d_L_law_1092 : decode code 1092 = .ok (.i2l, 1) := by decide +kernel
theorem d_L_law_1093 : decode code 1093 = .ok (.lcmp, 1) := by decide +kernel
theorem d_L_law_1094 : decode code 1094 = .ok (.ifCond .eq 5, 3) := by decide +kernel
theorem d_L_law_1097 : decode code 1097 = .ok (.iconst 0, 1) := by decide +kernel
theorem d_L_law_1098 : decode code 1098 = .ok (.ireturn, 1) := by decide +kernel
theorem d_L_law_1099 : decode code 1099 = .ok (.goto 3, 3) := by decide +kernel
theorem d_L_law_1102 : decode code 1102 = .ok (.iinc 4 7, 3) := by decide +kernel
theorem d_L_law_1105 : decode code 1105 = .ok (.goto (-1082), 3) := by decide +kernel
theorem d_L_law_1108 : decode code 1108 = .ok (.iconst 1, 1) := by decide +kernel
theorem d_L_law_1109 : decode code 1109 = .ok (.ireturn, 1) := by decide +kernel
