theorem d_Fi_figureOf_0 : decode c_Fi_figureOf 0 = .ok (.lload_n 0, 1) := by decide +kernel
theorem d_Fi_figureOf_1 : decode c_Fi_figureOf 1 = .ok (.lstore_n 3, 1) := by decide +kernel
theorem d_Fi_figureOf_2 : decode c_Fi_figureOf 2 = .ok (.bipush 11, 2) := by decide +kernel
theorem d_Fi_figureOf_4 : decode c_Fi_figureOf 4 = .ok (.istore 5, 2) := by decide +kernel
theorem d_Fi_figureOf_6 : decode c_Fi_figureOf 6 = .ok (.iload 5, 2) := by decide +kernel
theorem d_Fi_figureOf_8 : decode c_Fi_figureOf 8 = .ok (.iload_n 2, 1) := by decide +kernel
theorem d_Fi_figureOf_9 : decode c_Fi_figureOf 9 = .ok (.if_icmp .le 15, 3) := by decide +kernel
theorem d_Fi_figureOf_12 : decode c_Fi_figureOf 12 = .ok (.lload_n 3, 1) := by decide +kernel
theorem d_Fi_figureOf_13 : decode c_Fi_figureOf 13 = .ok (.ldc2_w 9, 3) := by decide +kernel
theorem d_Fi_figureOf_16 : decode c_Fi_figureOf 16 = .ok (.ldiv, 1) := by decide +kernel
theorem d_Fi_figureOf_17 : decode c_Fi_figureOf 17 = .ok (.lstore_n 3, 1) := by decide +kernel
theorem d_Fi_figureOf_18 : decode c_Fi_figureOf 18 = .ok (.iinc 5 (-1), 3) := by decide +kernel
theorem d_Fi_figureOf_21 : decode c_Fi_figureOf 21 = .ok (.goto (-15), 3) := by decide +kernel
theorem d_Fi_figureOf_24 : decode c_Fi_figureOf 24 = .ok (.lload_n 3, 1) := by decide +kernel
theorem d_Fi_figureOf_25 : decode c_Fi_figureOf 25 = .ok (.ldc2_w 9, 3) := by decide +kernel
theorem d_Fi_figureOf_28 : decode c_Fi_figureOf 28 = .ok (.lrem, 1) := by decide +kernel
theorem d_Fi_figureOf_29 : decode c_Fi_figureOf 29 = .ok (.l2i, 1) := by decide +kernel
theorem d_Fi_figureOf_30 : decode c_Fi_figureOf 30 = .ok (.ireturn, 1) := by decide +kernel
theorem d_Fi_weightOf_0 : decode c_Fi_weightOf 0 = .ok (.iload_n 0, 1) := by decide +kernel
theorem d_Fi_weightOf_1 : decode c_Fi_weightOf 1 = .ok (.iconst 2, 1) := by decide +kernel
theorem d_Fi_weightOf_2 : decode c_Fi_weightOf 2 = .ok (.irem, 1) := by decide +kernel
theorem d_Fi_weightOf_3 : decode c_Fi_weightOf 3 = .ok (.ifCond .ne 7, 3) := by decide +kernel
theorem d_Fi_weightOf_6 : decode c_Fi_weightOf 6 = .ok (.iconst 1, 1) := by decide +kernel
theorem d_Fi_weightOf_7 : decode c_Fi_weightOf 7 = .ok (.goto 4, 3) := by decide +kernel
theorem d_Fi_weightOf_10 : decode c_Fi_weightOf 10 = .ok (.iconst 3, 1) := by decide +kernel
theorem d_Fi_weightOf_11 : decode c_Fi_weightOf 11 = .ok (.ireturn, 1) := by decide +kernel
theorem d_Fi_checkOf_0 : decode c_Fi_checkOf 0 = .ok (.iconst 0, 1) := by decide +kernel
theorem d_Fi_checkOf_1 : decode c_Fi_checkOf 1 = .ok (.istore_n 2, 1) := by decide +kernel
theorem d_Fi_checkOf_2 : decode c_Fi_checkOf 2 = .ok (.iconst 0, 1) := by decide +kernel
theorem d_Fi_checkOf_3 : decode c_Fi_checkOf 3 = .ok (.istore_n 3, 1) := by decide +kernel
theorem d_Fi_checkOf_4 : decode c_Fi_checkOf 4 = .ok (.iload_n 3, 1) := by decide +kernel
theorem d_Fi_checkOf_5 : decode c_Fi_checkOf 5 = .ok (.bipush 12, 2) := by decide +kernel
theorem d_Fi_checkOf_7 : decode c_Fi_checkOf 7 = .ok (.if_icmp .ge 22, 3) := by decide +kernel
theorem d_Fi_checkOf_10 : decode c_Fi_checkOf 10 = .ok (.iload_n 2, 1) := by decide +kernel
theorem d_Fi_checkOf_11 : decode c_Fi_checkOf 11 = .ok (.iload_n 3, 1) := by decide +kernel
theorem d_Fi_checkOf_12 : decode c_Fi_checkOf 12 = .ok (.invokestatic 11, 3) := by decide +kernel
theorem d_Fi_checkOf_15 : decode c_Fi_checkOf 15 = .ok (.lload_n 0, 1) := by decide +kernel
theorem d_Fi_checkOf_16 : decode c_Fi_checkOf 16 = .ok (.iload_n 3, 1) := by decide +kernel
theorem d_Fi_checkOf_17 : decode c_Fi_checkOf 17 = .ok (.invokestatic 15, 3) := by decide +kernel
theorem d_Fi_checkOf_20 : decode c_Fi_checkOf 20 = .ok (.imul, 1) := by decide +kernel
theorem d_Fi_checkOf_21 : decode c_Fi_checkOf 21 = .ok (.iadd, 1) := by decide +kernel
theorem d_Fi_checkOf_22 : decode c_Fi_checkOf 22 = .ok (.istore_n 2, 1) := by decide +kernel
theorem d_Fi_checkOf_23 : decode c_Fi_checkOf 23 = .ok (.iinc 3 1, 3) := by decide +kernel
theorem d_Fi_checkOf_26 : decode c_Fi_checkOf 26 = .ok (.goto (-22), 3) := by decide +kernel
theorem d_Fi_checkOf_29 : decode c_Fi_checkOf 29 = .ok (.bipush 10, 2) := by decide +kernel
theorem d_Fi_checkOf_31 : decode c_Fi_checkOf 31 = .ok (.iload_n 2, 1) := by decide +kernel
theorem d_Fi_checkOf_32 : decode c_Fi_checkOf 32 = .ok (.bipush 10, 2) := by decide +kernel
theorem d_Fi_checkOf_34 : decode c_Fi_checkOf 34 = .ok (.irem, 1) := by decide +kernel
theorem d_Fi_checkOf_35 : decode c_Fi_checkOf 35 = .ok (.isub, 1) := by decide +kernel
theorem d_Fi_checkOf_36 : decode c_Fi_checkOf 36 = .ok (.bipush 10, 2) := by decide +kernel
theorem d_Fi_checkOf_38 : decode c_Fi_checkOf 38 = .ok (.irem, 1) := by decide +kernel
theorem d_Fi_checkOf_39 : decode c_Fi_checkOf 39 = .ok (.ireturn, 1) := by decide +kernel
