theorem d_Se_isFirst_0 : decode c_Se_isFirst 0 = .ok (.iload_n 0, 1) := by decide +kernel
theorem d_Se_isFirst_1 : decode c_Se_isFirst 1 = .ok (.bipush 103, 2) := by decide +kernel
theorem d_Se_isFirst_3 : decode c_Se_isFirst 3 = .ok (.if_icmp .lt 13, 3) := by decide +kernel
theorem d_Se_isFirst_6 : decode c_Se_isFirst 6 = .ok (.iload_n 0, 1) := by decide +kernel
theorem d_Se_isFirst_7 : decode c_Se_isFirst 7 = .ok (.bipush 106, 2) := by decide +kernel
theorem d_Se_isFirst_9 : decode c_Se_isFirst 9 = .ok (.if_icmp .ge 7, 3) := by decide +kernel
theorem d_Se_isFirst_12 : decode c_Se_isFirst 12 = .ok (.iconst 1, 1) := by decide +kernel
theorem d_Se_isFirst_13 : decode c_Se_isFirst 13 = .ok (.goto 4, 3) := by decide +kernel
theorem d_Se_isFirst_16 : decode c_Se_isFirst 16 = .ok (.iconst 0, 1) := by decide +kernel
theorem d_Se_isFirst_17 : decode c_Se_isFirst 17 = .ok (.ireturn, 1) := by decide +kernel
theorem d_Se_firstOf_0 : decode c_Se_firstOf 0 = .ok (.bipush 103, 2) := by decide +kernel
theorem d_Se_firstOf_2 : decode c_Se_firstOf 2 = .ok (.iload_n 0, 1) := by decide +kernel
theorem d_Se_firstOf_3 : decode c_Se_firstOf 3 = .ok (.iadd, 1) := by decide +kernel
theorem d_Se_firstOf_4 : decode c_Se_firstOf 4 = .ok (.ireturn, 1) := by decide +kernel
theorem d_Se_switchTo_0 : decode c_Se_switchTo 0 = .ok (.bipush 101, 2) := by decide +kernel
theorem d_Se_switchTo_2 : decode c_Se_switchTo 2 = .ok (.iload_n 0, 1) := by decide +kernel
theorem d_Se_switchTo_3 : decode c_Se_switchTo 3 = .ok (.isub, 1) := by decide +kernel
theorem d_Se_switchTo_4 : decode c_Se_switchTo 4 = .ok (.ireturn, 1) := by decide +kernel
theorem d_Se_setAfter_0 : decode c_Se_setAfter 0 = .ok (.bipush 101, 2) := by decide +kernel
theorem d_Se_setAfter_2 : decode c_Se_setAfter 2 = .ok (.iload_n 1, 1) := by decide +kernel
theorem d_Se_setAfter_3 : decode c_Se_setAfter 3 = .ok (.isub, 1) := by decide +kernel
theorem d_Se_setAfter_4 : decode c_Se_setAfter 4 = .ok (.istore_n 2, 1) := by decide +kernel
theorem d_Se_setAfter_5 : decode c_Se_setAfter 5 = .ok (.iload_n 2, 1) := by decide +kernel
theorem d_Se_setAfter_6 : decode c_Se_setAfter 6 = .ok (.ifCond .lt 17, 3) := by decide +kernel
theorem d_Se_setAfter_9 : decode c_Se_setAfter 9 = .ok (.iload_n 2, 1) := by decide +kernel
theorem d_Se_setAfter_10 : decode c_Se_setAfter 10 = .ok (.iconst 3, 1) := by decide +kernel
theorem d_Se_setAfter_11 : decode c_Se_setAfter 11 = .ok (.if_icmp .ge 12, 3) := by decide +kernel
theorem d_Se_setAfter_14 : decode c_Se_setAfter 14 = .ok (.iload_n 2, 1) := by decide +kernel
theorem d_Se_setAfter_15 : decode c_Se_setAfter 15 = .ok (.iload_n 0, 1) := by decide +kernel
theorem d_Se_setAfter_16 : decode c_Se_setAfter 16 = .ok (.if_icmp .eq 7, 3) := by decide +kernel
theorem d_Se_setAfter_19 : decode c_Se_setAfter 19 = .ok (.iload_n 2, 1) := by decide +kernel
theorem d_Se_setAfter_20 : decode c_Se_setAfter 20 = .ok (.goto 4, 3) := by decide +kernel
theorem d_Se_setAfter_23 : decode c_Se_setAfter 23 = .ok (.iconst (-1), 1) := by decide +kernel
theorem d_Se_setAfter_24 : decode c_Se_setAfter 24 = .ok (.ireturn, 1) := by decide +kernel
theorem d_Se_otherOfAB_0 : decode c_Se_otherOfAB 0 = .ok (.iload_n 0, 1) := by decide +kernel
theorem d_Se_otherOfAB_1 : decode c_Se_otherOfAB 1 = .ok (.ifCond .ne 7, 3) := by decide +kernel
theorem d_Se_otherOfAB_4 : decode c_Se_otherOfAB 4 = .ok (.iconst 1, 1) := by decide +kernel
theorem d_Se_otherOfAB_5 : decode c_Se_otherOfAB 5 = .ok (.goto 4, 3) := by decide +kernel
theorem d_Se_otherOfAB_8 : decode c_Se_otherOfAB 8 = .ok (.iconst 0, 1) := by decide +kernel
theorem d_Se_otherOfAB_9 : decode c_Se_otherOfAB 9 = .ok (.ireturn, 1) := by decide +kernel
theorem d_Se_symbolOf_0 : decode c_Se_symbolOf 0 = .ok (.iload_n 1, 1) := by decide +kernel
theorem d_Se_symbolOf_1 : decode c_Se_symbolOf 1 = .ok (.ifCond .lt 10, 3) := by decide +kernel
theorem d_Se_symbolOf_4 : decode c_Se_symbolOf 4 = .ok (.iload_n 1, 1) := by decide +kernel
theorem d_Se_symbolOf_5 : decode c_Se_symbolOf 5 = .ok (.sipush 128, 3) := by decide +kernel
theorem d_Se_symbolOf_8 : decode c_Se_symbolOf 8 = .ok (.if_icmp .lt 5, 3) := by decide +kernel
theorem d_Se_symbolOf_11 : decode c_Se_symbolOf 11 = .ok (.iconst (-1), 1) := by decide +kernel
theorem d_Se_symbolOf_12 : decode c_Se_symbolOf 12 = .ok (.ireturn, 1) := by decide +kernel
theorem d_Se_symbolOf_13 : decode c_Se_symbolOf 13 = .ok (.iload_n 1, 1) := by decide +kernel
theorem d_Se_symbolOf_14 : decode c_Se_symbolOf 14 = .ok (.bipush 32, 2) := by decide +kernel
theorem d_Se_symbolOf_16 : decode c_Se_symbolOf 16 = .ok (.if_icmp .lt 23, 3) := by decide +kernel
theorem d_Se_symbolOf_19 : decode c_Se_symbolOf 19 = .ok (.iload_n 0, 1) := by decide +kernel
theorem d_Se_symbolOf_20 : decode c_Se_symbolOf 20 = .ok (.iconst 1, 1) := by decide +kernel
theorem d_Se_symbolOf_21 : decode c_Se_symbolOf 21 = .ok (.if_icmp .eq 9, 3) := by decide +kernel
theorem d_Se_symbolOf_24 : decode c_Se_symbolOf 24 = .ok (.iload_n 1, 1) := by decide +kernel
theorem d_Se_symbolOf_25 : decode c_Se_symbolOf 25 = .ok (.bipush 95, 2) := by decide +kernel
theorem d_Se_symbolOf_27 : decode c_Se_symbolOf 27 = .ok (.if_icmp .gt 10, 3) := by decide +kernel
theorem d_Se_symbolOf_30 : decode c_Se_symbolOf 30 = .ok (.iload_n 1, 1) := by decide +kernel
theorem d_Se_symbolOf_31 : decode c_Se_symbolOf 31 = .ok (.bipush 32, 2) := by decide +kernel
theorem d_Se_symbolOf_33 : decode c_Se_symbolOf 33 = .ok (.isub, 1) := by decide +kernel
theorem d_Se_symbolOf_34 : decode c_Se_symbolOf 34 = .ok (.goto 4, 3) := by decide +kernel
theorem d_Se_symbolOf_37 : decode c_Se_symbolOf 37 = .ok (.iconst (-1), 1) := by decide +kernel
theorem d_Se_symbolOf_38 : decode c_Se_symbolOf 38 = .ok (.ireturn, 1) := by decide +kernel
theorem d_Se_symbolOf_39 : decode c_Se_symbolOf 39 = .ok (.iload_n 0, 1) := by decide +kernel
theorem d_Se_symbolOf_40 : decode c_Se_symbolOf 40 = .ok (.ifCond .ne 10, 3) := by decide +kernel
theorem d_Se_symbolOf_43 : decode c_Se_symbolOf 43 = .ok (.iload_n 1, 1) := by decide +kernel
theorem d_Se_symbolOf_44 : decode c_Se_symbolOf 44 = .ok (.bipush 64, 2) := by decide +kernel
theorem d_Se_symbolOf_46 : decode c_Se_symbolOf 46 = .ok (.iadd, 1) := by decide +kernel
theorem d_Se_symbolOf_47 : decode c_Se_symbolOf 47 = .ok (.goto 4, 3) := by decide +kernel
theorem d_Se_symbolOf_50 : decode c_Se_symbolOf 50 = .ok (.iconst (-1), 1) := by decide +kernel
theorem d_Se_symbolOf_51 : decode c_Se_symbolOf 51 = .ok (.ireturn, 1) := by decide +kernel
theorem d_Se_signOf_0 : decode c_Se_signOf 0 = .ok (.iload_n 0, 1) := by decide +kernel
theorem d_Se_signOf_1 : decode c_Se_signOf 1 = .ok (.ifCond .ne 16, 3) := by decide +kernel
theorem d_Se_signOf_4 : decode c_Se_signOf 4 = .ok (.iload_n 1, 1) := by decide +kernel
theorem d_Se_signOf_5 : decode c_Se_signOf 5 = .ok (.bipush 63, 2) := by decide +kernel
theorem d_Se_signOf_7 : decode c_Se_signOf 7 = .ok (.if_icmp .le 10, 3) := by decide +kernel
theorem d_Se_signOf_10 : decode c_Se_signOf 10 = .ok (.iload_n 1, 1) := by decide +kernel
theorem d_Se_signOf_11 : decode c_Se_signOf 11 = .ok (.bipush 64, 2) := by decide +kernel
theorem d_Se_signOf_13 : decode c_Se_signOf 13 = .ok (.isub, 1) := by decide +kernel
theorem d_Se_signOf_14 : decode c_Se_signOf 14 = .ok (.goto 7, 3) := by decide +kernel
theorem d_Se_signOf_17 : decode c_Se_signOf 17 = .ok (.iload_n 1, 1) := by decide +kernel
theorem d_Se_signOf_18 : decode c_Se_signOf 18 = .ok (.bipush 32, 2) := by decide +kernel
theorem d_Se_signOf_20 : decode c_Se_signOf 20 = .ok (.iadd, 1) := by decide +kernel
theorem d_Se_signOf_21 : decode c_Se_signOf 21 = .ok (.ireturn, 1) := by decide +kernel
theorem d_Se_pairOf_0 : decode c_Se_pairOf 0 = .ok (.iload_n 0, 1) := by decide +kernel
theorem d_Se_pairOf_1 : decode c_Se_pairOf 1 = .ok (.invokestatic 11, 3) := by decide +kernel
theorem d_Se_pairOf_4 : decode c_Se_pairOf 4 = .ok (.ifCond .eq 25, 3) := by decide +kernel
theorem d_Se_pairOf_7 : decode c_Se_pairOf 7 = .ok (.iload_n 1, 1) := by decide +kernel
theorem d_Se_pairOf_8 : decode c_Se_pairOf 8 = .ok (.invokestatic 11, 3) := by decide +kernel
theorem d_Se_pairOf_11 : decode c_Se_pairOf 11 = .ok (.ifCond .eq 18, 3) := by decide +kernel
theorem d_Se_pairOf_14 : decode c_Se_pairOf 14 = .ok (.bipush 10, 2) := by decide +kernel
theorem d_Se_pairOf_16 : decode c_Se_pairOf 16 = .ok (.iload_n 0, 1) := by decide +kernel
theorem d_Se_pairOf_17 : decode c_Se_pairOf 17 = .ok (.bipush 48, 2) := by decide +kernel
theorem d_Se_pairOf_19 : decode c_Se_pairOf 19 = .ok (.isub, 1) := by decide +kernel
theorem d_Se_pairOf_20 : decode c_Se_pairOf 20 = .ok (.imul, 1) := by decide +kernel
theorem d_Se_pairOf_21 : decode c_Se_pairOf 21 = .ok (.iload_n 1, 1) := by decide +kernel
theorem d_Se_pairOf_22 : decode c_Se_pairOf 22 = .ok (.iadd, 1) := by decide +kernel
theorem d_Se_pairOf_23 : decode c_Se_pairOf 23 = .ok (.bipush 48, 2) := by decide +kernel
theorem d_Se_pairOf_25 : decode c_Se_pairOf 25 = .ok (.isub, 1) := by decide +kernel
theorem d_Se_pairOf_26 : decode c_Se_pairOf 26 = .ok (.goto 4, 3) := by decide +kernel
theorem d_Se_pairOf_29 : decode c_Se_pairOf 29 = .ok (.iconst (-1), 1) := by decide +kernel
theorem d_Se_pairOf_30 : decode c_Se_pairOf 30 = .ok (.ireturn, 1) := by decide +kernel
theorem d_Se_isFigure_0 : decode c_Se_isFigure 0 = .ok (.iload_n 0, 1) := by decide +kernel
theorem d_Se_isFigure_1 : decode c_Se_isFigure 1 = .ok (.bipush 48, 2) := by decide +kernel
theorem d_Se_isFigure_3 : decode c_Se_isFigure 3 = .ok (.if_icmp .lt 13, 3) := by decide +kernel
theorem d_Se_isFigure_6 : decode c_Se_isFigure 6 = .ok (.iload_n 0, 1) := by decide +kernel
theorem d_Se_isFigure_7 : decode c_Se_isFigure 7 = .ok (.bipush 57, 2) := by decide +kernel
theorem d_Se_isFigure_9 : decode c_Se_isFigure 9 = .ok (.if_icmp .gt 7, 3) := by decide +kernel
theorem d_Se_isFigure_12 : decode c_Se_isFigure 12 = .ok (.iconst 1, 1) := by decide +kernel
theorem d_Se_isFigure_13 : decode c_Se_isFigure 13 = .ok (.goto 4, 3) := by decide +kernel
theorem d_Se_isFigure_16 : decode c_Se_isFigure 16 = .ok (.iconst 0, 1) := by decide +kernel
theorem d_Se_isFigure_17 : decode c_Se_isFigure 17 = .ok (.ireturn, 1) := by decide +kernel
