theorem d_Wi_ofSymbol_0 : decode c_Wi_ofSymbol 0 = .ok (.iload_n 0, 1) := by decide +kernel
theorem d_Wi_ofSymbol_1 : decode c_Wi_ofSymbol 1 = .ok (.bipush 106, 2) := by decide +kernel
theorem d_Wi_ofSymbol_3 : decode c_Wi_ofSymbol 3 = .ok (.if_icmp .ne 8, 3) := by decide +kernel
theorem d_Wi_ofSymbol_6 : decode c_Wi_ofSymbol 6 = .ok (.ldc 13, 2) := by decide +kernel
theorem d_Wi_ofSymbol_8 : decode c_Wi_ofSymbol 8 = .ok (.goto 10, 3) := by decide +kernel
theorem d_Wi_ofSymbol_11 : decode c_Wi_ofSymbol 11 = .ok (.getstatic 14, 3) := by decide +kernel
theorem d_Wi_ofSymbol_14 : decode c_Wi_ofSymbol 14 = .ok (.iload_n 0, 1) := by decide +kernel
theorem d_Wi_ofSymbol_15 : decode c_Wi_ofSymbol 15 = .ok (.invokestatic 18, 3) := by decide +kernel
theorem d_Wi_ofSymbol_18 : decode c_Wi_ofSymbol 18 = .ok (.ireturn, 1) := by decide +kernel
theorem d_Wi_ofFigure_0 : decode c_Wi_ofFigure 0 = .ok (.getstatic 22, 3) := by decide +kernel
theorem d_Wi_ofFigure_3 : decode c_Wi_ofFigure 3 = .ok (.iload_n 0, 1) := by decide +kernel
theorem d_Wi_ofFigure_4 : decode c_Wi_ofFigure 4 = .ok (.invokestatic 18, 3) := by decide +kernel
theorem d_Wi_ofFigure_7 : decode c_Wi_ofFigure 7 = .ok (.ireturn, 1) := by decide +kernel
theorem d_Wi_turnsOf_0 : decode c_Wi_turnsOf 0 = .ok (.getstatic 25, 3) := by decide +kernel
theorem d_Wi_turnsOf_3 : decode c_Wi_turnsOf 3 = .ok (.iload_n 0, 1) := by decide +kernel
theorem d_Wi_turnsOf_4 : decode c_Wi_turnsOf 4 = .ok (.invokestatic 18, 3) := by decide +kernel
theorem d_Wi_turnsOf_7 : decode c_Wi_turnsOf 7 = .ok (.ireturn, 1) := by decide +kernel
theorem d_Wi_symbolWith_0 : decode c_Wi_symbolWith 0 = .ok (.getstatic 14, 3) := by decide +kernel
theorem d_Wi_symbolWith_3 : decode c_Wi_symbolWith 3 = .ok (.iload_n 0, 1) := by decide +kernel
theorem d_Wi_symbolWith_4 : decode c_Wi_symbolWith 4 = .ok (.invokestatic 28, 3) := by decide +kernel
theorem d_Wi_symbolWith_7 : decode c_Wi_symbolWith 7 = .ok (.ireturn, 1) := by decide +kernel
theorem d_Wi_figureWith_0 : decode c_Wi_figureWith 0 = .ok (.getstatic 22, 3) := by decide +kernel
theorem d_Wi_figureWith_3 : decode c_Wi_figureWith 3 = .ok (.iload_n 0, 1) := by decide +kernel
theorem d_Wi_figureWith_4 : decode c_Wi_figureWith 4 = .ok (.invokestatic 28, 3) := by decide +kernel
theorem d_Wi_figureWith_7 : decode c_Wi_figureWith 7 = .ok (.ireturn, 1) := by decide +kernel
theorem d_Wi_firstFigureWith_0 : decode c_Wi_firstFigureWith 0 = .ok (.getstatic 25, 3) := by decide +kernel
theorem d_Wi_firstFigureWith_3 : decode c_Wi_firstFigureWith 3 = .ok (.iload_n 0, 1) := by decide +kernel
theorem d_Wi_firstFigureWith_4 : decode c_Wi_firstFigureWith 4 = .ok (.invokestatic 28, 3) := by decide +kernel
theorem d_Wi_firstFigureWith_7 : decode c_Wi_firstFigureWith 7 = .ok (.ireturn, 1) := by decide +kernel
theorem d_Wi_turned_0 : decode c_Wi_turned 0 = .ok (.iload_n 0, 1) := by decide +kernel
theorem d_Wi_turned_1 : decode c_Wi_turned 1 = .ok (.bipush 10, 2) := by decide +kernel
theorem d_Wi_turned_3 : decode c_Wi_turned 3 = .ok (.irem, 1) := by decide +kernel
theorem d_Wi_turned_4 : decode c_Wi_turned 4 = .ok (.sipush 1000, 3) := by decide +kernel
theorem d_Wi_turned_7 : decode c_Wi_turned 7 = .ok (.imul, 1) := by decide +kernel
theorem d_Wi_turned_8 : decode c_Wi_turned 8 = .ok (.iload_n 0, 1) := by decide +kernel
theorem d_Wi_turned_9 : decode c_Wi_turned 9 = .ok (.bipush 10, 2) := by decide +kernel
theorem d_Wi_turned_11 : decode c_Wi_turned 11 = .ok (.idiv, 1) := by decide +kernel
theorem d_Wi_turned_12 : decode c_Wi_turned 12 = .ok (.bipush 10, 2) := by decide +kernel
theorem d_Wi_turned_14 : decode c_Wi_turned 14 = .ok (.irem, 1) := by decide +kernel
theorem d_Wi_turned_15 : decode c_Wi_turned 15 = .ok (.bipush 100, 2) := by decide +kernel
theorem d_Wi_turned_17 : decode c_Wi_turned 17 = .ok (.imul, 1) := by decide +kernel
theorem d_Wi_turned_18 : decode c_Wi_turned 18 = .ok (.iadd, 1) := by decide +kernel
theorem d_Wi_turned_19 : decode c_Wi_turned 19 = .ok (.iload_n 0, 1) := by decide +kernel
theorem d_Wi_turned_20 : decode c_Wi_turned 20 = .ok (.bipush 100, 2) := by decide +kernel
theorem d_Wi_turned_22 : decode c_Wi_turned 22 = .ok (.idiv, 1) := by decide +kernel
theorem d_Wi_turned_23 : decode c_Wi_turned 23 = .ok (.bipush 10, 2) := by decide +kernel
theorem d_Wi_turned_25 : decode c_Wi_turned 25 = .ok (.irem, 1) := by decide +kernel
theorem d_Wi_turned_26 : decode c_Wi_turned 26 = .ok (.bipush 10, 2) := by decide +kernel
theorem d_Wi_turned_28 : decode c_Wi_turned 28 = .ok (.imul, 1) := by decide +kernel
theorem d_Wi_turned_29 : decode c_Wi_turned 29 = .ok (.iadd, 1) := by decide +kernel
theorem d_Wi_turned_30 : decode c_Wi_turned 30 = .ok (.iload_n 0, 1) := by decide +kernel
theorem d_Wi_turned_31 : decode c_Wi_turned 31 = .ok (.sipush 1000, 3) := by decide +kernel
theorem d_Wi_turned_34 : decode c_Wi_turned 34 = .ok (.idiv, 1) := by decide +kernel
theorem d_Wi_turned_35 : decode c_Wi_turned 35 = .ok (.bipush 10, 2) := by decide +kernel
theorem d_Wi_turned_37 : decode c_Wi_turned 37 = .ok (.irem, 1) := by decide +kernel
theorem d_Wi_turned_38 : decode c_Wi_turned 38 = .ok (.iadd, 1) := by decide +kernel
theorem d_Wi_turned_39 : decode c_Wi_turned 39 = .ok (.ireturn, 1) := by decide +kernel
theorem d_Wi_entry_0 : decode c_Wi_entry 0 = .ok (.iload_n 1, 1) := by decide +kernel
theorem d_Wi_entry_1 : decode c_Wi_entry 1 = .ok (.ifCond .lt 15, 3) := by decide +kernel
theorem d_Wi_entry_4 : decode c_Wi_entry 4 = .ok (.iload_n 1, 1) := by decide +kernel
theorem d_Wi_entry_5 : decode c_Wi_entry 5 = .ok (.aload_n 0, 1) := by decide +kernel
theorem d_Wi_entry_6 : decode c_Wi_entry 6 = .ok (.arraylength, 1) := by decide +kernel
theorem d_Wi_entry_7 : decode c_Wi_entry 7 = .ok (.if_icmp .ge 9, 3) := by decide +kernel
theorem d_Wi_entry_10 : decode c_Wi_entry 10 = .ok (.aload_n 0, 1) := by decide +kernel
theorem d_Wi_entry_11 : decode c_Wi_entry 11 = .ok (.iload_n 1, 1) := by decide +kernel
theorem d_Wi_entry_12 : decode c_Wi_entry 12 = .ok (.iaload, 1) := by decide +kernel
theorem d_Wi_entry_13 : decode c_Wi_entry 13 = .ok (.goto 4, 3) := by decide +kernel
theorem d_Wi_entry_16 : decode c_Wi_entry 16 = .ok (.iconst 0, 1) := by decide +kernel
theorem d_Wi_entry_17 : decode c_Wi_entry 17 = .ok (.ireturn, 1) := by decide +kernel
theorem d_Wi_placeOf_0 : decode c_Wi_placeOf 0 = .ok (.iconst 0, 1) := by decide +kernel
theorem d_Wi_placeOf_1 : decode c_Wi_placeOf 1 = .ok (.istore_n 2, 1) := by decide +kernel
theorem d_Wi_placeOf_2 : decode c_Wi_placeOf 2 = .ok (.iload_n 2, 1) := by decide +kernel
theorem d_Wi_placeOf_3 : decode c_Wi_placeOf 3 = .ok (.aload_n 0, 1) := by decide +kernel
theorem d_Wi_placeOf_4 : decode c_Wi_placeOf 4 = .ok (.arraylength, 1) := by decide +kernel
theorem d_Wi_placeOf_5 : decode c_Wi_placeOf 5 = .ok (.if_icmp .ge 18, 3) := by decide +kernel
theorem d_Wi_placeOf_8 : decode c_Wi_placeOf 8 = .ok (.aload_n 0, 1) := by decide +kernel
theorem d_Wi_placeOf_9 : decode c_Wi_placeOf 9 = .ok (.iload_n 2, 1) := by decide +kernel
theorem d_Wi_placeOf_10 : decode c_Wi_placeOf 10 = .ok (.iaload, 1) := by decide +kernel
theorem d_Wi_placeOf_11 : decode c_Wi_placeOf 11 = .ok (.iload_n 1, 1) := by decide +kernel
theorem d_Wi_placeOf_12 : decode c_Wi_placeOf 12 = .ok (.if_icmp .ne 5, 3) := by decide +kernel
theorem d_Wi_placeOf_15 : decode c_Wi_placeOf 15 = .ok (.iload_n 2, 1) := by decide +kernel
theorem d_Wi_placeOf_16 : decode c_Wi_placeOf 16 = .ok (.ireturn, 1) := by decide +kernel
theorem d_Wi_placeOf_17 : decode c_Wi_placeOf 17 = .ok (.iinc 2 1, 3) := by decide +kernel
theorem d_Wi_placeOf_20 : decode c_Wi_placeOf 20 = .ok (.goto (-18), 3) := by decide +kernel
theorem d_Wi_placeOf_23 : decode c_Wi_placeOf 23 = .ok (.iconst (-1), 1) := by decide +kernel
theorem d_Wi_placeOf_24 : decode c_Wi_placeOf 24 = .ok (.ireturn, 1) := by decide +kernel
