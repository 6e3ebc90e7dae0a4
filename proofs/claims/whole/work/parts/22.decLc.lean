theorem d_Lc_init_0 : decode c_Lc_init 0 = .ok (.aload_n 0, 1) := by decide +kernel
theorem d_Lc_init_1 : decode c_Lc_init 1 = .ok (.invokespecial 3, 3) := by decide +kernel
theorem d_Lc_init_4 : decode c_Lc_init 4 = .ok (.aload_n 0, 1) := by decide +kernel
theorem d_Lc_init_5 : decode c_Lc_init 5 = .ok (.new 9, 3) := by decide +kernel
theorem d_Lc_init_8 : decode c_Lc_init 8 = .ok (.dup, 1) := by decide +kernel
theorem d_Lc_init_9 : decode c_Lc_init 9 = .ok (.bipush 64, 2) := by decide +kernel
theorem d_Lc_init_11 : decode c_Lc_init 11 = .ok (.invokespecial 11, 3) := by decide +kernel
theorem d_Lc_init_14 : decode c_Lc_init 14 = .ok (.putfield 14, 3) := by decide +kernel
theorem d_Lc_init_17 : decode c_Lc_init 17 = .ok (.aload_n 0, 1) := by decide +kernel
theorem d_Lc_init_18 : decode c_Lc_init 18 = .ok (.new 9, 3) := by decide +kernel
theorem d_Lc_init_21 : decode c_Lc_init 21 = .ok (.dup, 1) := by decide +kernel
theorem d_Lc_init_22 : decode c_Lc_init 22 = .ok (.bipush 99, 2) := by decide +kernel
theorem d_Lc_init_24 : decode c_Lc_init 24 = .ok (.invokespecial 11, 3) := by decide +kernel
theorem d_Lc_init_27 : decode c_Lc_init 27 = .ok (.putfield 18, 3) := by decide +kernel
theorem d_Lc_init_30 : decode c_Lc_init 30 = .ok (.aload_n 0, 1) := by decide +kernel
theorem d_Lc_init_31 : decode c_Lc_init 31 = .ok (.new 9, 3) := by decide +kernel
theorem d_Lc_init_34 : decode c_Lc_init 34 = .ok (.dup, 1) := by decide +kernel
theorem d_Lc_init_35 : decode c_Lc_init 35 = .ok (.sipush 800, 3) := by decide +kernel
theorem d_Lc_init_38 : decode c_Lc_init 38 = .ok (.invokespecial 11, 3) := by decide +kernel
theorem d_Lc_init_41 : decode c_Lc_init 41 = .ok (.putfield 21, 3) := by decide +kernel
theorem d_Lc_init_44 : decode c_Lc_init 44 = .ok (.aload_n 0, 1) := by decide +kernel
theorem d_Lc_init_45 : decode c_Lc_init 45 = .ok (.new 24, 3) := by decide +kernel
theorem d_Lc_init_48 : decode c_Lc_init 48 = .ok (.dup, 1) := by decide +kernel
theorem d_Lc_init_49 : decode c_Lc_init 49 = .ok (.aload_n 0, 1) := by decide +kernel
theorem d_Lc_init_50 : decode c_Lc_init 50 = .ok (.getfield 14, 3) := by decide +kernel
theorem d_Lc_init_53 : decode c_Lc_init 53 = .ok (.aload_n 0, 1) := by decide +kernel
theorem d_Lc_init_54 : decode c_Lc_init 54 = .ok (.getfield 18, 3) := by decide +kernel
theorem d_Lc_init_57 : decode c_Lc_init 57 = .ok (.invokespecial 26, 3) := by decide +kernel
theorem d_Lc_init_60 : decode c_Lc_init 60 = .ok (.putfield 29, 3) := by decide +kernel
theorem d_Lc_init_63 : decode c_Lc_init 63 = .ok (.aload_n 0, 1) := by decide +kernel
theorem d_Lc_init_64 : decode c_Lc_init 64 = .ok (.new 33, 3) := by decide +kernel
theorem d_Lc_init_67 : decode c_Lc_init 67 = .ok (.dup, 1) := by decide +kernel
theorem d_Lc_init_68 : decode c_Lc_init 68 = .ok (.aload_n 0, 1) := by decide +kernel
theorem d_Lc_init_69 : decode c_Lc_init 69 = .ok (.getfield 21, 3) := by decide +kernel
theorem d_Lc_init_72 : decode c_Lc_init 72 = .ok (.invokespecial 35, 3) := by decide +kernel
theorem d_Lc_init_75 : decode c_Lc_init 75 = .ok (.putfield 38, 3) := by decide +kernel
theorem d_Lc_init_78 : decode c_Lc_init 78 = .ok (.return_, 1) := by decide +kernel
theorem d_Lc_write_0 : decode c_Lc_write 0 = .ok (.iload_n 1, 1) := by decide +kernel
theorem d_Lc_write_1 : decode c_Lc_write 1 = .ok (.invokestatic 42, 3) := by decide +kernel
theorem d_Lc_write_4 : decode c_Lc_write 4 = .ok (.iconst 0, 1) := by decide +kernel
theorem d_Lc_write_5 : decode c_Lc_write 5 = .ok (.istore 4, 2) := by decide +kernel
theorem d_Lc_write_7 : decode c_Lc_write 7 = .ok (.iload 4, 2) := by decide +kernel
theorem d_Lc_write_9 : decode c_Lc_write 9 = .ok (.iload_n 1, 1) := by decide +kernel
theorem d_Lc_write_10 : decode c_Lc_write 10 = .ok (.if_icmp .ge 31, 3) := by decide +kernel
theorem d_Lc_write_13 : decode c_Lc_write 13 = .ok (.lload_n 2, 1) := by decide +kernel
theorem d_Lc_write_14 : decode c_Lc_write 14 = .ok (.iload 4, 2) := by decide +kernel
theorem d_Lc_write_16 : decode c_Lc_write 16 = .ok (.invokestatic 45, 3) := by decide +kernel
theorem d_Lc_write_19 : decode c_Lc_write 19 = .ok (.sipush 128, 3) := by decide +kernel
theorem d_Lc_write_22 : decode c_Lc_write 22 = .ok (.if_icmp .le 13, 3) := by decide +kernel
theorem d_Lc_write_25 : decode c_Lc_write 25 = .ok (.new 51, 3) := by decide +kernel
theorem d_Lc_write_28 : decode c_Lc_write 28 = .ok (.dup, 1) := by decide +kernel
theorem d_Lc_write_29 : decode c_Lc_write 29 = .ok (.ldc 53, 2) := by decide +kernel
theorem d_Lc_write_31 : decode c_Lc_write 31 = .ok (.invokespecial 55, 3) := by decide +kernel
theorem d_Lc_write_34 : decode c_Lc_write 34 = .ok (.athrow, 1) := by decide +kernel
theorem d_Lc_write_35 : decode c_Lc_write 35 = .ok (.iinc 4 1, 3) := by decide +kernel
theorem d_Lc_write_38 : decode c_Lc_write 38 = .ok (.goto (-31), 3) := by decide +kernel
theorem d_Lc_write_41 : decode c_Lc_write 41 = .ok (.aload_n 0, 1) := by decide +kernel
theorem d_Lc_write_42 : decode c_Lc_write 42 = .ok (.getfield 14, 3) := by decide +kernel
theorem d_Lc_write_45 : decode c_Lc_write 45 = .ok (.iload_n 1, 1) := by decide +kernel
theorem d_Lc_write_46 : decode c_Lc_write 46 = .ok (.lload_n 2, 1) := by decide +kernel
theorem d_Lc_write_47 : decode c_Lc_write 47 = .ok (.invokestatic 58, 3) := by decide +kernel
theorem d_Lc_write_50 : decode c_Lc_write 50 = .ok (.ireturn, 1) := by decide +kernel
theorem d_Lc_wipe_0 : decode c_Lc_wipe 0 = .ok (.aload_n 0, 1) := by decide +kernel
theorem d_Lc_wipe_1 : decode c_Lc_wipe 1 = .ok (.getfield 14, 3) := by decide +kernel
theorem d_Lc_wipe_4 : decode c_Lc_wipe 4 = .ok (.invokevirtual 62, 3) := by decide +kernel
theorem d_Lc_wipe_7 : decode c_Lc_wipe 7 = .ok (.ireturn, 1) := by decide +kernel
theorem d_Lc_pack_0 : decode c_Lc_pack 0 = .ok (.aload_n 0, 1) := by decide +kernel
theorem d_Lc_pack_1 : decode c_Lc_pack 1 = .ok (.getfield 29, 3) := by decide +kernel
theorem d_Lc_pack_4 : decode c_Lc_pack 4 = .ok (.invokevirtual 66, 3) := by decide +kernel
theorem d_Lc_pack_7 : decode c_Lc_pack 7 = .ok (.aload_n 0, 1) := by decide +kernel
theorem d_Lc_pack_8 : decode c_Lc_pack 8 = .ok (.getfield 18, 3) := by decide +kernel
theorem d_Lc_pack_11 : decode c_Lc_pack 11 = .ok (.invokevirtual 69, 3) := by decide +kernel
theorem d_Lc_pack_14 : decode c_Lc_pack 14 = .ok (.ireturn, 1) := by decide +kernel
theorem d_Lc_symbol_0 : decode c_Lc_symbol 0 = .ok (.aload_n 0, 1) := by decide +kernel
theorem d_Lc_symbol_1 : decode c_Lc_symbol 1 = .ok (.getfield 18, 3) := by decide +kernel
theorem d_Lc_symbol_4 : decode c_Lc_symbol 4 = .ok (.iload_n 1, 1) := by decide +kernel
theorem d_Lc_symbol_5 : decode c_Lc_symbol 5 = .ok (.invokevirtual 72, 3) := by decide +kernel
theorem d_Lc_symbol_8 : decode c_Lc_symbol 8 = .ok (.ireturn, 1) := by decide +kernel
theorem d_Lc_bars_0 : decode c_Lc_bars 0 = .ok (.iload_n 1, 1) := by decide +kernel
theorem d_Lc_bars_1 : decode c_Lc_bars 1 = .ok (.invokestatic 76, 3) := by decide +kernel
theorem d_Lc_bars_4 : decode c_Lc_bars 4 = .ok (.aload_n 0, 1) := by decide +kernel
theorem d_Lc_bars_5 : decode c_Lc_bars 5 = .ok (.getfield 18, 3) := by decide +kernel
theorem d_Lc_bars_8 : decode c_Lc_bars 8 = .ok (.invokevirtual 69, 3) := by decide +kernel
theorem d_Lc_bars_11 : decode c_Lc_bars 11 = .ok (.ifCond .ne 13, 3) := by decide +kernel
theorem d_Lc_bars_14 : decode c_Lc_bars 14 = .ok (.new 79, 3) := by decide +kernel
theorem d_Lc_bars_17 : decode c_Lc_bars 17 = .ok (.dup, 1) := by decide +kernel
theorem d_Lc_bars_18 : decode c_Lc_bars 18 = .ok (.ldc 81, 2) := by decide +kernel
theorem d_Lc_bars_20 : decode c_Lc_bars 20 = .ok (.invokespecial 83, 3) := by decide +kernel
theorem d_Lc_bars_23 : decode c_Lc_bars 23 = .ok (.athrow, 1) := by decide +kernel
theorem d_Lc_bars_24 : decode c_Lc_bars 24 = .ok (.aload_n 0, 1) := by decide +kernel
theorem d_Lc_bars_25 : decode c_Lc_bars 25 = .ok (.getfield 21, 3) := by decide +kernel
theorem d_Lc_bars_28 : decode c_Lc_bars 28 = .ok (.invokevirtual 62, 3) := by decide +kernel
theorem d_Lc_bars_31 : decode c_Lc_bars 31 = .ok (.pop, 1) := by decide +kernel
theorem d_Lc_bars_32 : decode c_Lc_bars 32 = .ok (.iconst 0, 1) := by decide +kernel
theorem d_Lc_bars_33 : decode c_Lc_bars 33 = .ok (.istore_n 2, 1) := by decide +kernel
theorem d_Lc_bars_34 : decode c_Lc_bars 34 = .ok (.iload_n 2, 1) := by decide +kernel
theorem d_Lc_bars_35 : decode c_Lc_bars 35 = .ok (.aload_n 0, 1) := by decide +kernel
theorem d_Lc_bars_36 : decode c_Lc_bars 36 = .ok (.getfield 18, 3) := by decide +kernel
theorem d_Lc_bars_39 : decode c_Lc_bars 39 = .ok (.invokevirtual 69, 3) := by decide +kernel
theorem d_Lc_bars_42 : decode c_Lc_bars 42 = .ok (.if_icmp .ge 25, 3) := by decide +kernel
theorem d_Lc_bars_45 : decode c_Lc_bars 45 = .ok (.aload_n 0, 1) := by decide +kernel
theorem d_Lc_bars_46 : decode c_Lc_bars 46 = .ok (.aload_n 0, 1) := by decide +kernel
theorem d_Lc_bars_47 : decode c_Lc_bars 47 = .ok (.getfield 18, 3) := by decide +kernel
theorem d_Lc_bars_50 : decode c_Lc_bars 50 = .ok (.iload_n 2, 1) := by decide +kernel
theorem d_Lc_bars_51 : decode c_Lc_bars 51 = .ok (.invokevirtual 72, 3) := by decide +kernel
theorem d_Lc_bars_54 : decode c_Lc_bars 54 = .ok (.invokestatic 84, 3) := by decide +kernel
theorem d_Lc_bars_57 : decode c_Lc_bars 57 = .ok (.iload_n 1, 1) := by decide +kernel
theorem d_Lc_bars_58 : decode c_Lc_bars 58 = .ok (.invokevirtual 89, 3) := by decide +kernel
theorem d_Lc_bars_61 : decode c_Lc_bars 61 = .ok (.iinc 2 1, 3) := by decide +kernel
theorem d_Lc_bars_64 : decode c_Lc_bars 64 = .ok (.goto (-30), 3) := by decide +kernel
theorem d_Lc_bars_67 : decode c_Lc_bars 67 = .ok (.aload_n 0, 1) := by decide +kernel
theorem d_Lc_bars_68 : decode c_Lc_bars 68 = .ok (.getfield 21, 3) := by decide +kernel
theorem d_Lc_bars_71 : decode c_Lc_bars 71 = .ok (.invokevirtual 69, 3) := by decide +kernel
theorem d_Lc_bars_74 : decode c_Lc_bars 74 = .ok (.ireturn, 1) := by decide +kernel
theorem d_Lc_checkFigure_0 : decode c_Lc_checkFigure 0 = .ok (.lload_n 1, 1) := by decide +kernel
theorem d_Lc_checkFigure_1 : decode c_Lc_checkFigure 1 = .ok (.invokestatic 93, 3) := by decide +kernel
theorem d_Lc_checkFigure_4 : decode c_Lc_checkFigure 4 = .ok (.lload_n 1, 1) := by decide +kernel
theorem d_Lc_checkFigure_5 : decode c_Lc_checkFigure 5 = .ok (.invokestatic 97, 3) := by decide +kernel
theorem d_Lc_checkFigure_8 : decode c_Lc_checkFigure 8 = .ok (.ireturn, 1) := by decide +kernel
theorem d_Lc_thirteen_0 : decode c_Lc_thirteen 0 = .ok (.lload_n 1, 1) := by decide +kernel
theorem d_Lc_thirteen_1 : decode c_Lc_thirteen 1 = .ok (.invokestatic 93, 3) := by decide +kernel
theorem d_Lc_thirteen_4 : decode c_Lc_thirteen 4 = .ok (.iload_n 3, 1) := by decide +kernel
theorem d_Lc_thirteen_5 : decode c_Lc_thirteen 5 = .ok (.invokestatic 76, 3) := by decide +kernel
theorem d_Lc_thirteen_8 : decode c_Lc_thirteen 8 = .ok (.aload_n 0, 1) := by decide +kernel
theorem d_Lc_thirteen_9 : decode c_Lc_thirteen 9 = .ok (.getfield 21, 3) := by decide +kernel
theorem d_Lc_thirteen_12 : decode c_Lc_thirteen 12 = .ok (.invokevirtual 62, 3) := by decide +kernel
theorem d_Lc_thirteen_15 : decode c_Lc_thirteen 15 = .ok (.pop, 1) := by decide +kernel
theorem d_Lc_thirteen_16 : decode c_Lc_thirteen 16 = .ok (.lload_n 1, 1) := by decide +kernel
theorem d_Lc_thirteen_17 : decode c_Lc_thirteen 17 = .ok (.iconst 0, 1) := by decide +kernel
theorem d_Lc_thirteen_18 : decode c_Lc_thirteen 18 = .ok (.invokestatic 103, 3) := by decide +kernel
theorem d_Lc_thirteen_21 : decode c_Lc_thirteen 21 = .ok (.invokestatic 106, 3) := by decide +kernel
theorem d_Lc_thirteen_24 : decode c_Lc_thirteen 24 = .ok (.istore 4, 2) := by decide +kernel
theorem d_Lc_thirteen_26 : decode c_Lc_thirteen 26 = .ok (.aload_n 0, 1) := by decide +kernel
theorem d_Lc_thirteen_27 : decode c_Lc_thirteen 27 = .ok (.bipush 111, 2) := by decide +kernel
theorem d_Lc_thirteen_29 : decode c_Lc_thirteen 29 = .ok (.iload_n 3, 1) := by decide +kernel
theorem d_Lc_thirteen_30 : decode c_Lc_thirteen 30 = .ok (.invokevirtual 89, 3) := by decide +kernel
theorem d_Lc_thirteen_33 : decode c_Lc_thirteen 33 = .ok (.iconst 1, 1) := by decide +kernel
theorem d_Lc_thirteen_34 : decode c_Lc_thirteen 34 = .ok (.istore 5, 2) := by decide +kernel
theorem d_Lc_thirteen_36 : decode c_Lc_thirteen 36 = .ok (.iload 5, 2) := by decide +kernel
theorem d_Lc_thirteen_38 : decode c_Lc_thirteen 38 = .ok (.bipush 6, 2) := by decide +kernel
theorem d_Lc_thirteen_40 : decode c_Lc_thirteen 40 = .ok (.if_icmp .gt 61, 3) := by decide +kernel
theorem d_Lc_thirteen_43 : decode c_Lc_thirteen 43 = .ok (.lload_n 1, 1) := by decide +kernel
theorem d_Lc_thirteen_44 : decode c_Lc_thirteen 44 = .ok (.iload 5, 2) := by decide +kernel
theorem d_Lc_thirteen_46 : decode c_Lc_thirteen 46 = .ok (.invokestatic 103, 3) := by decide +kernel
theorem d_Lc_thirteen_49 : decode c_Lc_thirteen 49 = .ok (.invokestatic 109, 3) := by decide +kernel
theorem d_Lc_thirteen_52 : decode c_Lc_thirteen 52 = .ok (.istore 6, 2) := by decide +kernel
theorem d_Lc_thirteen_54 : decode c_Lc_thirteen 54 = .ok (.iload 4, 2) := by decide +kernel
theorem d_Lc_thirteen_56 : decode c_Lc_thirteen 56 = .ok (.bipush 6, 2) := by decide +kernel
theorem d_Lc_thirteen_58 : decode c_Lc_thirteen 58 = .ok (.iload 5, 2) := by decide +kernel
theorem d_Lc_thirteen_60 : decode c_Lc_thirteen 60 = .ok (.isub, 1) := by decide +kernel
theorem d_Lc_thirteen_61 : decode c_Lc_thirteen 61 = .ok (.ishr, 1) := by decide +kernel
theorem d_Lc_thirteen_62 : decode c_Lc_thirteen 62 = .ok (.iconst 1, 1) := by decide +kernel
theorem d_Lc_thirteen_63 : decode c_Lc_thirteen 63 = .ok (.iand, 1) := by decide +kernel
theorem d_Lc_thirteen_64 : decode c_Lc_thirteen 64 = .ok (.iconst 1, 1) := by decide +kernel
theorem d_Lc_thirteen_65 : decode c_Lc_thirteen 65 = .ok (.if_icmp .ne 7, 3) := by decide +kernel
theorem d_Lc_thirteen_68 : decode c_Lc_thirteen 68 = .ok (.iconst 1, 1) := by decide +kernel
theorem d_Lc_thirteen_69 : decode c_Lc_thirteen 69 = .ok (.goto 4, 3) := by decide +kernel
theorem d_Lc_thirteen_72 : decode c_Lc_thirteen 72 = .ok (.iconst 0, 1) := by decide +kernel
theorem d_Lc_thirteen_73 : decode c_Lc_thirteen 73 = .ok (.istore 7, 2) := by decide +kernel
theorem d_Lc_thirteen_75 : decode c_Lc_thirteen 75 = .ok (.aload_n 0, 1) := by decide +kernel
theorem d_Lc_thirteen_76 : decode c_Lc_thirteen 76 = .ok (.iload 7, 2) := by decide +kernel
theorem d_Lc_thirteen_78 : decode c_Lc_thirteen 78 = .ok (.ifCond .eq 11, 3) := by decide +kernel
theorem d_Lc_thirteen_81 : decode c_Lc_thirteen 81 = .ok (.iload 6, 2) := by decide +kernel
theorem d_Lc_thirteen_83 : decode c_Lc_thirteen 83 = .ok (.invokestatic 112, 3) := by decide +kernel
theorem d_Lc_thirteen_86 : decode c_Lc_thirteen 86 = .ok (.goto 5, 3) := by decide +kernel
theorem d_Lc_thirteen_89 : decode c_Lc_thirteen 89 = .ok (.iload 6, 2) := by decide +kernel
theorem d_Lc_thirteen_91 : decode c_Lc_thirteen 91 = .ok (.iload_n 3, 1) := by decide +kernel
theorem d_Lc_thirteen_92 : decode c_Lc_thirteen 92 = .ok (.invokevirtual 89, 3) := by decide +kernel
theorem d_Lc_thirteen_95 : decode c_Lc_thirteen 95 = .ok (.iinc 5 1, 3) := by decide +kernel
theorem d_Lc_thirteen_98 : decode c_Lc_thirteen 98 = .ok (.goto (-62), 3) := by decide +kernel
theorem d_Lc_thirteen_101 : decode c_Lc_thirteen 101 = .ok (.aload_n 0, 1) := by decide +kernel
theorem d_Lc_thirteen_102 : decode c_Lc_thirteen 102 = .ok (.sipush 11111, 3) := by decide +kernel
theorem d_Lc_thirteen_105 : decode c_Lc_thirteen 105 = .ok (.iload_n 3, 1) := by decide +kernel
theorem d_Lc_thirteen_106 : decode c_Lc_thirteen 106 = .ok (.invokevirtual 89, 3) := by decide +kernel
theorem d_Lc_thirteen_109 : decode c_Lc_thirteen 109 = .ok (.bipush 7, 2) := by decide +kernel
theorem d_Lc_thirteen_111 : decode c_Lc_thirteen 111 = .ok (.istore 5, 2) := by decide +kernel
theorem d_Lc_thirteen_113 : decode c_Lc_thirteen 113 = .ok (.iload 5, 2) := by decide +kernel
theorem d_Lc_thirteen_115 : decode c_Lc_thirteen 115 = .ok (.bipush 12, 2) := by decide +kernel
theorem d_Lc_thirteen_117 : decode c_Lc_thirteen 117 = .ok (.if_icmp .ge 23, 3) := by decide +kernel
theorem d_Lc_thirteen_120 : decode c_Lc_thirteen 120 = .ok (.aload_n 0, 1) := by decide +kernel
theorem d_Lc_thirteen_121 : decode c_Lc_thirteen 121 = .ok (.lload_n 1, 1) := by decide +kernel
theorem d_Lc_thirteen_122 : decode c_Lc_thirteen 122 = .ok (.iload 5, 2) := by decide +kernel
theorem d_Lc_thirteen_124 : decode c_Lc_thirteen 124 = .ok (.invokestatic 103, 3) := by decide +kernel
theorem d_Lc_thirteen_127 : decode c_Lc_thirteen 127 = .ok (.invokestatic 109, 3) := by decide +kernel
theorem d_Lc_thirteen_130 : decode c_Lc_thirteen 130 = .ok (.iload_n 3, 1) := by decide +kernel
theorem d_Lc_thirteen_131 : decode c_Lc_thirteen 131 = .ok (.invokevirtual 89, 3) := by decide +kernel
theorem d_Lc_thirteen_134 : decode c_Lc_thirteen 134 = .ok (.iinc 5 1, 3) := by decide +kernel
theorem d_Lc_thirteen_137 : decode c_Lc_thirteen 137 = .ok (.goto (-24), 3) := by decide +kernel
theorem d_Lc_thirteen_140 : decode c_Lc_thirteen 140 = .ok (.aload_n 0, 1) := by decide +kernel
theorem d_Lc_thirteen_141 : decode c_Lc_thirteen 141 = .ok (.lload_n 1, 1) := by decide +kernel
theorem d_Lc_thirteen_142 : decode c_Lc_thirteen 142 = .ok (.invokestatic 97, 3) := by decide +kernel
theorem d_Lc_thirteen_145 : decode c_Lc_thirteen 145 = .ok (.invokestatic 109, 3) := by decide +kernel
theorem d_Lc_thirteen_148 : decode c_Lc_thirteen 148 = .ok (.iload_n 3, 1) := by decide +kernel
theorem d_Lc_thirteen_149 : decode c_Lc_thirteen 149 = .ok (.invokevirtual 89, 3) := by decide +kernel
theorem d_Lc_thirteen_152 : decode c_Lc_thirteen 152 = .ok (.aload_n 0, 1) := by decide +kernel
theorem d_Lc_thirteen_153 : decode c_Lc_thirteen 153 = .ok (.bipush 111, 2) := by decide +kernel
theorem d_Lc_thirteen_155 : decode c_Lc_thirteen 155 = .ok (.iload_n 3, 1) := by decide +kernel
theorem d_Lc_thirteen_156 : decode c_Lc_thirteen 156 = .ok (.invokevirtual 89, 3) := by decide +kernel
theorem d_Lc_thirteen_159 : decode c_Lc_thirteen 159 = .ok (.aload_n 0, 1) := by decide +kernel
theorem d_Lc_thirteen_160 : decode c_Lc_thirteen 160 = .ok (.getfield 21, 3) := by decide +kernel
theorem d_Lc_thirteen_163 : decode c_Lc_thirteen 163 = .ok (.invokevirtual 69, 3) := by decide +kernel
theorem d_Lc_thirteen_166 : decode c_Lc_thirteen 166 = .ok (.ireturn, 1) := by decide +kernel
theorem d_Lc_put_0 : decode c_Lc_put 0 = .ok (.iload_n 1, 1) := by decide +kernel
theorem d_Lc_put_1 : decode c_Lc_put 1 = .ok (.invokestatic 42, 3) := by decide +kernel
theorem d_Lc_put_4 : decode c_Lc_put 4 = .ok (.iconst 0, 1) := by decide +kernel
theorem d_Lc_put_5 : decode c_Lc_put 5 = .ok (.istore 4, 2) := by decide +kernel
theorem d_Lc_put_7 : decode c_Lc_put 7 = .ok (.iload 4, 2) := by decide +kernel
theorem d_Lc_put_9 : decode c_Lc_put 9 = .ok (.iload_n 1, 1) := by decide +kernel
theorem d_Lc_put_10 : decode c_Lc_put 10 = .ok (.if_icmp .ge 28, 3) := by decide +kernel
theorem d_Lc_put_13 : decode c_Lc_put 13 = .ok (.lload_n 2, 1) := by decide +kernel
theorem d_Lc_put_14 : decode c_Lc_put 14 = .ok (.iload 4, 2) := by decide +kernel
theorem d_Lc_put_16 : decode c_Lc_put 16 = .ok (.invokestatic 45, 3) := by decide +kernel
theorem d_Lc_put_19 : decode c_Lc_put 19 = .ok (.ifCond .ne 13, 3) := by decide +kernel
theorem d_Lc_put_22 : decode c_Lc_put 22 = .ok (.new 51, 3) := by decide +kernel
theorem d_Lc_put_25 : decode c_Lc_put 25 = .ok (.dup, 1) := by decide +kernel
theorem d_Lc_put_26 : decode c_Lc_put 26 = .ok (.ldc 115, 2) := by decide +kernel
theorem d_Lc_put_28 : decode c_Lc_put 28 = .ok (.invokespecial 55, 3) := by decide +kernel
theorem d_Lc_put_31 : decode c_Lc_put 31 = .ok (.athrow, 1) := by decide +kernel
theorem d_Lc_put_32 : decode c_Lc_put 32 = .ok (.iinc 4 1, 3) := by decide +kernel
theorem d_Lc_put_35 : decode c_Lc_put 35 = .ok (.goto (-28), 3) := by decide +kernel
theorem d_Lc_put_38 : decode c_Lc_put 38 = .ok (.aload_n 0, 1) := by decide +kernel
theorem d_Lc_put_39 : decode c_Lc_put 39 = .ok (.getfield 21, 3) := by decide +kernel
theorem d_Lc_put_42 : decode c_Lc_put 42 = .ok (.iload_n 1, 1) := by decide +kernel
theorem d_Lc_put_43 : decode c_Lc_put 43 = .ok (.lload_n 2, 1) := by decide +kernel
theorem d_Lc_put_44 : decode c_Lc_put 44 = .ok (.invokestatic 58, 3) := by decide +kernel
theorem d_Lc_put_47 : decode c_Lc_put 47 = .ok (.ireturn, 1) := by decide +kernel
theorem d_Lc_clear_0 : decode c_Lc_clear 0 = .ok (.aload_n 0, 1) := by decide +kernel
theorem d_Lc_clear_1 : decode c_Lc_clear 1 = .ok (.getfield 21, 3) := by decide +kernel
theorem d_Lc_clear_4 : decode c_Lc_clear 4 = .ok (.invokevirtual 62, 3) := by decide +kernel
theorem d_Lc_clear_7 : decode c_Lc_clear 7 = .ok (.ireturn, 1) := by decide +kernel
theorem d_Lc_width_0 : decode c_Lc_width 0 = .ok (.aload_n 0, 1) := by decide +kernel
theorem d_Lc_width_1 : decode c_Lc_width 1 = .ok (.getfield 21, 3) := by decide +kernel
theorem d_Lc_width_4 : decode c_Lc_width 4 = .ok (.iload_n 1, 1) := by decide +kernel
theorem d_Lc_width_5 : decode c_Lc_width 5 = .ok (.invokevirtual 72, 3) := by decide +kernel
theorem d_Lc_width_8 : decode c_Lc_width 8 = .ok (.ireturn, 1) := by decide +kernel
theorem d_Lc_spoil_0 : decode c_Lc_spoil 0 = .ok (.iload_n 1, 1) := by decide +kernel
theorem d_Lc_spoil_1 : decode c_Lc_spoil 1 = .ok (.ifCond .lt 14, 3) := by decide +kernel
theorem d_Lc_spoil_4 : decode c_Lc_spoil 4 = .ok (.iload_n 1, 1) := by decide +kernel
theorem d_Lc_spoil_5 : decode c_Lc_spoil 5 = .ok (.aload_n 0, 1) := by decide +kernel
theorem d_Lc_spoil_6 : decode c_Lc_spoil 6 = .ok (.getfield 21, 3) := by decide +kernel
theorem d_Lc_spoil_9 : decode c_Lc_spoil 9 = .ok (.invokevirtual 69, 3) := by decide +kernel
theorem d_Lc_spoil_12 : decode c_Lc_spoil 12 = .ok (.if_icmp .lt 13, 3) := by decide +kernel
theorem d_Lc_spoil_15 : decode c_Lc_spoil 15 = .ok (.new 117, 3) := by decide +kernel
theorem d_Lc_spoil_18 : decode c_Lc_spoil 18 = .ok (.dup, 1) := by decide +kernel
theorem d_Lc_spoil_19 : decode c_Lc_spoil 19 = .ok (.ldc 119, 2) := by decide +kernel
theorem d_Lc_spoil_21 : decode c_Lc_spoil 21 = .ok (.invokespecial 121, 3) := by decide +kernel
theorem d_Lc_spoil_24 : decode c_Lc_spoil 24 = .ok (.athrow, 1) := by decide +kernel
theorem d_Lc_spoil_25 : decode c_Lc_spoil 25 = .ok (.iload_n 2, 1) := by decide +kernel
theorem d_Lc_spoil_26 : decode c_Lc_spoil 26 = .ok (.iconst 1, 1) := by decide +kernel
theorem d_Lc_spoil_27 : decode c_Lc_spoil 27 = .ok (.if_icmp .lt 10, 3) := by decide +kernel
theorem d_Lc_spoil_30 : decode c_Lc_spoil 30 = .ok (.iload_n 2, 1) := by decide +kernel
theorem d_Lc_spoil_31 : decode c_Lc_spoil 31 = .ok (.sipush 2000, 3) := by decide +kernel
theorem d_Lc_spoil_34 : decode c_Lc_spoil 34 = .ok (.if_icmp .le 13, 3) := by decide +kernel
theorem d_Lc_spoil_37 : decode c_Lc_spoil 37 = .ok (.new 51, 3) := by decide +kernel
theorem d_Lc_spoil_40 : decode c_Lc_spoil 40 = .ok (.dup, 1) := by decide +kernel
theorem d_Lc_spoil_41 : decode c_Lc_spoil 41 = .ok (.ldc 122, 2) := by decide +kernel
theorem d_Lc_spoil_43 : decode c_Lc_spoil 43 = .ok (.invokespecial 55, 3) := by decide +kernel
theorem d_Lc_spoil_46 : decode c_Lc_spoil 46 = .ok (.athrow, 1) := by decide +kernel
theorem d_Lc_spoil_47 : decode c_Lc_spoil 47 = .ok (.aload_n 0, 1) := by decide +kernel
theorem d_Lc_spoil_48 : decode c_Lc_spoil 48 = .ok (.getfield 21, 3) := by decide +kernel
theorem d_Lc_spoil_51 : decode c_Lc_spoil 51 = .ok (.iload_n 1, 1) := by decide +kernel
theorem d_Lc_spoil_52 : decode c_Lc_spoil 52 = .ok (.iload_n 2, 1) := by decide +kernel
theorem d_Lc_spoil_53 : decode c_Lc_spoil 53 = .ok (.invokevirtual 124, 3) := by decide +kernel
theorem d_Lc_spoil_56 : decode c_Lc_spoil 56 = .ok (.ireturn, 1) := by decide +kernel
theorem d_Lc_turn_0 : decode c_Lc_turn 0 = .ok (.aload_n 0, 1) := by decide +kernel
theorem d_Lc_turn_1 : decode c_Lc_turn 1 = .ok (.getfield 21, 3) := by decide +kernel
theorem d_Lc_turn_4 : decode c_Lc_turn 4 = .ok (.invokevirtual 128, 3) := by decide +kernel
theorem d_Lc_turn_7 : decode c_Lc_turn 7 = .ok (.aload_n 0, 1) := by decide +kernel
theorem d_Lc_turn_8 : decode c_Lc_turn 8 = .ok (.getfield 21, 3) := by decide +kernel
theorem d_Lc_turn_11 : decode c_Lc_turn 11 = .ok (.invokevirtual 69, 3) := by decide +kernel
theorem d_Lc_turn_14 : decode c_Lc_turn 14 = .ok (.ireturn, 1) := by decide +kernel
theorem d_Lc_read_0 : decode c_Lc_read 0 = .ok (.aload_n 0, 1) := by decide +kernel
theorem d_Lc_read_1 : decode c_Lc_read 1 = .ok (.getfield 38, 3) := by decide +kernel
theorem d_Lc_read_4 : decode c_Lc_read 4 = .ok (.iconst 0, 1) := by decide +kernel
theorem d_Lc_read_5 : decode c_Lc_read 5 = .ok (.invokevirtual 131, 3) := by decide +kernel
theorem d_Lc_read_8 : decode c_Lc_read 8 = .ok (.istore_n 1, 1) := by decide +kernel
theorem d_Lc_read_9 : decode c_Lc_read 9 = .ok (.iload_n 1, 1) := by decide +kernel
theorem d_Lc_read_10 : decode c_Lc_read 10 = .ok (.ifCond .ne 26, 3) := by decide +kernel
theorem d_Lc_read_13 : decode c_Lc_read 13 = .ok (.aload_n 0, 1) := by decide +kernel
theorem d_Lc_read_14 : decode c_Lc_read 14 = .ok (.getfield 21, 3) := by decide +kernel
theorem d_Lc_read_17 : decode c_Lc_read 17 = .ok (.invokevirtual 128, 3) := by decide +kernel
theorem d_Lc_read_20 : decode c_Lc_read 20 = .ok (.aload_n 0, 1) := by decide +kernel
theorem d_Lc_read_21 : decode c_Lc_read 21 = .ok (.getfield 38, 3) := by decide +kernel
theorem d_Lc_read_24 : decode c_Lc_read 24 = .ok (.iconst 1, 1) := by decide +kernel
theorem d_Lc_read_25 : decode c_Lc_read 25 = .ok (.invokevirtual 131, 3) := by decide +kernel
theorem d_Lc_read_28 : decode c_Lc_read 28 = .ok (.istore_n 1, 1) := by decide +kernel
theorem d_Lc_read_29 : decode c_Lc_read 29 = .ok (.aload_n 0, 1) := by decide +kernel
theorem d_Lc_read_30 : decode c_Lc_read 30 = .ok (.getfield 21, 3) := by decide +kernel
theorem d_Lc_read_33 : decode c_Lc_read 33 = .ok (.invokevirtual 128, 3) := by decide +kernel
theorem d_Lc_read_36 : decode c_Lc_read 36 = .ok (.iload_n 1, 1) := by decide +kernel
theorem d_Lc_read_37 : decode c_Lc_read 37 = .ok (.ifCond .eq 13, 3) := by decide +kernel
theorem d_Lc_read_40 : decode c_Lc_read 40 = .ok (.aload_n 0, 1) := by decide +kernel
theorem d_Lc_read_41 : decode c_Lc_read 41 = .ok (.getfield 38, 3) := by decide +kernel
theorem d_Lc_read_44 : decode c_Lc_read 44 = .ok (.invokevirtual 135, 3) := by decide +kernel
theorem d_Lc_read_47 : decode c_Lc_read 47 = .ok (.goto 4, 3) := by decide +kernel
theorem d_Lc_read_50 : decode c_Lc_read 50 = .ok (.iconst (-1), 1) := by decide +kernel
theorem d_Lc_read_51 : decode c_Lc_read 51 = .ok (.ireturn, 1) := by decide +kernel
theorem d_Lc_sign_0 : decode c_Lc_sign 0 = .ok (.aload_n 0, 1) := by decide +kernel
theorem d_Lc_sign_1 : decode c_Lc_sign 1 = .ok (.getfield 38, 3) := by decide +kernel
theorem d_Lc_sign_4 : decode c_Lc_sign 4 = .ok (.iload_n 1, 1) := by decide +kernel
theorem d_Lc_sign_5 : decode c_Lc_sign 5 = .ok (.invokevirtual 138, 3) := by decide +kernel
theorem d_Lc_sign_8 : decode c_Lc_sign 8 = .ok (.ireturn, 1) := by decide +kernel
theorem d_Lc_backwards_0 : decode c_Lc_backwards 0 = .ok (.aload_n 0, 1) := by decide +kernel
theorem d_Lc_backwards_1 : decode c_Lc_backwards 1 = .ok (.getfield 38, 3) := by decide +kernel
theorem d_Lc_backwards_4 : decode c_Lc_backwards 4 = .ok (.invokevirtual 141, 3) := by decide +kernel
theorem d_Lc_backwards_7 : decode c_Lc_backwards 7 = .ok (.ireturn, 1) := by decide +kernel
theorem d_Lc_refuseByteCount_0 : decode c_Lc_refuseByteCount 0 = .ok (.iload_n 0, 1) := by decide +kernel
theorem d_Lc_refuseByteCount_1 : decode c_Lc_refuseByteCount 1 = .ok (.iconst 1, 1) := by decide +kernel
theorem d_Lc_refuseByteCount_2 : decode c_Lc_refuseByteCount 2 = .ok (.if_icmp .lt 9, 3) := by decide +kernel
theorem d_Lc_refuseByteCount_5 : decode c_Lc_refuseByteCount 5 = .ok (.iload_n 0, 1) := by decide +kernel
theorem d_Lc_refuseByteCount_6 : decode c_Lc_refuseByteCount 6 = .ok (.bipush 8, 2) := by decide +kernel
theorem d_Lc_refuseByteCount_8 : decode c_Lc_refuseByteCount 8 = .ok (.if_icmp .le 13, 3) := by decide +kernel
theorem d_Lc_refuseByteCount_11 : decode c_Lc_refuseByteCount 11 = .ok (.new 51, 3) := by decide +kernel
theorem d_Lc_refuseByteCount_14 : decode c_Lc_refuseByteCount 14 = .ok (.dup, 1) := by decide +kernel
theorem d_Lc_refuseByteCount_15 : decode c_Lc_refuseByteCount 15 = .ok (.ldc 145, 2) := by decide +kernel
theorem d_Lc_refuseByteCount_17 : decode c_Lc_refuseByteCount 17 = .ok (.invokespecial 55, 3) := by decide +kernel
theorem d_Lc_refuseByteCount_20 : decode c_Lc_refuseByteCount 20 = .ok (.athrow, 1) := by decide +kernel
theorem d_Lc_refuseByteCount_21 : decode c_Lc_refuseByteCount 21 = .ok (.return_, 1) := by decide +kernel
theorem d_Lc_refuseModule_0 : decode c_Lc_refuseModule 0 = .ok (.iload_n 0, 1) := by decide +kernel
theorem d_Lc_refuseModule_1 : decode c_Lc_refuseModule 1 = .ok (.iconst 1, 1) := by decide +kernel
theorem d_Lc_refuseModule_2 : decode c_Lc_refuseModule 2 = .ok (.if_icmp .lt 9, 3) := by decide +kernel
theorem d_Lc_refuseModule_5 : decode c_Lc_refuseModule 5 = .ok (.iload_n 0, 1) := by decide +kernel
theorem d_Lc_refuseModule_6 : decode c_Lc_refuseModule 6 = .ok (.bipush 50, 2) := by decide +kernel
theorem d_Lc_refuseModule_8 : decode c_Lc_refuseModule 8 = .ok (.if_icmp .le 13, 3) := by decide +kernel
theorem d_Lc_refuseModule_11 : decode c_Lc_refuseModule 11 = .ok (.new 51, 3) := by decide +kernel
theorem d_Lc_refuseModule_14 : decode c_Lc_refuseModule 14 = .ok (.dup, 1) := by decide +kernel
theorem d_Lc_refuseModule_15 : decode c_Lc_refuseModule 15 = .ok (.ldc 147, 2) := by decide +kernel
theorem d_Lc_refuseModule_17 : decode c_Lc_refuseModule 17 = .ok (.invokespecial 55, 3) := by decide +kernel
theorem d_Lc_refuseModule_20 : decode c_Lc_refuseModule 20 = .ok (.athrow, 1) := by decide +kernel
theorem d_Lc_refuseModule_21 : decode c_Lc_refuseModule 21 = .ok (.return_, 1) := by decide +kernel
theorem d_Lc_refuseTwelve_0 : decode c_Lc_refuseTwelve 0 = .ok (.lload_n 0, 1) := by decide +kernel
theorem d_Lc_refuseTwelve_1 : decode c_Lc_refuseTwelve 1 = .ok (.lconst 0, 1) := by decide +kernel
theorem d_Lc_refuseTwelve_2 : decode c_Lc_refuseTwelve 2 = .ok (.lcmp, 1) := by decide +kernel
theorem d_Lc_refuseTwelve_3 : decode c_Lc_refuseTwelve 3 = .ok (.ifCond .lt 11, 3) := by decide +kernel
theorem d_Lc_refuseTwelve_6 : decode c_Lc_refuseTwelve 6 = .ok (.lload_n 0, 1) := by decide +kernel
theorem d_Lc_refuseTwelve_7 : decode c_Lc_refuseTwelve 7 = .ok (.ldc2_w 149, 3) := by decide +kernel
theorem d_Lc_refuseTwelve_10 : decode c_Lc_refuseTwelve 10 = .ok (.lcmp, 1) := by decide +kernel
theorem d_Lc_refuseTwelve_11 : decode c_Lc_refuseTwelve 11 = .ok (.ifCond .le 13, 3) := by decide +kernel
theorem d_Lc_refuseTwelve_14 : decode c_Lc_refuseTwelve 14 = .ok (.new 51, 3) := by decide +kernel
theorem d_Lc_refuseTwelve_17 : decode c_Lc_refuseTwelve 17 = .ok (.dup, 1) := by decide +kernel
theorem d_Lc_refuseTwelve_18 : decode c_Lc_refuseTwelve 18 = .ok (.ldc 151, 2) := by decide +kernel
theorem d_Lc_refuseTwelve_20 : decode c_Lc_refuseTwelve 20 = .ok (.invokespecial 55, 3) := by decide +kernel
theorem d_Lc_refuseTwelve_23 : decode c_Lc_refuseTwelve 23 = .ok (.athrow, 1) := by decide +kernel
theorem d_Lc_refuseTwelve_24 : decode c_Lc_refuseTwelve 24 = .ok (.return_, 1) := by decide +kernel
theorem d_Lc_byteOf_0 : decode c_Lc_byteOf 0 = .ok (.lload_n 0, 1) := by decide +kernel
theorem d_Lc_byteOf_1 : decode c_Lc_byteOf 1 = .ok (.bipush 8, 2) := by decide +kernel
theorem d_Lc_byteOf_3 : decode c_Lc_byteOf 3 = .ok (.iload_n 2, 1) := by decide +kernel
theorem d_Lc_byteOf_4 : decode c_Lc_byteOf 4 = .ok (.imul, 1) := by decide +kernel
theorem d_Lc_byteOf_5 : decode c_Lc_byteOf 5 = .ok (.lushr, 1) := by decide +kernel
theorem d_Lc_byteOf_6 : decode c_Lc_byteOf 6 = .ok (.ldc2_w 153, 3) := by decide +kernel
theorem d_Lc_byteOf_9 : decode c_Lc_byteOf 9 = .ok (.land, 1) := by decide +kernel
theorem d_Lc_byteOf_10 : decode c_Lc_byteOf 10 = .ok (.l2i, 1) := by decide +kernel
theorem d_Lc_byteOf_11 : decode c_Lc_byteOf 11 = .ok (.ireturn, 1) := by decide +kernel
theorem d_Lc_addBytes_0 : decode c_Lc_addBytes 0 = .ok (.aload_n 0, 1) := by decide +kernel
theorem d_Lc_addBytes_1 : decode c_Lc_addBytes 1 = .ok (.iload_n 1, 1) := by decide +kernel
theorem d_Lc_addBytes_2 : decode c_Lc_addBytes 2 = .ok (.invokevirtual 155, 3) := by decide +kernel
theorem d_Lc_addBytes_5 : decode c_Lc_addBytes 5 = .ok (.ifCond .ne 5, 3) := by decide +kernel
theorem d_Lc_addBytes_8 : decode c_Lc_addBytes 8 = .ok (.iconst (-1), 1) := by decide +kernel
theorem d_Lc_addBytes_9 : decode c_Lc_addBytes 9 = .ok (.ireturn, 1) := by decide +kernel
theorem d_Lc_addBytes_10 : decode c_Lc_addBytes 10 = .ok (.iconst 0, 1) := by decide +kernel
theorem d_Lc_addBytes_11 : decode c_Lc_addBytes 11 = .ok (.istore 4, 2) := by decide +kernel
theorem d_Lc_addBytes_13 : decode c_Lc_addBytes 13 = .ok (.iload 4, 2) := by decide +kernel
theorem d_Lc_addBytes_15 : decode c_Lc_addBytes 15 = .ok (.iload_n 1, 1) := by decide +kernel
theorem d_Lc_addBytes_16 : decode c_Lc_addBytes 16 = .ok (.if_icmp .ge 20, 3) := by decide +kernel
theorem d_Lc_addBytes_19 : decode c_Lc_addBytes 19 = .ok (.aload_n 0, 1) := by decide +kernel
theorem d_Lc_addBytes_20 : decode c_Lc_addBytes 20 = .ok (.lload_n 2, 1) := by decide +kernel
theorem d_Lc_addBytes_21 : decode c_Lc_addBytes 21 = .ok (.iload 4, 2) := by decide +kernel
theorem d_Lc_addBytes_23 : decode c_Lc_addBytes 23 = .ok (.invokestatic 45, 3) := by decide +kernel
theorem d_Lc_addBytes_26 : decode c_Lc_addBytes 26 = .ok (.invokevirtual 159, 3) := by decide +kernel
theorem d_Lc_addBytes_29 : decode c_Lc_addBytes 29 = .ok (.pop, 1) := by decide +kernel
theorem d_Lc_addBytes_30 : decode c_Lc_addBytes 30 = .ok (.iinc 4 1, 3) := by decide +kernel
theorem d_Lc_addBytes_33 : decode c_Lc_addBytes 33 = .ok (.goto (-20), 3) := by decide +kernel
theorem d_Lc_addBytes_36 : decode c_Lc_addBytes 36 = .ok (.aload_n 0, 1) := by decide +kernel
theorem d_Lc_addBytes_37 : decode c_Lc_addBytes 37 = .ok (.invokevirtual 69, 3) := by decide +kernel
theorem d_Lc_addBytes_40 : decode c_Lc_addBytes 40 = .ok (.ireturn, 1) := by decide +kernel
theorem d_Lc_addWidths_0 : decode c_Lc_addWidths 0 = .ok (.ldc 162, 2) := by decide +kernel
theorem d_Lc_addWidths_2 : decode c_Lc_addWidths 2 = .ok (.istore_n 3, 1) := by decide +kernel
theorem d_Lc_addWidths_3 : decode c_Lc_addWidths 3 = .ok (.iload_n 3, 1) := by decide +kernel
theorem d_Lc_addWidths_4 : decode c_Lc_addWidths 4 = .ok (.ifCond .le 32, 3) := by decide +kernel
theorem d_Lc_addWidths_7 : decode c_Lc_addWidths 7 = .ok (.iload_n 1, 1) := by decide +kernel
theorem d_Lc_addWidths_8 : decode c_Lc_addWidths 8 = .ok (.iload_n 3, 1) := by decide +kernel
theorem d_Lc_addWidths_9 : decode c_Lc_addWidths 9 = .ok (.if_icmp .lt 19, 3) := by decide +kernel
theorem d_Lc_addWidths_12 : decode c_Lc_addWidths 12 = .ok (.aload_n 0, 1) := by decide +kernel
theorem d_Lc_addWidths_13 : decode c_Lc_addWidths 13 = .ok (.getfield 21, 3) := by decide +kernel
theorem d_Lc_addWidths_16 : decode c_Lc_addWidths 16 = .ok (.iload_n 1, 1) := by decide +kernel
theorem d_Lc_addWidths_17 : decode c_Lc_addWidths 17 = .ok (.iload_n 3, 1) := by decide +kernel
theorem d_Lc_addWidths_18 : decode c_Lc_addWidths 18 = .ok (.idiv, 1) := by decide +kernel
theorem d_Lc_addWidths_19 : decode c_Lc_addWidths 19 = .ok (.bipush 10, 2) := by decide +kernel
theorem d_Lc_addWidths_21 : decode c_Lc_addWidths 21 = .ok (.irem, 1) := by decide +kernel
theorem d_Lc_addWidths_22 : decode c_Lc_addWidths 22 = .ok (.iload_n 2, 1) := by decide +kernel
theorem d_Lc_addWidths_23 : decode c_Lc_addWidths 23 = .ok (.imul, 1) := by decide +kernel
theorem d_Lc_addWidths_24 : decode c_Lc_addWidths 24 = .ok (.invokevirtual 159, 3) := by decide +kernel
theorem d_Lc_addWidths_27 : decode c_Lc_addWidths 27 = .ok (.pop, 1) := by decide +kernel
theorem d_Lc_addWidths_28 : decode c_Lc_addWidths 28 = .ok (.iload_n 3, 1) := by decide +kernel
theorem d_Lc_addWidths_29 : decode c_Lc_addWidths 29 = .ok (.bipush 10, 2) := by decide +kernel
theorem d_Lc_addWidths_31 : decode c_Lc_addWidths 31 = .ok (.idiv, 1) := by decide +kernel
theorem d_Lc_addWidths_32 : decode c_Lc_addWidths 32 = .ok (.istore_n 3, 1) := by decide +kernel
theorem d_Lc_addWidths_33 : decode c_Lc_addWidths 33 = .ok (.goto (-30), 3) := by decide +kernel
theorem d_Lc_addWidths_36 : decode c_Lc_addWidths 36 = .ok (.return_, 1) := by decide +kernel
