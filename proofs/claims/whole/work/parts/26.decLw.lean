theorem mm_370 : Cond.classLink R_Lw 13 "java/lang/IllegalArgumentException" ∈ tb := tb_at 370 (by decide +kernel) (by decide +kernel)
theorem mm_371 : Cond.methodLink R_Lw 7 y_Lc_write ∈ tb := tb_at 371 (by decide +kernel) (by decide +kernel)
theorem mm_372 : Cond.instanceMethod y_Lc_write ∈ tb := tb_at 372 (by decide +kernel) (by decide +kernel)
theorem mm_373 : Cond.selects R_Lc y_Lc_write y_Lc_write ∈ tb := tb_at 373 (by decide +kernel) (by decide +kernel)
theorem mm_374 : wc_Lc_write ∈ tb := tb_at 374 (by decide +kernel) (by decide +kernel)
theorem mm_462 : Cond.classLink R_Lw 19 "java/lang/IllegalStateException" ∈ tb := tb_at 462 (by decide +kernel) (by decide +kernel)
theorem mm_463 : Cond.methodLink R_Lw 15 y_Lc_bars ∈ tb := tb_at 463 (by decide +kernel) (by decide +kernel)
theorem mm_464 : Cond.instanceMethod y_Lc_bars ∈ tb := tb_at 464 (by decide +kernel) (by decide +kernel)
theorem mm_465 : Cond.selects R_Lc y_Lc_bars y_Lc_bars ∈ tb := tb_at 465 (by decide +kernel) (by decide +kernel)
theorem mm_466 : wc_Lc_bars ∈ tb := tb_at 466 (by decide +kernel) (by decide +kernel)
theorem mm_502 : Cond.methodLink R_Lw 21 y_Lc_checkFigure ∈ tb := tb_at 502 (by decide +kernel) (by decide +kernel)
theorem mm_503 : Cond.instanceMethod y_Lc_checkFigure ∈ tb := tb_at 503 (by decide +kernel) (by decide +kernel)
theorem mm_504 : Cond.selects R_Lc y_Lc_checkFigure y_Lc_checkFigure ∈ tb := tb_at 504 (by decide +kernel) (by decide +kernel)
theorem mm_505 : wc_Lc_checkFigure ∈ tb := tb_at 505 (by decide +kernel) (by decide +kernel)
theorem mm_522 : Cond.methodLink R_Lw 25 y_Lc_thirteen ∈ tb := tb_at 522 (by decide +kernel) (by decide +kernel)
theorem mm_523 : Cond.instanceMethod y_Lc_thirteen ∈ tb := tb_at 523 (by decide +kernel) (by decide +kernel)
theorem mm_524 : Cond.selects R_Lc y_Lc_thirteen y_Lc_thirteen ∈ tb := tb_at 524 (by decide +kernel) (by decide +kernel)
theorem mm_525 : wc_Lc_thirteen ∈ tb := tb_at 525 (by decide +kernel) (by decide +kernel)
theorem mm_537 : Cond.methodLink R_Lw 29 y_Lc_put ∈ tb := tb_at 537 (by decide +kernel) (by decide +kernel)
theorem mm_538 : Cond.instanceMethod y_Lc_put ∈ tb := tb_at 538 (by decide +kernel) (by decide +kernel)
theorem mm_539 : Cond.selects R_Lc y_Lc_put y_Lc_put ∈ tb := tb_at 539 (by decide +kernel) (by decide +kernel)
theorem mm_540 : wc_Lc_put ∈ tb := tb_at 540 (by decide +kernel) (by decide +kernel)
theorem mm_545 : Cond.classLink R_Lw 36 "java/lang/IndexOutOfBoundsException" ∈ tb := tb_at 545 (by decide +kernel) (by decide +kernel)
theorem mm_546 : Cond.methodLink R_Lw 32 y_Lc_spoil ∈ tb := tb_at 546 (by decide +kernel) (by decide +kernel)
theorem mm_547 : Cond.instanceMethod y_Lc_spoil ∈ tb := tb_at 547 (by decide +kernel) (by decide +kernel)
theorem mm_548 : Cond.selects R_Lc y_Lc_spoil y_Lc_spoil ∈ tb := tb_at 548 (by decide +kernel) (by decide +kernel)
theorem mm_549 : wc_Lc_spoil ∈ tb := tb_at 549 (by decide +kernel) (by decide +kernel)
theorem d_Lw_write_0 : decode c_Lw_write 0 = .ok (.aload 4, 2) := by decide +kernel
theorem d_Lw_write_2 : decode c_Lw_write 2 = .ok (.iconst 0, 1) := by decide +kernel
theorem d_Lw_write_3 : decode c_Lw_write 3 = .ok (.aload_n 0, 1) := by decide +kernel
theorem d_Lw_write_4 : decode c_Lw_write 4 = .ok (.iload_n 1, 1) := by decide +kernel
theorem d_Lw_write_5 : decode c_Lw_write 5 = .ok (.lload_n 2, 1) := by decide +kernel
theorem d_Lw_write_6 : decode c_Lw_write 6 = .ok (.invokevirtual 7, 3) := by decide +kernel
theorem d_Lw_write_9 : decode c_Lw_write 9 = .ok (.i2l, 1) := by decide +kernel
theorem d_Lw_write_10 : decode c_Lw_write 10 = .ok (.lastore, 1) := by decide +kernel
theorem d_Lw_write_11 : decode c_Lw_write 11 = .ok (.goto 7, 3) := by decide +kernel
theorem d_Lw_write_14 : decode c_Lw_write 14 = .ok (.astore 5, 2) := by decide +kernel
theorem d_Lw_write_16 : decode c_Lw_write 16 = .ok (.iconst 1, 1) := by decide +kernel
theorem d_Lw_write_17 : decode c_Lw_write 17 = .ok (.ireturn, 1) := by decide +kernel
theorem d_Lw_write_18 : decode c_Lw_write 18 = .ok (.iconst 0, 1) := by decide +kernel
theorem d_Lw_write_19 : decode c_Lw_write 19 = .ok (.ireturn, 1) := by decide +kernel
theorem d_Lw_bars_0 : decode c_Lw_bars 0 = .ok (.aload_n 2, 1) := by decide +kernel
theorem d_Lw_bars_1 : decode c_Lw_bars 1 = .ok (.iconst 0, 1) := by decide +kernel
theorem d_Lw_bars_2 : decode c_Lw_bars 2 = .ok (.aload_n 0, 1) := by decide +kernel
theorem d_Lw_bars_3 : decode c_Lw_bars 3 = .ok (.iload_n 1, 1) := by decide +kernel
theorem d_Lw_bars_4 : decode c_Lw_bars 4 = .ok (.invokevirtual 15, 3) := by decide +kernel
theorem d_Lw_bars_7 : decode c_Lw_bars 7 = .ok (.i2l, 1) := by decide +kernel
theorem d_Lw_bars_8 : decode c_Lw_bars 8 = .ok (.lastore, 1) := by decide +kernel
theorem d_Lw_bars_9 : decode c_Lw_bars 9 = .ok (.goto 9, 3) := by decide +kernel
theorem d_Lw_bars_12 : decode c_Lw_bars 12 = .ok (.astore_n 3, 1) := by decide +kernel
theorem d_Lw_bars_13 : decode c_Lw_bars 13 = .ok (.iconst 1, 1) := by decide +kernel
theorem d_Lw_bars_14 : decode c_Lw_bars 14 = .ok (.ireturn, 1) := by decide +kernel
theorem d_Lw_bars_15 : decode c_Lw_bars 15 = .ok (.astore_n 3, 1) := by decide +kernel
theorem d_Lw_bars_16 : decode c_Lw_bars 16 = .ok (.iconst 2, 1) := by decide +kernel
theorem d_Lw_bars_17 : decode c_Lw_bars 17 = .ok (.ireturn, 1) := by decide +kernel
theorem d_Lw_bars_18 : decode c_Lw_bars 18 = .ok (.iconst 0, 1) := by decide +kernel
theorem d_Lw_bars_19 : decode c_Lw_bars 19 = .ok (.ireturn, 1) := by decide +kernel
theorem d_Lw_checkFigure_0 : decode c_Lw_checkFigure 0 = .ok (.aload_n 3, 1) := by decide +kernel
theorem d_Lw_checkFigure_1 : decode c_Lw_checkFigure 1 = .ok (.iconst 0, 1) := by decide +kernel
theorem d_Lw_checkFigure_2 : decode c_Lw_checkFigure 2 = .ok (.aload_n 0, 1) := by decide +kernel
theorem d_Lw_checkFigure_3 : decode c_Lw_checkFigure 3 = .ok (.lload_n 1, 1) := by decide +kernel
theorem d_Lw_checkFigure_4 : decode c_Lw_checkFigure 4 = .ok (.invokevirtual 21, 3) := by decide +kernel
theorem d_Lw_checkFigure_7 : decode c_Lw_checkFigure 7 = .ok (.i2l, 1) := by decide +kernel
theorem d_Lw_checkFigure_8 : decode c_Lw_checkFigure 8 = .ok (.lastore, 1) := by decide +kernel
theorem d_Lw_checkFigure_9 : decode c_Lw_checkFigure 9 = .ok (.goto 7, 3) := by decide +kernel
theorem d_Lw_checkFigure_12 : decode c_Lw_checkFigure 12 = .ok (.astore 4, 2) := by decide +kernel
theorem d_Lw_checkFigure_14 : decode c_Lw_checkFigure 14 = .ok (.iconst 1, 1) := by decide +kernel
theorem d_Lw_checkFigure_15 : decode c_Lw_checkFigure 15 = .ok (.ireturn, 1) := by decide +kernel
theorem d_Lw_checkFigure_16 : decode c_Lw_checkFigure 16 = .ok (.iconst 0, 1) := by decide +kernel
theorem d_Lw_checkFigure_17 : decode c_Lw_checkFigure 17 = .ok (.ireturn, 1) := by decide +kernel
theorem d_Lw_thirteen_0 : decode c_Lw_thirteen 0 = .ok (.aload 4, 2) := by decide +kernel
theorem d_Lw_thirteen_2 : decode c_Lw_thirteen 2 = .ok (.iconst 0, 1) := by decide +kernel
theorem d_Lw_thirteen_3 : decode c_Lw_thirteen 3 = .ok (.aload_n 0, 1) := by decide +kernel
theorem d_Lw_thirteen_4 : decode c_Lw_thirteen 4 = .ok (.lload_n 1, 1) := by decide +kernel
theorem d_Lw_thirteen_5 : decode c_Lw_thirteen 5 = .ok (.iload_n 3, 1) := by decide +kernel
theorem d_Lw_thirteen_6 : decode c_Lw_thirteen 6 = .ok (.invokevirtual 25, 3) := by decide +kernel
theorem d_Lw_thirteen_9 : decode c_Lw_thirteen 9 = .ok (.i2l, 1) := by decide +kernel
theorem d_Lw_thirteen_10 : decode c_Lw_thirteen 10 = .ok (.lastore, 1) := by decide +kernel
theorem d_Lw_thirteen_11 : decode c_Lw_thirteen 11 = .ok (.goto 7, 3) := by decide +kernel
theorem d_Lw_thirteen_14 : decode c_Lw_thirteen 14 = .ok (.astore 5, 2) := by decide +kernel
theorem d_Lw_thirteen_16 : decode c_Lw_thirteen 16 = .ok (.iconst 1, 1) := by decide +kernel
theorem d_Lw_thirteen_17 : decode c_Lw_thirteen 17 = .ok (.ireturn, 1) := by decide +kernel
theorem d_Lw_thirteen_18 : decode c_Lw_thirteen 18 = .ok (.iconst 0, 1) := by decide +kernel
theorem d_Lw_thirteen_19 : decode c_Lw_thirteen 19 = .ok (.ireturn, 1) := by decide +kernel
theorem d_Lw_put_0 : decode c_Lw_put 0 = .ok (.aload 4, 2) := by decide +kernel
theorem d_Lw_put_2 : decode c_Lw_put 2 = .ok (.iconst 0, 1) := by decide +kernel
theorem d_Lw_put_3 : decode c_Lw_put 3 = .ok (.aload_n 0, 1) := by decide +kernel
theorem d_Lw_put_4 : decode c_Lw_put 4 = .ok (.iload_n 1, 1) := by decide +kernel
theorem d_Lw_put_5 : decode c_Lw_put 5 = .ok (.lload_n 2, 1) := by decide +kernel
theorem d_Lw_put_6 : decode c_Lw_put 6 = .ok (.invokevirtual 29, 3) := by decide +kernel
theorem d_Lw_put_9 : decode c_Lw_put 9 = .ok (.i2l, 1) := by decide +kernel
theorem d_Lw_put_10 : decode c_Lw_put 10 = .ok (.lastore, 1) := by decide +kernel
theorem d_Lw_put_11 : decode c_Lw_put 11 = .ok (.goto 7, 3) := by decide +kernel
theorem d_Lw_put_14 : decode c_Lw_put 14 = .ok (.astore 5, 2) := by decide +kernel
theorem d_Lw_put_16 : decode c_Lw_put 16 = .ok (.iconst 1, 1) := by decide +kernel
theorem d_Lw_put_17 : decode c_Lw_put 17 = .ok (.ireturn, 1) := by decide +kernel
theorem d_Lw_put_18 : decode c_Lw_put 18 = .ok (.iconst 0, 1) := by decide +kernel
theorem d_Lw_put_19 : decode c_Lw_put 19 = .ok (.ireturn, 1) := by decide +kernel
theorem d_Lw_spoil_0 : decode c_Lw_spoil 0 = .ok (.aload_n 3, 1) := by decide +kernel
theorem d_Lw_spoil_1 : decode c_Lw_spoil 1 = .ok (.iconst 0, 1) := by decide +kernel
theorem d_Lw_spoil_2 : decode c_Lw_spoil 2 = .ok (.aload_n 0, 1) := by decide +kernel
theorem d_Lw_spoil_3 : decode c_Lw_spoil 3 = .ok (.iload_n 1, 1) := by decide +kernel
theorem d_Lw_spoil_4 : decode c_Lw_spoil 4 = .ok (.iload_n 2, 1) := by decide +kernel
theorem d_Lw_spoil_5 : decode c_Lw_spoil 5 = .ok (.invokevirtual 32, 3) := by decide +kernel
theorem d_Lw_spoil_8 : decode c_Lw_spoil 8 = .ok (.i2l, 1) := by decide +kernel
theorem d_Lw_spoil_9 : decode c_Lw_spoil 9 = .ok (.lastore, 1) := by decide +kernel
theorem d_Lw_spoil_10 : decode c_Lw_spoil 10 = .ok (.goto 11, 3) := by decide +kernel
theorem d_Lw_spoil_13 : decode c_Lw_spoil 13 = .ok (.astore 4, 2) := by decide +kernel
theorem d_Lw_spoil_15 : decode c_Lw_spoil 15 = .ok (.iconst 1, 1) := by decide +kernel
theorem d_Lw_spoil_16 : decode c_Lw_spoil 16 = .ok (.ireturn, 1) := by decide +kernel
theorem d_Lw_spoil_17 : decode c_Lw_spoil 17 = .ok (.astore 4, 2) := by decide +kernel
theorem d_Lw_spoil_19 : decode c_Lw_spoil 19 = .ok (.iconst 2, 1) := by decide +kernel
theorem d_Lw_spoil_20 : decode c_Lw_spoil 20 = .ok (.ireturn, 1) := by decide +kernel
theorem d_Lw_spoil_21 : decode c_Lw_spoil 21 = .ok (.iconst 0, 1) := by decide +kernel
theorem d_Lw_spoil_22 : decode c_Lw_spoil 22 = .ok (.ireturn, 1) := by decide +kernel
theorem d_Lw_law_0 : decode c_Lw_law 0 = .ok (.new 8, 3) := by decide +kernel
theorem d_Lw_law_3 : decode c_Lw_law 3 = .ok (.dup, 1) := by decide +kernel
theorem d_Lw_law_4 : decode c_Lw_law 4 = .ok (.invokespecial 38, 3) := by decide +kernel
theorem d_Lw_law_7 : decode c_Lw_law 7 = .ok (.astore_n 1, 1) := by decide +kernel
theorem d_Lw_law_8 : decode c_Lw_law 8 = .ok (.new 39, 3) := by decide +kernel
theorem d_Lw_law_11 : decode c_Lw_law 11 = .ok (.dup, 1) := by decide +kernel
theorem d_Lw_law_12 : decode c_Lw_law 12 = .ok (.invokespecial 41, 3) := by decide +kernel
theorem d_Lw_law_15 : decode c_Lw_law 15 = .ok (.astore_n 2, 1) := by decide +kernel
theorem d_Lw_law_16 : decode c_Lw_law 16 = .ok (.iconst 1, 1) := by decide +kernel
theorem d_Lw_law_17 : decode c_Lw_law 17 = .ok (.newarray .long, 2) := by decide +kernel
theorem d_Lw_law_19 : decode c_Lw_law 19 = .ok (.astore_n 3, 1) := by decide +kernel
theorem d_Lw_law_20 : decode c_Lw_law 20 = .ok (.iconst 0, 1) := by decide +kernel
theorem d_Lw_law_21 : decode c_Lw_law 21 = .ok (.istore 4, 2) := by decide +kernel
theorem d_Lw_law_23 : decode c_Lw_law 23 = .ok (.iload 4, 2) := by decide +kernel
theorem d_Lw_law_25 : decode c_Lw_law 25 = .ok (.aload_n 0, 1) := by decide +kernel
theorem d_Lw_law_26 : decode c_Lw_law 26 = .ok (.arraylength, 1) := by decide +kernel
theorem d_Lw_law_27 : decode c_Lw_law 27 = .ok (.iconst 4, 1) := by decide +kernel
theorem d_Lw_law_28 : decode c_Lw_law 28 = .ok (.isub, 1) := by decide +kernel
theorem d_Lw_law_29 : decode c_Lw_law 29 = .ok (.if_icmp .gt 754, 3) := by decide +kernel
theorem d_Lw_law_32 : decode c_Lw_law 32 = .ok (.aload_n 0, 1) := by decide +kernel
theorem d_Lw_law_33 : decode c_Lw_law 33 = .ok (.iload 4, 2) := by decide +kernel
theorem d_Lw_law_35 : decode c_Lw_law 35 = .ok (.iaload, 1) := by decide +kernel
theorem d_Lw_law_36 : decode c_Lw_law 36 = .ok (.bipush 15, 2) := by decide +kernel
theorem d_Lw_law_38 : decode c_Lw_law 38 = .ok (.iand, 1) := by decide +kernel
theorem d_Lw_law_39 : decode c_Lw_law 39 = .ok (.tableswitch 738 0 14 #[73, 173, 186, 199, 224, 280, 368, 468, 568, 581, 606, 674, 687, 700, 725], 73) := by decide +kernel
theorem d_Lw_law_112 : decode c_Lw_law 112 = .ok (.aload_n 1, 1) := by decide +kernel
theorem d_Lw_law_113 : decode c_Lw_law 113 = .ok (.aload_n 0, 1) := by decide +kernel
theorem d_Lw_law_114 : decode c_Lw_law 114 = .ok (.iload 4, 2) := by decide +kernel
theorem d_Lw_law_116 : decode c_Lw_law 116 = .ok (.iconst 1, 1) := by decide +kernel
theorem d_Lw_law_117 : decode c_Lw_law 117 = .ok (.iadd, 1) := by decide +kernel
theorem d_Lw_law_118 : decode c_Lw_law 118 = .ok (.iaload, 1) := by decide +kernel
theorem d_Lw_law_119 : decode c_Lw_law 119 = .ok (.aload_n 0, 1) := by decide +kernel
theorem d_Lw_law_120 : decode c_Lw_law 120 = .ok (.iload 4, 2) := by decide +kernel
theorem d_Lw_law_122 : decode c_Lw_law 122 = .ok (.iconst 2, 1) := by decide +kernel
theorem d_Lw_law_123 : decode c_Lw_law 123 = .ok (.iadd, 1) := by decide +kernel
theorem d_Lw_law_124 : decode c_Lw_law 124 = .ok (.iaload, 1) := by decide +kernel
theorem d_Lw_law_125 : decode c_Lw_law 125 = .ok (.i2l, 1) := by decide +kernel
theorem d_Lw_law_126 : decode c_Lw_law 126 = .ok (.bipush 32, 2) := by decide +kernel
theorem d_Lw_law_128 : decode c_Lw_law 128 = .ok (.lshl, 1) := by decide +kernel
theorem d_Lw_law_129 : decode c_Lw_law 129 = .ok (.aload_n 0, 1) := by decide +kernel
theorem d_Lw_law_130 : decode c_Lw_law 130 = .ok (.iload 4, 2) := by decide +kernel
theorem d_Lw_law_132 : decode c_Lw_law 132 = .ok (.iconst 3, 1) := by decide +kernel
theorem d_Lw_law_133 : decode c_Lw_law 133 = .ok (.iadd, 1) := by decide +kernel
theorem d_Lw_law_134 : decode c_Lw_law 134 = .ok (.iaload, 1) := by decide +kernel
theorem d_Lw_law_135 : decode c_Lw_law 135 = .ok (.i2l, 1) := by decide +kernel
theorem d_Lw_law_136 : decode c_Lw_law 136 = .ok (.ldc2_w 42, 3) := by decide +kernel
theorem d_Lw_law_139 : decode c_Lw_law 139 = .ok (.land, 1) := by decide +kernel
theorem d_Lw_law_140 : decode c_Lw_law 140 = .ok (.lor, 1) := by decide +kernel
theorem d_Lw_law_141 : decode c_Lw_law 141 = .ok (.aload_n 3, 1) := by decide +kernel
theorem d_Lw_law_142 : decode c_Lw_law 142 = .ok (.invokestatic 44, 3) := by decide +kernel
theorem d_Lw_law_145 : decode c_Lw_law 145 = .ok (.istore 5, 2) := by decide +kernel
theorem d_Lw_law_147 : decode c_Lw_law 147 = .ok (.aload_n 2, 1) := by decide +kernel
theorem d_Lw_law_148 : decode c_Lw_law 148 = .ok (.aload_n 0, 1) := by decide +kernel
theorem d_Lw_law_149 : decode c_Lw_law 149 = .ok (.iload 4, 2) := by decide +kernel
theorem d_Lw_law_151 : decode c_Lw_law 151 = .ok (.iconst 1, 1) := by decide +kernel
theorem d_Lw_law_152 : decode c_Lw_law 152 = .ok (.iadd, 1) := by decide +kernel
theorem d_Lw_law_153 : decode c_Lw_law 153 = .ok (.iaload, 1) := by decide +kernel
theorem d_Lw_law_154 : decode c_Lw_law 154 = .ok (.aload_n 0, 1) := by decide +kernel
theorem d_Lw_law_155 : decode c_Lw_law 155 = .ok (.iload 4, 2) := by decide +kernel
theorem d_Lw_law_157 : decode c_Lw_law 157 = .ok (.iconst 2, 1) := by decide +kernel
theorem d_Lw_law_158 : decode c_Lw_law 158 = .ok (.iadd, 1) := by decide +kernel
theorem d_Lw_law_159 : decode c_Lw_law 159 = .ok (.iaload, 1) := by decide +kernel
theorem d_Lw_law_160 : decode c_Lw_law 160 = .ok (.i2l, 1) := by decide +kernel
theorem d_Lw_law_161 : decode c_Lw_law 161 = .ok (.bipush 32, 2) := by decide +kernel
theorem d_Lw_law_163 : decode c_Lw_law 163 = .ok (.lshl, 1) := by decide +kernel
theorem d_Lw_law_164 : decode c_Lw_law 164 = .ok (.aload_n 0, 1) := by decide +kernel
theorem d_Lw_law_165 : decode c_Lw_law 165 = .ok (.iload 4, 2) := by decide +kernel
theorem d_Lw_law_167 : decode c_Lw_law 167 = .ok (.iconst 3, 1) := by decide +kernel
theorem d_Lw_law_168 : decode c_Lw_law 168 = .ok (.iadd, 1) := by decide +kernel
theorem d_Lw_law_169 : decode c_Lw_law 169 = .ok (.iaload, 1) := by decide +kernel
theorem d_Lw_law_170 : decode c_Lw_law 170 = .ok (.i2l, 1) := by decide +kernel
theorem d_Lw_law_171 : decode c_Lw_law 171 = .ok (.ldc2_w 42, 3) := by decide +kernel
theorem d_Lw_law_174 : decode c_Lw_law 174 = .ok (.land, 1) := by decide +kernel
theorem d_Lw_law_175 : decode c_Lw_law 175 = .ok (.lor, 1) := by decide +kernel
theorem d_Lw_law_176 : decode c_Lw_law 176 = .ok (.invokevirtual 49, 3) := by decide +kernel
theorem d_Lw_law_179 : decode c_Lw_law 179 = .ok (.istore 6, 2) := by decide +kernel
theorem d_Lw_law_181 : decode c_Lw_law 181 = .ok (.aload_n 2, 1) := by decide +kernel
theorem d_Lw_law_182 : decode c_Lw_law 182 = .ok (.invokevirtual 50, 3) := by decide +kernel
theorem d_Lw_law_185 : decode c_Lw_law 185 = .ok (.iload 5, 2) := by decide +kernel
theorem d_Lw_law_187 : decode c_Lw_law 187 = .ok (.if_icmp .eq 5, 3) := by decide +kernel
theorem d_Lw_law_190 : decode c_Lw_law 190 = .ok (.iconst 0, 1) := by decide +kernel
theorem d_Lw_law_191 : decode c_Lw_law 191 = .ok (.ireturn, 1) := by decide +kernel
theorem d_Lw_law_192 : decode c_Lw_law 192 = .ok (.iload 5, 2) := by decide +kernel
theorem d_Lw_law_194 : decode c_Lw_law 194 = .ok (.ifCond .ne 15, 3) := by decide +kernel
theorem d_Lw_law_197 : decode c_Lw_law 197 = .ok (.aload_n 3, 1) := by decide +kernel
theorem d_Lw_law_198 : decode c_Lw_law 198 = .ok (.iconst 0, 1) := by decide +kernel
theorem d_Lw_law_199 : decode c_Lw_law 199 = .ok (.laload, 1) := by decide +kernel
theorem d_Lw_law_200 : decode c_Lw_law 200 = .ok (.iload 6, 2) := by decide +kernel
theorem d_Lw_law_202 : decode c_Lw_law 202 = .ok (.i2l, 1) := by decide +kernel
theorem d_Lw_law_203 : decode c_Lw_law 203 = .ok (.lcmp, 1) := by decide +kernel
theorem d_Lw_law_204 : decode c_Lw_law 204 = .ok (.ifCond .eq 5, 3) := by decide +kernel
theorem d_Lw_law_207 : decode c_Lw_law 207 = .ok (.iconst 0, 1) := by decide +kernel
theorem d_Lw_law_208 : decode c_Lw_law 208 = .ok (.ireturn, 1) := by decide +kernel
theorem d_Lw_law_209 : decode c_Lw_law 209 = .ok (.goto 568, 3) := by decide +kernel
theorem d_Lw_law_212 : decode c_Lw_law 212 = .ok (.aload_n 1, 1) := by decide +kernel
theorem d_Lw_law_213 : decode c_Lw_law 213 = .ok (.invokevirtual 54, 3) := by decide +kernel
theorem d_Lw_law_216 : decode c_Lw_law 216 = .ok (.aload_n 2, 1) := by decide +kernel
theorem d_Lw_law_217 : decode c_Lw_law 217 = .ok (.invokevirtual 57, 3) := by decide +kernel
theorem d_Lw_law_220 : decode c_Lw_law 220 = .ok (.if_icmp .eq 557, 3) := by decide +kernel
theorem d_Lw_law_223 : decode c_Lw_law 223 = .ok (.iconst 0, 1) := by decide +kernel
theorem d_Lw_law_224 : decode c_Lw_law 224 = .ok (.ireturn, 1) := by decide +kernel
theorem d_Lw_law_225 : decode c_Lw_law 225 = .ok (.aload_n 1, 1) := by decide +kernel
theorem d_Lw_law_226 : decode c_Lw_law 226 = .ok (.invokevirtual 58, 3) := by decide +kernel
theorem d_Lw_law_229 : decode c_Lw_law 229 = .ok (.aload_n 2, 1) := by decide +kernel
theorem d_Lw_law_230 : decode c_Lw_law 230 = .ok (.invokevirtual 61, 3) := by decide +kernel
theorem d_Lw_law_233 : decode c_Lw_law 233 = .ok (.if_icmp .eq 544, 3) := by decide +kernel
theorem d_Lw_law_236 : decode c_Lw_law 236 = .ok (.iconst 0, 1) := by decide +kernel
theorem d_Lw_law_237 : decode c_Lw_law 237 = .ok (.ireturn, 1) := by decide +kernel
theorem d_Lw_law_238 : decode c_Lw_law 238 = .ok (.aload_n 1, 1) := by decide +kernel
theorem d_Lw_law_239 : decode c_Lw_law 239 = .ok (.aload_n 0, 1) := by decide +kernel
theorem d_Lw_law_240 : decode c_Lw_law 240 = .ok (.iload 4, 2) := by decide +kernel
theorem d_Lw_law_242 : decode c_Lw_law 242 = .ok (.iconst 1, 1) := by decide +kernel
theorem d_Lw_law_243 : decode c_Lw_law 243 = .ok (.iadd, 1) := by decide +kernel
theorem d_Lw_law_244 : decode c_Lw_law 244 = .ok (.iaload, 1) := by decide +kernel
theorem d_Lw_law_245 : decode c_Lw_law 245 = .ok (.invokevirtual 62, 3) := by decide +kernel
theorem d_Lw_law_248 : decode c_Lw_law 248 = .ok (.aload_n 2, 1) := by decide +kernel
theorem d_Lw_law_249 : decode c_Lw_law 249 = .ok (.aload_n 0, 1) := by decide +kernel
theorem d_Lw_law_250 : decode c_Lw_law 250 = .ok (.iload 4, 2) := by decide +kernel
theorem d_Lw_law_252 : decode c_Lw_law 252 = .ok (.iconst 1, 1) := by decide +kernel
theorem d_Lw_law_253 : decode c_Lw_law 253 = .ok (.iadd, 1) := by decide +kernel
theorem d_Lw_law_254 : decode c_Lw_law 254 = .ok (.iaload, 1) := by decide +kernel
theorem d_Lw_law_255 : decode c_Lw_law 255 = .ok (.invokevirtual 65, 3) := by decide +kernel
theorem d_Lw_law_258 : decode c_Lw_law 258 = .ok (.if_icmp .eq 519, 3) := by decide +kernel
theorem d_Lw_law_261 : decode c_Lw_law 261 = .ok (.iconst 0, 1) := by decide +kernel
theorem d_Lw_law_262 : decode c_Lw_law 262 = .ok (.ireturn, 1) := by decide +kernel
theorem d_Lw_law_263 : decode c_Lw_law 263 = .ok (.aload_n 1, 1) := by decide +kernel
theorem d_Lw_law_264 : decode c_Lw_law 264 = .ok (.aload_n 0, 1) := by decide +kernel
theorem d_Lw_law_265 : decode c_Lw_law 265 = .ok (.iload 4, 2) := by decide +kernel
theorem d_Lw_law_267 : decode c_Lw_law 267 = .ok (.iconst 1, 1) := by decide +kernel
theorem d_Lw_law_268 : decode c_Lw_law 268 = .ok (.iadd, 1) := by decide +kernel
theorem d_Lw_law_269 : decode c_Lw_law 269 = .ok (.iaload, 1) := by decide +kernel
theorem d_Lw_law_270 : decode c_Lw_law 270 = .ok (.aload_n 3, 1) := by decide +kernel
theorem d_Lw_law_271 : decode c_Lw_law 271 = .ok (.invokestatic 66, 3) := by decide +kernel
theorem d_Lw_law_274 : decode c_Lw_law 274 = .ok (.istore 5, 2) := by decide +kernel
theorem d_Lw_law_276 : decode c_Lw_law 276 = .ok (.aload_n 2, 1) := by decide +kernel
theorem d_Lw_law_277 : decode c_Lw_law 277 = .ok (.aload_n 0, 1) := by decide +kernel
theorem d_Lw_law_278 : decode c_Lw_law 278 = .ok (.iload 4, 2) := by decide +kernel
theorem d_Lw_law_280 : decode c_Lw_law 280 = .ok (.iconst 1, 1) := by decide +kernel
theorem d_Lw_law_281 : decode c_Lw_law 281 = .ok (.iadd, 1) := by decide +kernel
theorem d_Lw_law_282 : decode c_Lw_law 282 = .ok (.iaload, 1) := by decide +kernel
theorem d_Lw_law_283 : decode c_Lw_law 283 = .ok (.invokevirtual 69, 3) := by decide +kernel
theorem d_Lw_law_286 : decode c_Lw_law 286 = .ok (.istore 6, 2) := by decide +kernel
theorem d_Lw_law_288 : decode c_Lw_law 288 = .ok (.aload_n 2, 1) := by decide +kernel
theorem d_Lw_law_289 : decode c_Lw_law 289 = .ok (.invokevirtual 50, 3) := by decide +kernel
theorem d_Lw_law_292 : decode c_Lw_law 292 = .ok (.iload 5, 2) := by decide +kernel
theorem d_Lw_law_294 : decode c_Lw_law 294 = .ok (.if_icmp .eq 5, 3) := by decide +kernel
theorem d_Lw_law_297 : decode c_Lw_law 297 = .ok (.iconst 0, 1) := by decide +kernel
theorem d_Lw_law_298 : decode c_Lw_law 298 = .ok (.ireturn, 1) := by decide +kernel
theorem d_Lw_law_299 : decode c_Lw_law 299 = .ok (.iload 5, 2) := by decide +kernel
theorem d_Lw_law_301 : decode c_Lw_law 301 = .ok (.ifCond .ne 15, 3) := by decide +kernel
theorem d_Lw_law_304 : decode c_Lw_law 304 = .ok (.aload_n 3, 1) := by decide +kernel
theorem d_Lw_law_305 : decode c_Lw_law 305 = .ok (.iconst 0, 1) := by decide +kernel
theorem d_Lw_law_306 : decode c_Lw_law 306 = .ok (.laload, 1) := by decide +kernel
theorem d_Lw_law_307 : decode c_Lw_law 307 = .ok (.iload 6, 2) := by decide +kernel
theorem d_Lw_law_309 : decode c_Lw_law 309 = .ok (.i2l, 1) := by decide +kernel
theorem d_Lw_law_310 : decode c_Lw_law 310 = .ok (.lcmp, 1) := by decide +kernel
theorem d_Lw_law_311 : decode c_Lw_law 311 = .ok (.ifCond .eq 5, 3) := by decide +kernel
theorem d_Lw_law_314 : decode c_Lw_law 314 = .ok (.iconst 0, 1) := by decide +kernel
theorem d_Lw_law_315 : decode c_Lw_law 315 = .ok (.ireturn, 1) := by decide +kernel
theorem d_Lw_law_316 : decode c_Lw_law 316 = .ok (.goto 461, 3) := by decide +kernel
theorem d_Lw_law_319 : decode c_Lw_law 319 = .ok (.aload_n 1, 1) := by decide +kernel
theorem d_Lw_law_320 : decode c_Lw_law 320 = .ok (.aload_n 0, 1) := by decide +kernel
theorem d_Lw_law_321 : decode c_Lw_law 321 = .ok (.iload 4, 2) := by decide +kernel
theorem d_Lw_law_323 : decode c_Lw_law 323 = .ok (.iconst 1, 1) := by decide +kernel
theorem d_Lw_law_324 : decode c_Lw_law 324 = .ok (.iadd, 1) := by decide +kernel
theorem d_Lw_law_325 : decode c_Lw_law 325 = .ok (.iaload, 1) := by decide +kernel
theorem d_Lw_law_326 : decode c_Lw_law 326 = .ok (.i2l, 1) := by decide +kernel
theorem d_Lw_law_327 : decode c_Lw_law 327 = .ok (.bipush 32, 2) := by decide +kernel
theorem d_Lw_law_329 : decode c_Lw_law 329 = .ok (.lshl, 1) := by decide +kernel
theorem d_Lw_law_330 : decode c_Lw_law 330 = .ok (.aload_n 0, 1) := by decide +kernel
theorem d_Lw_law_331 : decode c_Lw_law 331 = .ok (.iload 4, 2) := by decide +kernel
theorem d_Lw_law_333 : decode c_Lw_law 333 = .ok (.iconst 2, 1) := by decide +kernel
theorem d_Lw_law_334 : decode c_Lw_law 334 = .ok (.iadd, 1) := by decide +kernel
theorem d_Lw_law_335 : decode c_Lw_law 335 = .ok (.iaload, 1) := by decide +kernel
theorem d_Lw_law_336 : decode c_Lw_law 336 = .ok (.i2l, 1) := by decide +kernel
theorem d_Lw_law_337 : decode c_Lw_law 337 = .ok (.ldc2_w 42, 3) := by decide +kernel
theorem d_Lw_law_340 : decode c_Lw_law 340 = .ok (.land, 1) := by decide +kernel
theorem d_Lw_law_341 : decode c_Lw_law 341 = .ok (.lor, 1) := by decide +kernel
theorem d_Lw_law_342 : decode c_Lw_law 342 = .ok (.aload_n 3, 1) := by decide +kernel
theorem d_Lw_law_343 : decode c_Lw_law 343 = .ok (.invokestatic 70, 3) := by decide +kernel
theorem d_Lw_law_346 : decode c_Lw_law 346 = .ok (.istore 5, 2) := by decide +kernel
theorem d_Lw_law_348 : decode c_Lw_law 348 = .ok (.aload_n 2, 1) := by decide +kernel
theorem d_Lw_law_349 : decode c_Lw_law 349 = .ok (.aload_n 0, 1) := by decide +kernel
theorem d_Lw_law_350 : decode c_Lw_law 350 = .ok (.iload 4, 2) := by decide +kernel
theorem d_Lw_law_352 : decode c_Lw_law 352 = .ok (.iconst 1, 1) := by decide +kernel
theorem d_Lw_law_353 : decode c_Lw_law 353 = .ok (.iadd, 1) := by decide +kernel
theorem d_Lw_law_354 : decode c_Lw_law 354 = .ok (.iaload, 1) := by decide +kernel
theorem d_Lw_law_355 : decode c_Lw_law 355 = .ok (.i2l, 1) := by decide +kernel
theorem d_Lw_law_356 : decode c_Lw_law 356 = .ok (.bipush 32, 2) := by decide +kernel
theorem d_Lw_law_358 : decode c_Lw_law 358 = .ok (.lshl, 1) := by decide +kernel
theorem d_Lw_law_359 : decode c_Lw_law 359 = .ok (.aload_n 0, 1) := by decide +kernel
theorem d_Lw_law_360 : decode c_Lw_law 360 = .ok (.iload 4, 2) := by decide +kernel
theorem d_Lw_law_362 : decode c_Lw_law 362 = .ok (.iconst 2, 1) := by decide +kernel
theorem d_Lw_law_363 : decode c_Lw_law 363 = .ok (.iadd, 1) := by decide +kernel
theorem d_Lw_law_364 : decode c_Lw_law 364 = .ok (.iaload, 1) := by decide +kernel
theorem d_Lw_law_365 : decode c_Lw_law 365 = .ok (.i2l, 1) := by decide +kernel
theorem d_Lw_law_366 : decode c_Lw_law 366 = .ok (.ldc2_w 42, 3) := by decide +kernel
theorem d_Lw_law_369 : decode c_Lw_law 369 = .ok (.land, 1) := by decide +kernel
theorem d_Lw_law_370 : decode c_Lw_law 370 = .ok (.lor, 1) := by decide +kernel
theorem d_Lw_law_371 : decode c_Lw_law 371 = .ok (.invokevirtual 73, 3) := by decide +kernel
theorem d_Lw_law_374 : decode c_Lw_law 374 = .ok (.istore 6, 2) := by decide +kernel
theorem d_Lw_law_376 : decode c_Lw_law 376 = .ok (.aload_n 2, 1) := by decide +kernel
theorem d_Lw_law_377 : decode c_Lw_law 377 = .ok (.invokevirtual 50, 3) := by decide +kernel
theorem d_Lw_law_380 : decode c_Lw_law 380 = .ok (.iload 5, 2) := by decide +kernel
theorem d_Lw_law_382 : decode c_Lw_law 382 = .ok (.if_icmp .eq 5, 3) := by decide +kernel
theorem d_Lw_law_385 : decode c_Lw_law 385 = .ok (.iconst 0, 1) := by decide +kernel
theorem d_Lw_law_386 : decode c_Lw_law 386 = .ok (.ireturn, 1) := by decide +kernel
theorem d_Lw_law_387 : decode c_Lw_law 387 = .ok (.iload 5, 2) := by decide +kernel
theorem d_Lw_law_389 : decode c_Lw_law 389 = .ok (.ifCond .ne 15, 3) := by decide +kernel
theorem d_Lw_law_392 : decode c_Lw_law 392 = .ok (.aload_n 3, 1) := by decide +kernel
theorem d_Lw_law_393 : decode c_Lw_law 393 = .ok (.iconst 0, 1) := by decide +kernel
theorem d_Lw_law_394 : decode c_Lw_law 394 = .ok (.laload, 1) := by decide +kernel
theorem d_Lw_law_395 : decode c_Lw_law 395 = .ok (.iload 6, 2) := by decide +kernel
theorem d_Lw_law_397 : decode c_Lw_law 397 = .ok (.i2l, 1) := by decide +kernel
theorem d_Lw_law_398 : decode c_Lw_law 398 = .ok (.lcmp, 1) := by decide +kernel
theorem d_Lw_law_399 : decode c_Lw_law 399 = .ok (.ifCond .eq 5, 3) := by decide +kernel
theorem d_Lw_law_402 : decode c_Lw_law 402 = .ok (.iconst 0, 1) := by decide +kernel
theorem d_Lw_law_403 : decode c_Lw_law 403 = .ok (.ireturn, 1) := by decide +kernel
theorem d_Lw_law_404 : decode c_Lw_law 404 = .ok (.goto 373, 3) := by decide +kernel
theorem d_Lw_law_407 : decode c_Lw_law 407 = .ok (.aload_n 1, 1) := by decide +kernel
theorem d_Lw_law_408 : decode c_Lw_law 408 = .ok (.aload_n 0, 1) := by decide +kernel
theorem d_Lw_law_409 : decode c_Lw_law 409 = .ok (.iload 4, 2) := by decide +kernel
theorem d_Lw_law_411 : decode c_Lw_law 411 = .ok (.iconst 1, 1) := by decide +kernel
theorem d_Lw_law_412 : decode c_Lw_law 412 = .ok (.iadd, 1) := by decide +kernel
theorem d_Lw_law_413 : decode c_Lw_law 413 = .ok (.iaload, 1) := by decide +kernel
theorem d_Lw_law_414 : decode c_Lw_law 414 = .ok (.i2l, 1) := by decide +kernel
theorem d_Lw_law_415 : decode c_Lw_law 415 = .ok (.bipush 32, 2) := by decide +kernel
theorem d_Lw_law_417 : decode c_Lw_law 417 = .ok (.lshl, 1) := by decide +kernel
theorem d_Lw_law_418 : decode c_Lw_law 418 = .ok (.aload_n 0, 1) := by decide +kernel
theorem d_Lw_law_419 : decode c_Lw_law 419 = .ok (.iload 4, 2) := by decide +kernel
theorem d_Lw_law_421 : decode c_Lw_law 421 = .ok (.iconst 2, 1) := by decide +kernel
theorem d_Lw_law_422 : decode c_Lw_law 422 = .ok (.iadd, 1) := by decide +kernel
theorem d_Lw_law_423 : decode c_Lw_law 423 = .ok (.iaload, 1) := by decide +kernel
theorem d_Lw_law_424 : decode c_Lw_law 424 = .ok (.i2l, 1) := by decide +kernel
theorem d_Lw_law_425 : decode c_Lw_law 425 = .ok (.ldc2_w 42, 3) := by decide +kernel
theorem d_Lw_law_428 : decode c_Lw_law 428 = .ok (.land, 1) := by decide +kernel
theorem d_Lw_law_429 : decode c_Lw_law 429 = .ok (.lor, 1) := by decide +kernel
theorem d_Lw_law_430 : decode c_Lw_law 430 = .ok (.aload_n 0, 1) := by decide +kernel
theorem d_Lw_law_431 : decode c_Lw_law 431 = .ok (.iload 4, 2) := by decide +kernel
theorem d_Lw_law_433 : decode c_Lw_law 433 = .ok (.iconst 3, 1) := by decide +kernel
theorem d_Lw_law_434 : decode c_Lw_law 434 = .ok (.iadd, 1) := by decide +kernel
theorem d_Lw_law_435 : decode c_Lw_law 435 = .ok (.iaload, 1) := by decide +kernel
theorem d_Lw_law_436 : decode c_Lw_law 436 = .ok (.aload_n 3, 1) := by decide +kernel
theorem d_Lw_law_437 : decode c_Lw_law 437 = .ok (.invokestatic 74, 3) := by decide +kernel
theorem d_Lw_law_440 : decode c_Lw_law 440 = .ok (.istore 5, 2) := by decide +kernel
theorem d_Lw_law_442 : decode c_Lw_law 442 = .ok (.aload_n 2, 1) := by decide +kernel
theorem d_Lw_law_443 : decode c_Lw_law 443 = .ok (.aload_n 0, 1) := by decide +kernel
theorem d_Lw_law_444 : decode c_Lw_law 444 = .ok (.iload 4, 2) := by decide +kernel
theorem d_Lw_law_446 : decode c_Lw_law 446 = .ok (.iconst 1, 1) := by decide +kernel
theorem d_Lw_law_447 : decode c_Lw_law 447 = .ok (.iadd, 1) := by decide +kernel
theorem d_Lw_law_448 : decode c_Lw_law 448 = .ok (.iaload, 1) := by decide +kernel
theorem d_Lw_law_449 : decode c_Lw_law 449 = .ok (.i2l, 1) := by decide +kernel
theorem d_Lw_law_450 : decode c_Lw_law 450 = .ok (.bipush 32, 2) := by decide +kernel
theorem d_Lw_law_452 : decode c_Lw_law 452 = .ok (.lshl, 1) := by decide +kernel
theorem d_Lw_law_453 : decode c_Lw_law 453 = .ok (.aload_n 0, 1) := by decide +kernel
theorem d_Lw_law_454 : decode c_Lw_law 454 = .ok (.iload 4, 2) := by decide +kernel
theorem d_Lw_law_456 : decode c_Lw_law 456 = .ok (.iconst 2, 1) := by decide +kernel
theorem d_Lw_law_457 : decode c_Lw_law 457 = .ok (.iadd, 1) := by decide +kernel
theorem d_Lw_law_458 : decode c_Lw_law 458 = .ok (.iaload, 1) := by decide +kernel
theorem d_Lw_law_459 : decode c_Lw_law 459 = .ok (.i2l, 1) := by decide +kernel
theorem d_Lw_law_460 : decode c_Lw_law 460 = .ok (.ldc2_w 42, 3) := by decide +kernel
theorem d_Lw_law_463 : decode c_Lw_law 463 = .ok (.land, 1) := by decide +kernel
theorem d_Lw_law_464 : decode c_Lw_law 464 = .ok (.lor, 1) := by decide +kernel
theorem d_Lw_law_465 : decode c_Lw_law 465 = .ok (.aload_n 0, 1) := by decide +kernel
theorem d_Lw_law_466 : decode c_Lw_law 466 = .ok (.iload 4, 2) := by decide +kernel
theorem d_Lw_law_468 : decode c_Lw_law 468 = .ok (.iconst 3, 1) := by decide +kernel
theorem d_Lw_law_469 : decode c_Lw_law 469 = .ok (.iadd, 1) := by decide +kernel
theorem d_Lw_law_470 : decode c_Lw_law 470 = .ok (.iaload, 1) := by decide +kernel
theorem d_Lw_law_471 : decode c_Lw_law 471 = .ok (.invokevirtual 77, 3) := by decide +kernel
theorem d_Lw_law_474 : decode c_Lw_law 474 = .ok (.istore 6, 2) := by decide +kernel
theorem d_Lw_law_476 : decode c_Lw_law 476 = .ok (.aload_n 2, 1) := by decide +kernel
theorem d_Lw_law_477 : decode c_Lw_law 477 = .ok (.invokevirtual 50, 3) := by decide +kernel
theorem d_Lw_law_480 : decode c_Lw_law 480 = .ok (.iload 5, 2) := by decide +kernel
theorem d_Lw_law_482 : decode c_Lw_law 482 = .ok (.if_icmp .eq 5, 3) := by decide +kernel
theorem d_Lw_law_485 : decode c_Lw_law 485 = .ok (.iconst 0, 1) := by decide +kernel
theorem d_Lw_law_486 : decode c_Lw_law 486 = .ok (.ireturn, 1) := by decide +kernel
theorem d_Lw_law_487 : decode c_Lw_law 487 = .ok (.iload 5, 2) := by decide +kernel
theorem d_Lw_law_489 : decode c_Lw_law 489 = .ok (.ifCond .ne 15, 3) := by decide +kernel
theorem d_Lw_law_492 : decode c_Lw_law 492 = .ok (.aload_n 3, 1) := by decide +kernel
theorem d_Lw_law_493 : decode c_Lw_law 493 = .ok (.iconst 0, 1) := by decide +kernel
theorem d_Lw_law_494 : decode c_Lw_law 494 = .ok (.laload, 1) := by decide +kernel
theorem d_Lw_law_495 : decode c_Lw_law 495 = .ok (.iload 6, 2) := by decide +kernel
theorem d_Lw_law_497 : decode c_Lw_law 497 = .ok (.i2l, 1) := by decide +kernel
theorem d_Lw_law_498 : decode c_Lw_law 498 = .ok (.lcmp, 1) := by decide +kernel
theorem d_Lw_law_499 : decode c_Lw_law 499 = .ok (.ifCond .eq 5, 3) := by decide +kernel
theorem d_Lw_law_502 : decode c_Lw_law 502 = .ok (.iconst 0, 1) := by decide +kernel
theorem d_Lw_law_503 : decode c_Lw_law 503 = .ok (.ireturn, 1) := by decide +kernel
theorem d_Lw_law_504 : decode c_Lw_law 504 = .ok (.goto 273, 3) := by decide +kernel
theorem d_Lw_law_507 : decode c_Lw_law 507 = .ok (.aload_n 1, 1) := by decide +kernel
theorem d_Lw_law_508 : decode c_Lw_law 508 = .ok (.aload_n 0, 1) := by decide +kernel
theorem d_Lw_law_509 : decode c_Lw_law 509 = .ok (.iload 4, 2) := by decide +kernel
theorem d_Lw_law_511 : decode c_Lw_law 511 = .ok (.iconst 1, 1) := by decide +kernel
theorem d_Lw_law_512 : decode c_Lw_law 512 = .ok (.iadd, 1) := by decide +kernel
theorem d_Lw_law_513 : decode c_Lw_law 513 = .ok (.iaload, 1) := by decide +kernel
theorem d_Lw_law_514 : decode c_Lw_law 514 = .ok (.aload_n 0, 1) := by decide +kernel
theorem d_Lw_law_515 : decode c_Lw_law 515 = .ok (.iload 4, 2) := by decide +kernel
theorem d_Lw_law_517 : decode c_Lw_law 517 = .ok (.iconst 2, 1) := by decide +kernel
theorem d_Lw_law_518 : decode c_Lw_law 518 = .ok (.iadd, 1) := by decide +kernel
theorem d_Lw_law_519 : decode c_Lw_law 519 = .ok (.iaload, 1) := by decide +kernel
theorem d_Lw_law_520 : decode c_Lw_law 520 = .ok (.i2l, 1) := by decide +kernel
theorem d_Lw_law_521 : decode c_Lw_law 521 = .ok (.bipush 32, 2) := by decide +kernel
theorem d_Lw_law_523 : decode c_Lw_law 523 = .ok (.lshl, 1) := by decide +kernel
theorem d_Lw_law_524 : decode c_Lw_law 524 = .ok (.aload_n 0, 1) := by decide +kernel
theorem d_Lw_law_525 : decode c_Lw_law 525 = .ok (.iload 4, 2) := by decide +kernel
theorem d_Lw_law_527 : decode c_Lw_law 527 = .ok (.iconst 3, 1) := by decide +kernel
theorem d_Lw_law_528 : decode c_Lw_law 528 = .ok (.iadd, 1) := by decide +kernel
theorem d_Lw_law_529 : decode c_Lw_law 529 = .ok (.iaload, 1) := by decide +kernel
theorem d_Lw_law_530 : decode c_Lw_law 530 = .ok (.i2l, 1) := by decide +kernel
theorem d_Lw_law_531 : decode c_Lw_law 531 = .ok (.ldc2_w 42, 3) := by decide +kernel
theorem d_Lw_law_534 : decode c_Lw_law 534 = .ok (.land, 1) := by decide +kernel
theorem d_Lw_law_535 : decode c_Lw_law 535 = .ok (.lor, 1) := by decide +kernel
theorem d_Lw_law_536 : decode c_Lw_law 536 = .ok (.aload_n 3, 1) := by decide +kernel
theorem d_Lw_law_537 : decode c_Lw_law 537 = .ok (.invokestatic 78, 3) := by decide +kernel
theorem d_Lw_law_540 : decode c_Lw_law 540 = .ok (.istore 5, 2) := by decide +kernel
theorem d_Lw_law_542 : decode c_Lw_law 542 = .ok (.aload_n 2, 1) := by decide +kernel
theorem d_Lw_law_543 : decode c_Lw_law 543 = .ok (.aload_n 0, 1) := by decide +kernel
theorem d_Lw_law_544 : decode c_Lw_law 544 = .ok (.iload 4, 2) := by decide +kernel
theorem d_Lw_law_546 : decode c_Lw_law 546 = .ok (.iconst 1, 1) := by decide +kernel
theorem d_Lw_law_547 : decode c_Lw_law 547 = .ok (.iadd, 1) := by decide +kernel
theorem d_Lw_law_548 : decode c_Lw_law 548 = .ok (.iaload, 1) := by decide +kernel
theorem d_Lw_law_549 : decode c_Lw_law 549 = .ok (.aload_n 0, 1) := by decide +kernel
theorem d_Lw_law_550 : decode c_Lw_law 550 = .ok (.iload 4, 2) := by decide +kernel
theorem d_Lw_law_552 : decode c_Lw_law 552 = .ok (.iconst 2, 1) := by decide +kernel
theorem d_Lw_law_553 : decode c_Lw_law 553 = .ok (.iadd, 1) := by decide +kernel
theorem d_Lw_law_554 : decode c_Lw_law 554 = .ok (.iaload, 1) := by decide +kernel
theorem d_Lw_law_555 : decode c_Lw_law 555 = .ok (.i2l, 1) := by decide +kernel
theorem d_Lw_law_556 : decode c_Lw_law 556 = .ok (.bipush 32, 2) := by decide +kernel
theorem d_Lw_law_558 : decode c_Lw_law 558 = .ok (.lshl, 1) := by decide +kernel
theorem d_Lw_law_559 : decode c_Lw_law 559 = .ok (.aload_n 0, 1) := by decide +kernel
theorem d_Lw_law_560 : decode c_Lw_law 560 = .ok (.iload 4, 2) := by decide +kernel
theorem d_Lw_law_562 : decode c_Lw_law 562 = .ok (.iconst 3, 1) := by decide +kernel
theorem d_Lw_law_563 : decode c_Lw_law 563 = .ok (.iadd, 1) := by decide +kernel
theorem d_Lw_law_564 : decode c_Lw_law 564 = .ok (.iaload, 1) := by decide +kernel
theorem d_Lw_law_565 : decode c_Lw_law 565 = .ok (.i2l, 1) := by decide +kernel
theorem d_Lw_law_566 : decode c_Lw_law 566 = .ok (.ldc2_w 42, 3) := by decide +kernel
theorem d_Lw_law_569 : decode c_Lw_law 569 = .ok (.land, 1) := by decide +kernel
theorem d_Lw_law_570 : decode c_Lw_law 570 = .ok (.lor, 1) := by decide +kernel
theorem d_Lw_law_571 : decode c_Lw_law 571 = .ok (.invokevirtual 80, 3) := by decide +kernel
theorem d_Lw_law_574 : decode c_Lw_law 574 = .ok (.istore 6, 2) := by decide +kernel
theorem d_Lw_law_576 : decode c_Lw_law 576 = .ok (.aload_n 2, 1) := by decide +kernel
theorem d_Lw_law_577 : decode c_Lw_law 577 = .ok (.invokevirtual 50, 3) := by decide +kernel
theorem d_Lw_law_580 : decode c_Lw_law 580 = .ok (.iload 5, 2) := by decide +kernel
theorem d_Lw_law_582 : decode c_Lw_law 582 = .ok (.if_icmp .eq 5, 3) := by decide +kernel
theorem d_Lw_law_585 : decode c_Lw_law 585 = .ok (.iconst 0, 1) := by decide +kernel
theorem d_Lw_law_586 : decode c_Lw_law 586 = .ok (.ireturn, 1) := by decide +kernel
theorem d_Lw_law_587 : decode c_Lw_law 587 = .ok (.iload 5, 2) := by decide +kernel
theorem d_Lw_law_589 : decode c_Lw_law 589 = .ok (.ifCond .ne 15, 3) := by decide +kernel
theorem d_Lw_law_592 : decode c_Lw_law 592 = .ok (.aload_n 3, 1) := by decide +kernel
theorem d_Lw_law_593 : decode c_Lw_law 593 = .ok (.iconst 0, 1) := by decide +kernel
theorem d_Lw_law_594 : decode c_Lw_law 594 = .ok (.laload, 1) := by decide +kernel
theorem d_Lw_law_595 : decode c_Lw_law 595 = .ok (.iload 6, 2) := by decide +kernel
theorem d_Lw_law_597 : decode c_Lw_law 597 = .ok (.i2l, 1) := by decide +kernel
theorem d_Lw_law_598 : decode c_Lw_law 598 = .ok (.lcmp, 1) := by decide +kernel
theorem d_Lw_law_599 : decode c_Lw_law 599 = .ok (.ifCond .eq 5, 3) := by decide +kernel
theorem d_Lw_law_602 : decode c_Lw_law 602 = .ok (.iconst 0, 1) := by decide +kernel
theorem d_Lw_law_603 : decode c_Lw_law 603 = .ok (.ireturn, 1) := by decide +kernel
theorem d_Lw_law_604 : decode c_Lw_law 604 = .ok (.goto 173, 3) := by decide +kernel
theorem d_Lw_law_607 : decode c_Lw_law 607 = .ok (.aload_n 1, 1) := by decide +kernel
theorem d_Lw_law_608 : decode c_Lw_law 608 = .ok (.invokevirtual 81, 3) := by decide +kernel
theorem d_Lw_law_611 : decode c_Lw_law 611 = .ok (.aload_n 2, 1) := by decide +kernel
theorem d_Lw_law_612 : decode c_Lw_law 612 = .ok (.invokevirtual 84, 3) := by decide +kernel
theorem d_Lw_law_615 : decode c_Lw_law 615 = .ok (.if_icmp .eq 162, 3) := by decide +kernel
theorem d_Lw_law_618 : decode c_Lw_law 618 = .ok (.iconst 0, 1) := by decide +kernel
theorem d_Lw_law_619 : decode c_Lw_law 619 = .ok (.ireturn, 1) := by decide +kernel
theorem d_Lw_law_620 : decode c_Lw_law 620 = .ok (.aload_n 1, 1) := by decide +kernel
theorem d_Lw_law_621 : decode c_Lw_law 621 = .ok (.aload_n 0, 1) := by decide +kernel
theorem d_Lw_law_622 : decode c_Lw_law 622 = .ok (.iload 4, 2) := by decide +kernel
theorem d_Lw_law_624 : decode c_Lw_law 624 = .ok (.iconst 1, 1) := by decide +kernel
theorem d_Lw_law_625 : decode c_Lw_law 625 = .ok (.iadd, 1) := by decide +kernel
theorem d_Lw_law_626 : decode c_Lw_law 626 = .ok (.iaload, 1) := by decide +kernel
theorem d_Lw_law_627 : decode c_Lw_law 627 = .ok (.invokevirtual 85, 3) := by decide +kernel
theorem d_Lw_law_630 : decode c_Lw_law 630 = .ok (.aload_n 2, 1) := by decide +kernel
theorem d_Lw_law_631 : decode c_Lw_law 631 = .ok (.aload_n 0, 1) := by decide +kernel
theorem d_Lw_law_632 : decode c_Lw_law 632 = .ok (.iload 4, 2) := by decide +kernel
theorem d_Lw_law_634 : decode c_Lw_law 634 = .ok (.iconst 1, 1) := by decide +kernel
theorem d_Lw_law_635 : decode c_Lw_law 635 = .ok (.iadd, 1) := by decide +kernel
theorem d_Lw_law_636 : decode c_Lw_law 636 = .ok (.iaload, 1) := by decide +kernel
theorem d_Lw_law_637 : decode c_Lw_law 637 = .ok (.invokevirtual 88, 3) := by decide +kernel
theorem d_Lw_law_640 : decode c_Lw_law 640 = .ok (.if_icmp .eq 137, 3) := by decide +kernel
theorem d_Lw_law_643 : decode c_Lw_law 643 = .ok (.iconst 0, 1) := by decide +kernel
theorem d_Lw_law_644 : decode c_Lw_law 644 = .ok (.ireturn, 1) := by decide +kernel
theorem d_Lw_law_645 : decode c_Lw_law 645 = .ok (.aload_n 1, 1) := by decide +kernel
theorem d_Lw_law_646 : decode c_Lw_law 646 = .ok (.aload_n 0, 1) := by decide +kernel
theorem d_Lw_law_647 : decode c_Lw_law 647 = .ok (.iload 4, 2) := by decide +kernel
theorem d_Lw_law_649 : decode c_Lw_law 649 = .ok (.iconst 1, 1) := by decide +kernel
theorem d_Lw_law_650 : decode c_Lw_law 650 = .ok (.iadd, 1) := by decide +kernel
theorem d_Lw_law_651 : decode c_Lw_law 651 = .ok (.iaload, 1) := by decide +kernel
theorem d_Lw_law_652 : decode c_Lw_law 652 = .ok (.aload_n 0, 1) := by decide +kernel
theorem d_Lw_law_653 : decode c_Lw_law 653 = .ok (.iload 4, 2) := by decide +kernel
theorem d_Lw_law_655 : decode c_Lw_law 655 = .ok (.iconst 2, 1) := by decide +kernel
theorem d_Lw_law_656 : decode c_Lw_law 656 = .ok (.iadd, 1) := by decide +kernel
theorem d_Lw_law_657 : decode c_Lw_law 657 = .ok (.iaload, 1) := by decide +kernel
theorem d_Lw_law_658 : decode c_Lw_law 658 = .ok (.aload_n 3, 1) := by decide +kernel
theorem d_Lw_law_659 : decode c_Lw_law 659 = .ok (.invokestatic 89, 3) := by decide +kernel
theorem d_Lw_law_662 : decode c_Lw_law 662 = .ok (.istore 5, 2) := by decide +kernel
theorem d_Lw_law_664 : decode c_Lw_law 664 = .ok (.aload_n 2, 1) := by decide +kernel
theorem d_Lw_law_665 : decode c_Lw_law 665 = .ok (.aload_n 0, 1) := by decide +kernel
theorem d_Lw_law_666 : decode c_Lw_law 666 = .ok (.iload 4, 2) := by decide +kernel
theorem d_Lw_law_668 : decode c_Lw_law 668 = .ok (.iconst 1, 1) := by decide +kernel
theorem d_Lw_law_669 : decode c_Lw_law 669 = .ok (.iadd, 1) := by decide +kernel
theorem d_Lw_law_670 : decode c_Lw_law 670 = .ok (.iaload, 1) := by decide +kernel
theorem d_Lw_law_671 : decode c_Lw_law 671 = .ok (.aload_n 0, 1) := by decide +kernel
theorem d_Lw_law_672 : decode c_Lw_law 672 = .ok (.iload 4, 2) := by decide +kernel
theorem d_Lw_law_674 : decode c_Lw_law 674 = .ok (.iconst 2, 1) := by decide +kernel
theorem d_Lw_law_675 : decode c_Lw_law 675 = .ok (.iadd, 1) := by decide +kernel
theorem d_Lw_law_676 : decode c_Lw_law 676 = .ok (.iaload, 1) := by decide +kernel
theorem d_Lw_law_677 : decode c_Lw_law 677 = .ok (.invokevirtual 92, 3) := by decide +kernel
theorem d_Lw_law_680 : decode c_Lw_law 680 = .ok (.istore 6, 2) := by decide +kernel
theorem d_Lw_law_682 : decode c_Lw_law 682 = .ok (.aload_n 2, 1) := by decide +kernel
theorem d_Lw_law_683 : decode c_Lw_law 683 = .ok (.invokevirtual 50, 3) := by decide +kernel
theorem d_Lw_law_686 : decode c_Lw_law 686 = .ok (.iload 5, 2) := by decide +kernel
theorem d_Lw_law_688 : decode c_Lw_law 688 = .ok (.if_icmp .eq 5, 3) := by decide +kernel
theorem d_Lw_law_691 : decode c_Lw_law 691 = .ok (.iconst 0, 1) := by decide +kernel
theorem d_Lw_law_692 : decode c_Lw_law 692 = .ok (.ireturn, 1) := by decide +kernel
theorem d_Lw_law_693 : decode c_Lw_law 693 = .ok (.iload 5, 2) := by decide +kernel
theorem d_Lw_law_695 : decode c_Lw_law 695 = .ok (.ifCond .ne 15, 3) := by decide +kernel
theorem d_Lw_law_698 : decode c_Lw_law 698 = .ok (.aload_n 3, 1) := by decide +kernel
theorem d_Lw_law_699 : decode c_Lw_law 699 = .ok (.iconst 0, 1) := by decide +kernel
theorem d_Lw_law_700 : decode c_Lw_law 700 = .ok (.laload, 1) := by decide +kernel
theorem d_Lw_law_701 : decode c_Lw_law 701 = .ok (.iload 6, 2) := by decide +kernel
theorem d_Lw_law_703 : decode c_Lw_law 703 = .ok (.i2l, 1) := by decide +kernel
theorem d_Lw_law_704 : decode c_Lw_law 704 = .ok (.lcmp, 1) := by decide +kernel
theorem d_Lw_law_705 : decode c_Lw_law 705 = .ok (.ifCond .eq 5, 3) := by decide +kernel
theorem d_Lw_law_708 : decode c_Lw_law 708 = .ok (.iconst 0, 1) := by decide +kernel
theorem d_Lw_law_709 : decode c_Lw_law 709 = .ok (.ireturn, 1) := by decide +kernel
theorem d_Lw_law_710 : decode c_Lw_law 710 = .ok (.goto 67, 3) := by decide +kernel
theorem d_Lw_law_713 : decode c_Lw_law 713 = .ok (.aload_n 1, 1) := by decide +kernel
theorem d_Lw_law_714 : decode c_Lw_law 714 = .ok (.invokevirtual 93, 3) := by decide +kernel
theorem d_Lw_law_717 : decode c_Lw_law 717 = .ok (.aload_n 2, 1) := by decide +kernel
theorem d_Lw_law_718 : decode c_Lw_law 718 = .ok (.invokevirtual 96, 3) := by decide +kernel
theorem d_Lw_law_721 : decode c_Lw_law 721 = .ok (.if_icmp .eq 56, 3) := by decide +kernel
theorem d_Lw_law_724 : decode c_Lw_law 724 = .ok (.iconst 0, 1) := by decide +kernel
theorem d_Lw_law_725 : decode c_Lw_law 725 = .ok (.ireturn, 1) := by decide +kernel
theorem d_Lw_law_726 : decode c_Lw_law 726 = .ok (.aload_n 1, 1) := by decide +kernel
theorem d_Lw_law_727 : decode c_Lw_law 727 = .ok (.invokevirtual 97, 3) := by decide +kernel
theorem d_Lw_law_730 : decode c_Lw_law 730 = .ok (.aload_n 2, 1) := by decide +kernel
theorem d_Lw_law_731 : decode c_Lw_law 731 = .ok (.invokevirtual 100, 3) := by decide +kernel
theorem d_Lw_law_734 : decode c_Lw_law 734 = .ok (.if_icmp .eq 43, 3) := by decide +kernel
theorem d_Lw_law_737 : decode c_Lw_law 737 = .ok (.iconst 0, 1) := by decide +kernel
theorem d_Lw_law_738 : decode c_Lw_law 738 = .ok (.ireturn, 1) := by decide +kernel
theorem d_Lw_law_739 : decode c_Lw_law 739 = .ok (.aload_n 1, 1) := by decide +kernel
theorem d_Lw_law_740 : decode c_Lw_law 740 = .ok (.aload_n 0, 1) := by decide +kernel
theorem d_Lw_law_741 : decode c_Lw_law 741 = .ok (.iload 4, 2) := by decide +kernel
theorem d_Lw_law_743 : decode c_Lw_law 743 = .ok (.iconst 1, 1) := by decide +kernel
theorem d_Lw_law_744 : decode c_Lw_law 744 = .ok (.iadd, 1) := by decide +kernel
theorem d_Lw_law_745 : decode c_Lw_law 745 = .ok (.iaload, 1) := by decide +kernel
theorem d_Lw_law_746 : decode c_Lw_law 746 = .ok (.invokevirtual 101, 3) := by decide +kernel
theorem d_Lw_law_749 : decode c_Lw_law 749 = .ok (.aload_n 2, 1) := by decide +kernel
theorem d_Lw_law_750 : decode c_Lw_law 750 = .ok (.aload_n 0, 1) := by decide +kernel
theorem d_Lw_law_751 : decode c_Lw_law 751 = .ok (.iload 4, 2) := by decide +kernel
theorem d_Lw_law_753 : decode c_Lw_law 753 = .ok (.iconst 1, 1) := by decide +kernel
theorem d_Lw_law_754 : decode c_Lw_law 754 = .ok (.iadd, 1) := by decide +kernel
theorem d_Lw_law_755 : decode c_Lw_law 755 = .ok (.iaload, 1) := by decide +kernel
theorem d_Lw_law_756 : decode c_Lw_law 756 = .ok (.invokevirtual 104, 3) := by decide +kernel
theorem d_Lw_law_759 : decode c_Lw_law 759 = .ok (.if_icmp .eq 18, 3) := by decide +kernel
theorem d_Lw_law_762 : decode c_Lw_law 762 = .ok (.iconst 0, 1) := by decide +kernel
theorem d_Lw_law_763 : decode c_Lw_law 763 = .ok (.ireturn, 1) := by decide +kernel
theorem d_Lw_law_764 : decode c_Lw_law 764 = .ok (.aload_n 1, 1) := by decide +kernel
theorem d_Lw_law_765 : decode c_Lw_law 765 = .ok (.invokevirtual 105, 3) := by decide +kernel
theorem d_Lw_law_768 : decode c_Lw_law 768 = .ok (.aload_n 2, 1) := by decide +kernel
theorem d_Lw_law_769 : decode c_Lw_law 769 = .ok (.invokevirtual 109, 3) := by decide +kernel
theorem d_Lw_law_772 : decode c_Lw_law 772 = .ok (.if_icmp .eq 5, 3) := by decide +kernel
theorem d_Lw_law_775 : decode c_Lw_law 775 = .ok (.iconst 0, 1) := by decide +kernel
theorem d_Lw_law_776 : decode c_Lw_law 776 = .ok (.ireturn, 1) := by decide +kernel
theorem d_Lw_law_777 : decode c_Lw_law 777 = .ok (.iinc 4 4, 3) := by decide +kernel
theorem d_Lw_law_780 : decode c_Lw_law 780 = .ok (.goto (-757), 3) := by decide +kernel
theorem d_Lw_law_783 : decode c_Lw_law 783 = .ok (.iconst 1, 1) := by decide +kernel
theorem d_Lw_law_784 : decode c_Lw_law 784 = .ok (.ireturn, 1) := by decide +kernel
