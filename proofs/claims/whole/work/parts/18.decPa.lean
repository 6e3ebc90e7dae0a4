theorem d_Pa_init_0 : decode c_Pa_init 0 = .ok (.aload_n 0, 1) := by decide +kernel
theorem d_Pa_init_1 : decode c_Pa_init 1 = .ok (.invokespecial 3, 3) := by decide +kernel
theorem d_Pa_init_4 : decode c_Pa_init 4 = .ok (.aload_n 0, 1) := by decide +kernel
theorem d_Pa_init_5 : decode c_Pa_init 5 = .ok (.aload_n 1, 1) := by decide +kernel
theorem d_Pa_init_6 : decode c_Pa_init 6 = .ok (.putfield 9, 3) := by decide +kernel
theorem d_Pa_init_9 : decode c_Pa_init 9 = .ok (.aload_n 0, 1) := by decide +kernel
theorem d_Pa_init_10 : decode c_Pa_init 10 = .ok (.aload_n 2, 1) := by decide +kernel
theorem d_Pa_init_11 : decode c_Pa_init 11 = .ok (.putfield 15, 3) := by decide +kernel
theorem d_Pa_init_14 : decode c_Pa_init 14 = .ok (.aload_n 0, 1) := by decide +kernel
theorem d_Pa_init_15 : decode c_Pa_init 15 = .ok (.sipush 195, 3) := by decide +kernel
theorem d_Pa_init_18 : decode c_Pa_init 18 = .ok (.newarray .int, 2) := by decide +kernel
theorem d_Pa_init_20 : decode c_Pa_init 20 = .ok (.putfield 20, 3) := by decide +kernel
theorem d_Pa_init_23 : decode c_Pa_init 23 = .ok (.return_, 1) := by decide +kernel
theorem d_Pa_makeRow_0 : decode c_Pa_makeRow 0 = .ok (.aload_n 0, 1) := by decide +kernel
theorem d_Pa_makeRow_1 : decode c_Pa_makeRow 1 = .ok (.getfield 9, 3) := by decide +kernel
theorem d_Pa_makeRow_4 : decode c_Pa_makeRow 4 = .ok (.invokevirtual 24, 3) := by decide +kernel
theorem d_Pa_makeRow_7 : decode c_Pa_makeRow 7 = .ok (.istore_n 1, 1) := by decide +kernel
theorem d_Pa_makeRow_8 : decode c_Pa_makeRow 8 = .ok (.iload_n 1, 1) := by decide +kernel
theorem d_Pa_makeRow_9 : decode c_Pa_makeRow 9 = .ok (.ifCond .lt 14, 3) := by decide +kernel
theorem d_Pa_makeRow_12 : decode c_Pa_makeRow 12 = .ok (.aload_n 0, 1) := by decide +kernel
theorem d_Pa_makeRow_13 : decode c_Pa_makeRow 13 = .ok (.iload_n 1, 1) := by decide +kernel
theorem d_Pa_makeRow_14 : decode c_Pa_makeRow 14 = .ok (.invokevirtual 30, 3) := by decide +kernel
theorem d_Pa_makeRow_17 : decode c_Pa_makeRow 17 = .ok (.iinc 1 (-1), 3) := by decide +kernel
theorem d_Pa_makeRow_20 : decode c_Pa_makeRow 20 = .ok (.goto (-12), 3) := by decide +kernel
theorem d_Pa_makeRow_23 : decode c_Pa_makeRow 23 = .ok (.aload_n 0, 1) := by decide +kernel
theorem d_Pa_makeRow_24 : decode c_Pa_makeRow 24 = .ok (.getfield 15, 3) := by decide +kernel
theorem d_Pa_makeRow_27 : decode c_Pa_makeRow 27 = .ok (.invokevirtual 34, 3) := by decide +kernel
theorem d_Pa_makeRow_30 : decode c_Pa_makeRow 30 = .ok (.pop, 1) := by decide +kernel
theorem d_Pa_makeRow_31 : decode c_Pa_makeRow 31 = .ok (.aload_n 0, 1) := by decide +kernel
theorem d_Pa_makeRow_32 : decode c_Pa_makeRow 32 = .ok (.invokevirtual 37, 3) := by decide +kernel
theorem d_Pa_makeRow_35 : decode c_Pa_makeRow 35 = .ok (.aload_n 0, 1) := by decide +kernel
theorem d_Pa_makeRow_36 : decode c_Pa_makeRow 36 = .ok (.getfield 15, 3) := by decide +kernel
theorem d_Pa_makeRow_39 : decode c_Pa_makeRow 39 = .ok (.aload_n 0, 1) := by decide +kernel
theorem d_Pa_makeRow_40 : decode c_Pa_makeRow 40 = .ok (.invokevirtual 40, 3) := by decide +kernel
theorem d_Pa_makeRow_43 : decode c_Pa_makeRow 43 = .ok (.invokevirtual 43, 3) := by decide +kernel
theorem d_Pa_makeRow_46 : decode c_Pa_makeRow 46 = .ok (.pop, 1) := by decide +kernel
theorem d_Pa_makeRow_47 : decode c_Pa_makeRow 47 = .ok (.aload_n 0, 1) := by decide +kernel
theorem d_Pa_makeRow_48 : decode c_Pa_makeRow 48 = .ok (.getfield 15, 3) := by decide +kernel
theorem d_Pa_makeRow_51 : decode c_Pa_makeRow 51 = .ok (.bipush 106, 2) := by decide +kernel
theorem d_Pa_makeRow_53 : decode c_Pa_makeRow 53 = .ok (.invokevirtual 43, 3) := by decide +kernel
theorem d_Pa_makeRow_56 : decode c_Pa_makeRow 56 = .ok (.pop, 1) := by decide +kernel
theorem d_Pa_makeRow_57 : decode c_Pa_makeRow 57 = .ok (.return_, 1) := by decide +kernel
theorem d_Pa_fillCosts_0 : decode c_Pa_fillCosts 0 = .ok (.ldc 47, 2) := by decide +kernel
theorem d_Pa_fillCosts_2 : decode c_Pa_fillCosts 2 = .ok (.istore_n 2, 1) := by decide +kernel
theorem d_Pa_fillCosts_3 : decode c_Pa_fillCosts 3 = .ok (.iconst 0, 1) := by decide +kernel
theorem d_Pa_fillCosts_4 : decode c_Pa_fillCosts 4 = .ok (.istore_n 3, 1) := by decide +kernel
theorem d_Pa_fillCosts_5 : decode c_Pa_fillCosts 5 = .ok (.iload_n 3, 1) := by decide +kernel
theorem d_Pa_fillCosts_6 : decode c_Pa_fillCosts 6 = .ok (.iconst 3, 1) := by decide +kernel
theorem d_Pa_fillCosts_7 : decode c_Pa_fillCosts 7 = .ok (.if_icmp .ge 47, 3) := by decide +kernel
theorem d_Pa_fillCosts_10 : decode c_Pa_fillCosts 10 = .ok (.iload_n 1, 1) := by decide +kernel
theorem d_Pa_fillCosts_11 : decode c_Pa_fillCosts 11 = .ok (.aload_n 0, 1) := by decide +kernel
theorem d_Pa_fillCosts_12 : decode c_Pa_fillCosts 12 = .ok (.getfield 9, 3) := by decide +kernel
theorem d_Pa_fillCosts_15 : decode c_Pa_fillCosts 15 = .ok (.invokevirtual 24, 3) := by decide +kernel
theorem d_Pa_fillCosts_18 : decode c_Pa_fillCosts 18 = .ok (.if_icmp .ne 7, 3) := by decide +kernel
theorem d_Pa_fillCosts_21 : decode c_Pa_fillCosts 21 = .ok (.iconst 0, 1) := by decide +kernel
theorem d_Pa_fillCosts_22 : decode c_Pa_fillCosts 22 = .ok (.goto 9, 3) := by decide +kernel
theorem d_Pa_fillCosts_25 : decode c_Pa_fillCosts 25 = .ok (.aload_n 0, 1) := by decide +kernel
theorem d_Pa_fillCosts_26 : decode c_Pa_fillCosts 26 = .ok (.iload_n 1, 1) := by decide +kernel
theorem d_Pa_fillCosts_27 : decode c_Pa_fillCosts 27 = .ok (.iload_n 3, 1) := by decide +kernel
theorem d_Pa_fillCosts_28 : decode c_Pa_fillCosts 28 = .ok (.invokevirtual 48, 3) := by decide +kernel
theorem d_Pa_fillCosts_31 : decode c_Pa_fillCosts 31 = .ok (.istore 4, 2) := by decide +kernel
theorem d_Pa_fillCosts_33 : decode c_Pa_fillCosts 33 = .ok (.aload_n 0, 1) := by decide +kernel
theorem d_Pa_fillCosts_34 : decode c_Pa_fillCosts 34 = .ok (.iload_n 1, 1) := by decide +kernel
theorem d_Pa_fillCosts_35 : decode c_Pa_fillCosts 35 = .ok (.iload_n 3, 1) := by decide +kernel
theorem d_Pa_fillCosts_36 : decode c_Pa_fillCosts 36 = .ok (.iload 4, 2) := by decide +kernel
theorem d_Pa_fillCosts_38 : decode c_Pa_fillCosts 38 = .ok (.invokevirtual 52, 3) := by decide +kernel
theorem d_Pa_fillCosts_41 : decode c_Pa_fillCosts 41 = .ok (.iload_n 2, 1) := by decide +kernel
theorem d_Pa_fillCosts_42 : decode c_Pa_fillCosts 42 = .ok (.iload 4, 2) := by decide +kernel
theorem d_Pa_fillCosts_44 : decode c_Pa_fillCosts 44 = .ok (.invokestatic 56, 3) := by decide +kernel
theorem d_Pa_fillCosts_47 : decode c_Pa_fillCosts 47 = .ok (.istore_n 2, 1) := by decide +kernel
theorem d_Pa_fillCosts_48 : decode c_Pa_fillCosts 48 = .ok (.iinc 3 1, 3) := by decide +kernel
theorem d_Pa_fillCosts_51 : decode c_Pa_fillCosts 51 = .ok (.goto (-46), 3) := by decide +kernel
theorem d_Pa_fillCosts_54 : decode c_Pa_fillCosts 54 = .ok (.iconst 0, 1) := by decide +kernel
theorem d_Pa_fillCosts_55 : decode c_Pa_fillCosts 55 = .ok (.istore_n 3, 1) := by decide +kernel
theorem d_Pa_fillCosts_56 : decode c_Pa_fillCosts 56 = .ok (.iload_n 3, 1) := by decide +kernel
theorem d_Pa_fillCosts_57 : decode c_Pa_fillCosts 57 = .ok (.iconst 3, 1) := by decide +kernel
theorem d_Pa_fillCosts_58 : decode c_Pa_fillCosts 58 = .ok (.if_icmp .ge 27, 3) := by decide +kernel
theorem d_Pa_fillCosts_61 : decode c_Pa_fillCosts 61 = .ok (.aload_n 0, 1) := by decide +kernel
theorem d_Pa_fillCosts_62 : decode c_Pa_fillCosts 62 = .ok (.iload_n 1, 1) := by decide +kernel
theorem d_Pa_fillCosts_63 : decode c_Pa_fillCosts 63 = .ok (.iload_n 3, 1) := by decide +kernel
theorem d_Pa_fillCosts_64 : decode c_Pa_fillCosts 64 = .ok (.aload_n 0, 1) := by decide +kernel
theorem d_Pa_fillCosts_65 : decode c_Pa_fillCosts 65 = .ok (.iload_n 1, 1) := by decide +kernel
theorem d_Pa_fillCosts_66 : decode c_Pa_fillCosts 66 = .ok (.iload_n 3, 1) := by decide +kernel
theorem d_Pa_fillCosts_67 : decode c_Pa_fillCosts 67 = .ok (.invokevirtual 61, 3) := by decide +kernel
theorem d_Pa_fillCosts_70 : decode c_Pa_fillCosts 70 = .ok (.iload_n 2, 1) := by decide +kernel
theorem d_Pa_fillCosts_71 : decode c_Pa_fillCosts 71 = .ok (.iconst 1, 1) := by decide +kernel
theorem d_Pa_fillCosts_72 : decode c_Pa_fillCosts 72 = .ok (.iadd, 1) := by decide +kernel
theorem d_Pa_fillCosts_73 : decode c_Pa_fillCosts 73 = .ok (.invokestatic 56, 3) := by decide +kernel
theorem d_Pa_fillCosts_76 : decode c_Pa_fillCosts 76 = .ok (.invokevirtual 52, 3) := by decide +kernel
theorem d_Pa_fillCosts_79 : decode c_Pa_fillCosts 79 = .ok (.iinc 3 1, 3) := by decide +kernel
theorem d_Pa_fillCosts_82 : decode c_Pa_fillCosts 82 = .ok (.goto (-26), 3) := by decide +kernel
theorem d_Pa_fillCosts_85 : decode c_Pa_fillCosts 85 = .ok (.return_, 1) := by decide +kernel
theorem d_Pa_costOfTelling_0 : decode c_Pa_costOfTelling 0 = .ok (.aload_n 0, 1) := by decide +kernel
theorem d_Pa_costOfTelling_1 : decode c_Pa_costOfTelling 1 = .ok (.getfield 9, 3) := by decide +kernel
theorem d_Pa_costOfTelling_4 : decode c_Pa_costOfTelling 4 = .ok (.iload_n 1, 1) := by decide +kernel
theorem d_Pa_costOfTelling_5 : decode c_Pa_costOfTelling 5 = .ok (.invokevirtual 64, 3) := by decide +kernel
theorem d_Pa_costOfTelling_8 : decode c_Pa_costOfTelling 8 = .ok (.istore_n 3, 1) := by decide +kernel
theorem d_Pa_costOfTelling_9 : decode c_Pa_costOfTelling 9 = .ok (.iload_n 3, 1) := by decide +kernel
theorem d_Pa_costOfTelling_10 : decode c_Pa_costOfTelling 10 = .ok (.sipush 128, 3) := by decide +kernel
theorem d_Pa_costOfTelling_13 : decode c_Pa_costOfTelling 13 = .ok (.if_icmp .ne 14, 3) := by decide +kernel
theorem d_Pa_costOfTelling_16 : decode c_Pa_costOfTelling 16 = .ok (.iconst 1, 1) := by decide +kernel
theorem d_Pa_costOfTelling_17 : decode c_Pa_costOfTelling 17 = .ok (.aload_n 0, 1) := by decide +kernel
theorem d_Pa_costOfTelling_18 : decode c_Pa_costOfTelling 18 = .ok (.iload_n 1, 1) := by decide +kernel
theorem d_Pa_costOfTelling_19 : decode c_Pa_costOfTelling 19 = .ok (.iconst 1, 1) := by decide +kernel
theorem d_Pa_costOfTelling_20 : decode c_Pa_costOfTelling 20 = .ok (.iadd, 1) := by decide +kernel
theorem d_Pa_costOfTelling_21 : decode c_Pa_costOfTelling 21 = .ok (.iload_n 2, 1) := by decide +kernel
theorem d_Pa_costOfTelling_22 : decode c_Pa_costOfTelling 22 = .ok (.invokevirtual 61, 3) := by decide +kernel
theorem d_Pa_costOfTelling_25 : decode c_Pa_costOfTelling 25 = .ok (.iadd, 1) := by decide +kernel
theorem d_Pa_costOfTelling_26 : decode c_Pa_costOfTelling 26 = .ok (.ireturn, 1) := by decide +kernel
theorem d_Pa_costOfTelling_27 : decode c_Pa_costOfTelling 27 = .ok (.iload_n 2, 1) := by decide +kernel
theorem d_Pa_costOfTelling_28 : decode c_Pa_costOfTelling 28 = .ok (.iconst 2, 1) := by decide +kernel
theorem d_Pa_costOfTelling_29 : decode c_Pa_costOfTelling 29 = .ok (.if_icmp .ne 49, 3) := by decide +kernel
theorem d_Pa_costOfTelling_32 : decode c_Pa_costOfTelling 32 = .ok (.iload_n 3, 1) := by decide +kernel
theorem d_Pa_costOfTelling_33 : decode c_Pa_costOfTelling 33 = .ok (.aload_n 0, 1) := by decide +kernel
theorem d_Pa_costOfTelling_34 : decode c_Pa_costOfTelling 34 = .ok (.getfield 9, 3) := by decide +kernel
theorem d_Pa_costOfTelling_37 : decode c_Pa_costOfTelling 37 = .ok (.iload_n 1, 1) := by decide +kernel
theorem d_Pa_costOfTelling_38 : decode c_Pa_costOfTelling 38 = .ok (.iconst 1, 1) := by decide +kernel
theorem d_Pa_costOfTelling_39 : decode c_Pa_costOfTelling 39 = .ok (.iadd, 1) := by decide +kernel
theorem d_Pa_costOfTelling_40 : decode c_Pa_costOfTelling 40 = .ok (.invokevirtual 64, 3) := by decide +kernel
theorem d_Pa_costOfTelling_43 : decode c_Pa_costOfTelling 43 = .ok (.invokestatic 68, 3) := by decide +kernel
theorem d_Pa_costOfTelling_46 : decode c_Pa_costOfTelling 46 = .ok (.iconst (-1), 1) := by decide +kernel
theorem d_Pa_costOfTelling_47 : decode c_Pa_costOfTelling 47 = .ok (.if_icmp .eq 7, 3) := by decide +kernel
theorem d_Pa_costOfTelling_50 : decode c_Pa_costOfTelling 50 = .ok (.iconst 1, 1) := by decide +kernel
theorem d_Pa_costOfTelling_51 : decode c_Pa_costOfTelling 51 = .ok (.goto 4, 3) := by decide +kernel
theorem d_Pa_costOfTelling_54 : decode c_Pa_costOfTelling 54 = .ok (.iconst 0, 1) := by decide +kernel
theorem d_Pa_costOfTelling_55 : decode c_Pa_costOfTelling 55 = .ok (.istore 4, 2) := by decide +kernel
theorem d_Pa_costOfTelling_57 : decode c_Pa_costOfTelling 57 = .ok (.iload 4, 2) := by decide +kernel
theorem d_Pa_costOfTelling_59 : decode c_Pa_costOfTelling 59 = .ok (.ifCond .eq 16, 3) := by decide +kernel
theorem d_Pa_costOfTelling_62 : decode c_Pa_costOfTelling 62 = .ok (.iconst 1, 1) := by decide +kernel
theorem d_Pa_costOfTelling_63 : decode c_Pa_costOfTelling 63 = .ok (.aload_n 0, 1) := by decide +kernel
theorem d_Pa_costOfTelling_64 : decode c_Pa_costOfTelling 64 = .ok (.iload_n 1, 1) := by decide +kernel
theorem d_Pa_costOfTelling_65 : decode c_Pa_costOfTelling 65 = .ok (.iconst 2, 1) := by decide +kernel
theorem d_Pa_costOfTelling_66 : decode c_Pa_costOfTelling 66 = .ok (.iadd, 1) := by decide +kernel
theorem d_Pa_costOfTelling_67 : decode c_Pa_costOfTelling 67 = .ok (.iload_n 2, 1) := by decide +kernel
theorem d_Pa_costOfTelling_68 : decode c_Pa_costOfTelling 68 = .ok (.invokevirtual 61, 3) := by decide +kernel
theorem d_Pa_costOfTelling_71 : decode c_Pa_costOfTelling 71 = .ok (.iadd, 1) := by decide +kernel
theorem d_Pa_costOfTelling_72 : decode c_Pa_costOfTelling 72 = .ok (.goto 5, 3) := by decide +kernel
theorem d_Pa_costOfTelling_75 : decode c_Pa_costOfTelling 75 = .ok (.ldc 47, 2) := by decide +kernel
theorem d_Pa_costOfTelling_77 : decode c_Pa_costOfTelling 77 = .ok (.ireturn, 1) := by decide +kernel
theorem d_Pa_costOfTelling_78 : decode c_Pa_costOfTelling 78 = .ok (.iload_n 2, 1) := by decide +kernel
theorem d_Pa_costOfTelling_79 : decode c_Pa_costOfTelling 79 = .ok (.iload_n 3, 1) := by decide +kernel
theorem d_Pa_costOfTelling_80 : decode c_Pa_costOfTelling 80 = .ok (.invokestatic 71, 3) := by decide +kernel
theorem d_Pa_costOfTelling_83 : decode c_Pa_costOfTelling 83 = .ok (.iconst (-1), 1) := by decide +kernel
theorem d_Pa_costOfTelling_84 : decode c_Pa_costOfTelling 84 = .ok (.if_icmp .eq 7, 3) := by decide +kernel
theorem d_Pa_costOfTelling_87 : decode c_Pa_costOfTelling 87 = .ok (.iconst 1, 1) := by decide +kernel
theorem d_Pa_costOfTelling_88 : decode c_Pa_costOfTelling 88 = .ok (.goto 4, 3) := by decide +kernel
theorem d_Pa_costOfTelling_91 : decode c_Pa_costOfTelling 91 = .ok (.iconst 0, 1) := by decide +kernel
theorem d_Pa_costOfTelling_92 : decode c_Pa_costOfTelling 92 = .ok (.istore 4, 2) := by decide +kernel
theorem d_Pa_costOfTelling_94 : decode c_Pa_costOfTelling 94 = .ok (.iload 4, 2) := by decide +kernel
theorem d_Pa_costOfTelling_96 : decode c_Pa_costOfTelling 96 = .ok (.ifCond .eq 7, 3) := by decide +kernel
theorem d_Pa_costOfTelling_99 : decode c_Pa_costOfTelling 99 = .ok (.iconst 1, 1) := by decide +kernel
theorem d_Pa_costOfTelling_100 : decode c_Pa_costOfTelling 100 = .ok (.goto 4, 3) := by decide +kernel
theorem d_Pa_costOfTelling_103 : decode c_Pa_costOfTelling 103 = .ok (.iconst 2, 1) := by decide +kernel
theorem d_Pa_costOfTelling_104 : decode c_Pa_costOfTelling 104 = .ok (.aload_n 0, 1) := by decide +kernel
theorem d_Pa_costOfTelling_105 : decode c_Pa_costOfTelling 105 = .ok (.iload_n 1, 1) := by decide +kernel
theorem d_Pa_costOfTelling_106 : decode c_Pa_costOfTelling 106 = .ok (.iconst 1, 1) := by decide +kernel
theorem d_Pa_costOfTelling_107 : decode c_Pa_costOfTelling 107 = .ok (.iadd, 1) := by decide +kernel
theorem d_Pa_costOfTelling_108 : decode c_Pa_costOfTelling 108 = .ok (.iload_n 2, 1) := by decide +kernel
theorem d_Pa_costOfTelling_109 : decode c_Pa_costOfTelling 109 = .ok (.invokevirtual 61, 3) := by decide +kernel
theorem d_Pa_costOfTelling_112 : decode c_Pa_costOfTelling 112 = .ok (.iadd, 1) := by decide +kernel
theorem d_Pa_costOfTelling_113 : decode c_Pa_costOfTelling 113 = .ok (.ireturn, 1) := by decide +kernel
theorem d_Pa_addSymbols_0 : decode c_Pa_addSymbols 0 = .ok (.aload_n 0, 1) := by decide +kernel
theorem d_Pa_addSymbols_1 : decode c_Pa_addSymbols 1 = .ok (.invokevirtual 74, 3) := by decide +kernel
theorem d_Pa_addSymbols_4 : decode c_Pa_addSymbols 4 = .ok (.istore_n 1, 1) := by decide +kernel
theorem d_Pa_addSymbols_5 : decode c_Pa_addSymbols 5 = .ok (.aload_n 0, 1) := by decide +kernel
theorem d_Pa_addSymbols_6 : decode c_Pa_addSymbols 6 = .ok (.getfield 15, 3) := by decide +kernel
theorem d_Pa_addSymbols_9 : decode c_Pa_addSymbols 9 = .ok (.iload_n 1, 1) := by decide +kernel
theorem d_Pa_addSymbols_10 : decode c_Pa_addSymbols 10 = .ok (.invokestatic 77, 3) := by decide +kernel
theorem d_Pa_addSymbols_13 : decode c_Pa_addSymbols 13 = .ok (.invokevirtual 43, 3) := by decide +kernel
theorem d_Pa_addSymbols_16 : decode c_Pa_addSymbols 16 = .ok (.pop, 1) := by decide +kernel
theorem d_Pa_addSymbols_17 : decode c_Pa_addSymbols 17 = .ok (.iconst 0, 1) := by decide +kernel
theorem d_Pa_addSymbols_18 : decode c_Pa_addSymbols 18 = .ok (.istore_n 2, 1) := by decide +kernel
theorem d_Pa_addSymbols_19 : decode c_Pa_addSymbols 19 = .ok (.iconst 0, 1) := by decide +kernel
theorem d_Pa_addSymbols_20 : decode c_Pa_addSymbols 20 = .ok (.istore_n 3, 1) := by decide +kernel
theorem d_Pa_addSymbols_21 : decode c_Pa_addSymbols 21 = .ok (.iload_n 3, 1) := by decide +kernel
theorem d_Pa_addSymbols_22 : decode c_Pa_addSymbols 22 = .ok (.bipush 99, 2) := by decide +kernel
theorem d_Pa_addSymbols_24 : decode c_Pa_addSymbols 24 = .ok (.if_icmp .ge 62, 3) := by decide +kernel
theorem d_Pa_addSymbols_27 : decode c_Pa_addSymbols 27 = .ok (.iload_n 2, 1) := by decide +kernel
theorem d_Pa_addSymbols_28 : decode c_Pa_addSymbols 28 = .ok (.aload_n 0, 1) := by decide +kernel
theorem d_Pa_addSymbols_29 : decode c_Pa_addSymbols 29 = .ok (.getfield 9, 3) := by decide +kernel
theorem d_Pa_addSymbols_32 : decode c_Pa_addSymbols 32 = .ok (.invokevirtual 24, 3) := by decide +kernel
theorem d_Pa_addSymbols_35 : decode c_Pa_addSymbols 35 = .ok (.if_icmp .ge 51, 3) := by decide +kernel
theorem d_Pa_addSymbols_38 : decode c_Pa_addSymbols 38 = .ok (.aload_n 0, 1) := by decide +kernel
theorem d_Pa_addSymbols_39 : decode c_Pa_addSymbols 39 = .ok (.iload_n 2, 1) := by decide +kernel
theorem d_Pa_addSymbols_40 : decode c_Pa_addSymbols 40 = .ok (.iload_n 1, 1) := by decide +kernel
theorem d_Pa_addSymbols_41 : decode c_Pa_addSymbols 41 = .ok (.invokevirtual 80, 3) := by decide +kernel
theorem d_Pa_addSymbols_44 : decode c_Pa_addSymbols 44 = .ok (.istore 4, 2) := by decide +kernel
theorem d_Pa_addSymbols_46 : decode c_Pa_addSymbols 46 = .ok (.iload 4, 2) := by decide +kernel
theorem d_Pa_addSymbols_48 : decode c_Pa_addSymbols 48 = .ok (.iload_n 1, 1) := by decide +kernel
theorem d_Pa_addSymbols_49 : decode c_Pa_addSymbols 49 = .ok (.if_icmp .ne 15, 3) := by decide +kernel
theorem d_Pa_addSymbols_52 : decode c_Pa_addSymbols 52 = .ok (.iload_n 2, 1) := by decide +kernel
theorem d_Pa_addSymbols_53 : decode c_Pa_addSymbols 53 = .ok (.aload_n 0, 1) := by decide +kernel
theorem d_Pa_addSymbols_54 : decode c_Pa_addSymbols 54 = .ok (.iload_n 2, 1) := by decide +kernel
theorem d_Pa_addSymbols_55 : decode c_Pa_addSymbols 55 = .ok (.iload_n 1, 1) := by decide +kernel
theorem d_Pa_addSymbols_56 : decode c_Pa_addSymbols 56 = .ok (.invokevirtual 83, 3) := by decide +kernel
theorem d_Pa_addSymbols_59 : decode c_Pa_addSymbols 59 = .ok (.iadd, 1) := by decide +kernel
theorem d_Pa_addSymbols_60 : decode c_Pa_addSymbols 60 = .ok (.istore_n 2, 1) := by decide +kernel
theorem d_Pa_addSymbols_61 : decode c_Pa_addSymbols 61 = .ok (.goto 19, 3) := by decide +kernel
theorem d_Pa_addSymbols_64 : decode c_Pa_addSymbols 64 = .ok (.aload_n 0, 1) := by decide +kernel
theorem d_Pa_addSymbols_65 : decode c_Pa_addSymbols 65 = .ok (.getfield 15, 3) := by decide +kernel
theorem d_Pa_addSymbols_68 : decode c_Pa_addSymbols 68 = .ok (.iload 4, 2) := by decide +kernel
theorem d_Pa_addSymbols_70 : decode c_Pa_addSymbols 70 = .ok (.invokestatic 86, 3) := by decide +kernel
theorem d_Pa_addSymbols_73 : decode c_Pa_addSymbols 73 = .ok (.invokevirtual 43, 3) := by decide +kernel
theorem d_Pa_addSymbols_76 : decode c_Pa_addSymbols 76 = .ok (.pop, 1) := by decide +kernel
theorem d_Pa_addSymbols_77 : decode c_Pa_addSymbols 77 = .ok (.iload 4, 2) := by decide +kernel
theorem d_Pa_addSymbols_79 : decode c_Pa_addSymbols 79 = .ok (.istore_n 1, 1) := by decide +kernel
theorem d_Pa_addSymbols_80 : decode c_Pa_addSymbols 80 = .ok (.iinc 3 1, 3) := by decide +kernel
theorem d_Pa_addSymbols_83 : decode c_Pa_addSymbols 83 = .ok (.goto (-62), 3) := by decide +kernel
theorem d_Pa_addSymbols_86 : decode c_Pa_addSymbols 86 = .ok (.return_, 1) := by decide +kernel
theorem d_Pa_cheapestFirstSet_0 : decode c_Pa_cheapestFirstSet 0 = .ok (.iconst 0, 1) := by decide +kernel
theorem d_Pa_cheapestFirstSet_1 : decode c_Pa_cheapestFirstSet 1 = .ok (.istore_n 1, 1) := by decide +kernel
theorem d_Pa_cheapestFirstSet_2 : decode c_Pa_cheapestFirstSet 2 = .ok (.iconst 1, 1) := by decide +kernel
theorem d_Pa_cheapestFirstSet_3 : decode c_Pa_cheapestFirstSet 3 = .ok (.istore_n 2, 1) := by decide +kernel
theorem d_Pa_cheapestFirstSet_4 : decode c_Pa_cheapestFirstSet 4 = .ok (.iload_n 2, 1) := by decide +kernel
theorem d_Pa_cheapestFirstSet_5 : decode c_Pa_cheapestFirstSet 5 = .ok (.iconst 3, 1) := by decide +kernel
theorem d_Pa_cheapestFirstSet_6 : decode c_Pa_cheapestFirstSet 6 = .ok (.if_icmp .ge 26, 3) := by decide +kernel
theorem d_Pa_cheapestFirstSet_9 : decode c_Pa_cheapestFirstSet 9 = .ok (.aload_n 0, 1) := by decide +kernel
theorem d_Pa_cheapestFirstSet_10 : decode c_Pa_cheapestFirstSet 10 = .ok (.iconst 0, 1) := by decide +kernel
theorem d_Pa_cheapestFirstSet_11 : decode c_Pa_cheapestFirstSet 11 = .ok (.iload_n 2, 1) := by decide +kernel
theorem d_Pa_cheapestFirstSet_12 : decode c_Pa_cheapestFirstSet 12 = .ok (.invokevirtual 61, 3) := by decide +kernel
theorem d_Pa_cheapestFirstSet_15 : decode c_Pa_cheapestFirstSet 15 = .ok (.aload_n 0, 1) := by decide +kernel
theorem d_Pa_cheapestFirstSet_16 : decode c_Pa_cheapestFirstSet 16 = .ok (.iconst 0, 1) := by decide +kernel
theorem d_Pa_cheapestFirstSet_17 : decode c_Pa_cheapestFirstSet 17 = .ok (.iload_n 1, 1) := by decide +kernel
theorem d_Pa_cheapestFirstSet_18 : decode c_Pa_cheapestFirstSet 18 = .ok (.invokevirtual 61, 3) := by decide +kernel
theorem d_Pa_cheapestFirstSet_21 : decode c_Pa_cheapestFirstSet 21 = .ok (.if_icmp .ge 5, 3) := by decide +kernel
theorem d_Pa_cheapestFirstSet_24 : decode c_Pa_cheapestFirstSet 24 = .ok (.iload_n 2, 1) := by decide +kernel
theorem d_Pa_cheapestFirstSet_25 : decode c_Pa_cheapestFirstSet 25 = .ok (.istore_n 1, 1) := by decide +kernel
theorem d_Pa_cheapestFirstSet_26 : decode c_Pa_cheapestFirstSet 26 = .ok (.iinc 2 1, 3) := by decide +kernel
theorem d_Pa_cheapestFirstSet_29 : decode c_Pa_cheapestFirstSet 29 = .ok (.goto (-25), 3) := by decide +kernel
theorem d_Pa_cheapestFirstSet_32 : decode c_Pa_cheapestFirstSet 32 = .ok (.iload_n 1, 1) := by decide +kernel
theorem d_Pa_cheapestFirstSet_33 : decode c_Pa_cheapestFirstSet 33 = .ok (.ireturn, 1) := by decide +kernel
theorem d_Pa_nextSet_0 : decode c_Pa_nextSet 0 = .ok (.aload_n 0, 1) := by decide +kernel
theorem d_Pa_nextSet_1 : decode c_Pa_nextSet 1 = .ok (.getfield 9, 3) := by decide +kernel
theorem d_Pa_nextSet_4 : decode c_Pa_nextSet 4 = .ok (.iload_n 1, 1) := by decide +kernel
theorem d_Pa_nextSet_5 : decode c_Pa_nextSet 5 = .ok (.invokevirtual 64, 3) := by decide +kernel
theorem d_Pa_nextSet_8 : decode c_Pa_nextSet 8 = .ok (.sipush 128, 3) := by decide +kernel
theorem d_Pa_nextSet_11 : decode c_Pa_nextSet 11 = .ok (.if_icmp .ne 7, 3) := by decide +kernel
theorem d_Pa_nextSet_14 : decode c_Pa_nextSet 14 = .ok (.iconst 1, 1) := by decide +kernel
theorem d_Pa_nextSet_15 : decode c_Pa_nextSet 15 = .ok (.goto 4, 3) := by decide +kernel
theorem d_Pa_nextSet_18 : decode c_Pa_nextSet 18 = .ok (.iconst 0, 1) := by decide +kernel
theorem d_Pa_nextSet_19 : decode c_Pa_nextSet 19 = .ok (.istore_n 3, 1) := by decide +kernel
theorem d_Pa_nextSet_20 : decode c_Pa_nextSet 20 = .ok (.iload_n 3, 1) := by decide +kernel
theorem d_Pa_nextSet_21 : decode c_Pa_nextSet 21 = .ok (.ifCond .ne 20, 3) := by decide +kernel
theorem d_Pa_nextSet_24 : decode c_Pa_nextSet 24 = .ok (.aload_n 0, 1) := by decide +kernel
theorem d_Pa_nextSet_25 : decode c_Pa_nextSet 25 = .ok (.iload_n 1, 1) := by decide +kernel
theorem d_Pa_nextSet_26 : decode c_Pa_nextSet 26 = .ok (.iload_n 2, 1) := by decide +kernel
theorem d_Pa_nextSet_27 : decode c_Pa_nextSet 27 = .ok (.invokevirtual 48, 3) := by decide +kernel
theorem d_Pa_nextSet_30 : decode c_Pa_nextSet 30 = .ok (.aload_n 0, 1) := by decide +kernel
theorem d_Pa_nextSet_31 : decode c_Pa_nextSet 31 = .ok (.iload_n 1, 1) := by decide +kernel
theorem d_Pa_nextSet_32 : decode c_Pa_nextSet 32 = .ok (.iload_n 2, 1) := by decide +kernel
theorem d_Pa_nextSet_33 : decode c_Pa_nextSet 33 = .ok (.invokevirtual 61, 3) := by decide +kernel
theorem d_Pa_nextSet_36 : decode c_Pa_nextSet 36 = .ok (.if_icmp .ne 5, 3) := by decide +kernel
theorem d_Pa_nextSet_39 : decode c_Pa_nextSet 39 = .ok (.iload_n 2, 1) := by decide +kernel
theorem d_Pa_nextSet_40 : decode c_Pa_nextSet 40 = .ok (.ireturn, 1) := by decide +kernel
theorem d_Pa_nextSet_41 : decode c_Pa_nextSet 41 = .ok (.iconst 2, 1) := by decide +kernel
theorem d_Pa_nextSet_42 : decode c_Pa_nextSet 42 = .ok (.istore 4, 2) := by decide +kernel
theorem d_Pa_nextSet_44 : decode c_Pa_nextSet 44 = .ok (.iload 4, 2) := by decide +kernel
theorem d_Pa_nextSet_46 : decode c_Pa_nextSet 46 = .ok (.ifCond .lt 36, 3) := by decide +kernel
theorem d_Pa_nextSet_49 : decode c_Pa_nextSet 49 = .ok (.iload 4, 2) := by decide +kernel
theorem d_Pa_nextSet_51 : decode c_Pa_nextSet 51 = .ok (.iload_n 2, 1) := by decide +kernel
theorem d_Pa_nextSet_52 : decode c_Pa_nextSet 52 = .ok (.if_icmp .eq 24, 3) := by decide +kernel
theorem d_Pa_nextSet_55 : decode c_Pa_nextSet 55 = .ok (.iconst 1, 1) := by decide +kernel
theorem d_Pa_nextSet_56 : decode c_Pa_nextSet 56 = .ok (.aload_n 0, 1) := by decide +kernel
theorem d_Pa_nextSet_57 : decode c_Pa_nextSet 57 = .ok (.iload_n 1, 1) := by decide +kernel
theorem d_Pa_nextSet_58 : decode c_Pa_nextSet 58 = .ok (.iload 4, 2) := by decide +kernel
theorem d_Pa_nextSet_60 : decode c_Pa_nextSet 60 = .ok (.invokevirtual 61, 3) := by decide +kernel
theorem d_Pa_nextSet_63 : decode c_Pa_nextSet 63 = .ok (.iadd, 1) := by decide +kernel
theorem d_Pa_nextSet_64 : decode c_Pa_nextSet 64 = .ok (.aload_n 0, 1) := by decide +kernel
theorem d_Pa_nextSet_65 : decode c_Pa_nextSet 65 = .ok (.iload_n 1, 1) := by decide +kernel
theorem d_Pa_nextSet_66 : decode c_Pa_nextSet 66 = .ok (.iload_n 2, 1) := by decide +kernel
theorem d_Pa_nextSet_67 : decode c_Pa_nextSet 67 = .ok (.invokevirtual 61, 3) := by decide +kernel
theorem d_Pa_nextSet_70 : decode c_Pa_nextSet 70 = .ok (.if_icmp .ne 6, 3) := by decide +kernel
theorem d_Pa_nextSet_73 : decode c_Pa_nextSet 73 = .ok (.iload 4, 2) := by decide +kernel
theorem d_Pa_nextSet_75 : decode c_Pa_nextSet 75 = .ok (.ireturn, 1) := by decide +kernel
theorem d_Pa_nextSet_76 : decode c_Pa_nextSet 76 = .ok (.iinc 4 (-1), 3) := by decide +kernel
theorem d_Pa_nextSet_79 : decode c_Pa_nextSet 79 = .ok (.goto (-35), 3) := by decide +kernel
theorem d_Pa_nextSet_82 : decode c_Pa_nextSet 82 = .ok (.iload_n 2, 1) := by decide +kernel
theorem d_Pa_nextSet_83 : decode c_Pa_nextSet 83 = .ok (.ireturn, 1) := by decide +kernel
theorem d_Pa_addTold_0 : decode c_Pa_addTold 0 = .ok (.aload_n 0, 1) := by decide +kernel
theorem d_Pa_addTold_1 : decode c_Pa_addTold 1 = .ok (.getfield 9, 3) := by decide +kernel
theorem d_Pa_addTold_4 : decode c_Pa_addTold 4 = .ok (.iload_n 1, 1) := by decide +kernel
theorem d_Pa_addTold_5 : decode c_Pa_addTold 5 = .ok (.invokevirtual 64, 3) := by decide +kernel
theorem d_Pa_addTold_8 : decode c_Pa_addTold 8 = .ok (.istore_n 3, 1) := by decide +kernel
theorem d_Pa_addTold_9 : decode c_Pa_addTold 9 = .ok (.iload_n 3, 1) := by decide +kernel
theorem d_Pa_addTold_10 : decode c_Pa_addTold 10 = .ok (.sipush 128, 3) := by decide +kernel
theorem d_Pa_addTold_13 : decode c_Pa_addTold 13 = .ok (.if_icmp .ne 15, 3) := by decide +kernel
theorem d_Pa_addTold_16 : decode c_Pa_addTold 16 = .ok (.aload_n 0, 1) := by decide +kernel
theorem d_Pa_addTold_17 : decode c_Pa_addTold 17 = .ok (.getfield 15, 3) := by decide +kernel
theorem d_Pa_addTold_20 : decode c_Pa_addTold 20 = .ok (.bipush 102, 2) := by decide +kernel
theorem d_Pa_addTold_22 : decode c_Pa_addTold 22 = .ok (.invokevirtual 43, 3) := by decide +kernel
theorem d_Pa_addTold_25 : decode c_Pa_addTold 25 = .ok (.pop, 1) := by decide +kernel
theorem d_Pa_addTold_26 : decode c_Pa_addTold 26 = .ok (.iconst 1, 1) := by decide +kernel
theorem d_Pa_addTold_27 : decode c_Pa_addTold 27 = .ok (.ireturn, 1) := by decide +kernel
theorem d_Pa_addTold_28 : decode c_Pa_addTold 28 = .ok (.iload_n 2, 1) := by decide +kernel
theorem d_Pa_addTold_29 : decode c_Pa_addTold 29 = .ok (.iconst 2, 1) := by decide +kernel
theorem d_Pa_addTold_30 : decode c_Pa_addTold 30 = .ok (.if_icmp .ne 27, 3) := by decide +kernel
theorem d_Pa_addTold_33 : decode c_Pa_addTold 33 = .ok (.aload_n 0, 1) := by decide +kernel
theorem d_Pa_addTold_34 : decode c_Pa_addTold 34 = .ok (.getfield 15, 3) := by decide +kernel
theorem d_Pa_addTold_37 : decode c_Pa_addTold 37 = .ok (.iload_n 3, 1) := by decide +kernel
theorem d_Pa_addTold_38 : decode c_Pa_addTold 38 = .ok (.aload_n 0, 1) := by decide +kernel
theorem d_Pa_addTold_39 : decode c_Pa_addTold 39 = .ok (.getfield 9, 3) := by decide +kernel
theorem d_Pa_addTold_42 : decode c_Pa_addTold 42 = .ok (.iload_n 1, 1) := by decide +kernel
theorem d_Pa_addTold_43 : decode c_Pa_addTold 43 = .ok (.iconst 1, 1) := by decide +kernel
theorem d_Pa_addTold_44 : decode c_Pa_addTold 44 = .ok (.iadd, 1) := by decide +kernel
theorem d_Pa_addTold_45 : decode c_Pa_addTold 45 = .ok (.invokevirtual 64, 3) := by decide +kernel
theorem d_Pa_addTold_48 : decode c_Pa_addTold 48 = .ok (.invokestatic 68, 3) := by decide +kernel
theorem d_Pa_addTold_51 : decode c_Pa_addTold 51 = .ok (.invokevirtual 43, 3) := by decide +kernel
theorem d_Pa_addTold_54 : decode c_Pa_addTold 54 = .ok (.pop, 1) := by decide +kernel
theorem d_Pa_addTold_55 : decode c_Pa_addTold 55 = .ok (.iconst 2, 1) := by decide +kernel
theorem d_Pa_addTold_56 : decode c_Pa_addTold 56 = .ok (.ireturn, 1) := by decide +kernel
theorem d_Pa_addTold_57 : decode c_Pa_addTold 57 = .ok (.iload_n 2, 1) := by decide +kernel
theorem d_Pa_addTold_58 : decode c_Pa_addTold 58 = .ok (.iload_n 3, 1) := by decide +kernel
theorem d_Pa_addTold_59 : decode c_Pa_addTold 59 = .ok (.invokestatic 71, 3) := by decide +kernel
theorem d_Pa_addTold_62 : decode c_Pa_addTold 62 = .ok (.istore 4, 2) := by decide +kernel
theorem d_Pa_addTold_64 : decode c_Pa_addTold 64 = .ok (.iload 4, 2) := by decide +kernel
theorem d_Pa_addTold_66 : decode c_Pa_addTold 66 = .ok (.iconst (-1), 1) := by decide +kernel
theorem d_Pa_addTold_67 : decode c_Pa_addTold 67 = .ok (.if_icmp .ne 23, 3) := by decide +kernel
theorem d_Pa_addTold_70 : decode c_Pa_addTold 70 = .ok (.aload_n 0, 1) := by decide +kernel
theorem d_Pa_addTold_71 : decode c_Pa_addTold 71 = .ok (.getfield 15, 3) := by decide +kernel
theorem d_Pa_addTold_74 : decode c_Pa_addTold 74 = .ok (.bipush 98, 2) := by decide +kernel
theorem d_Pa_addTold_76 : decode c_Pa_addTold 76 = .ok (.invokevirtual 43, 3) := by decide +kernel
theorem d_Pa_addTold_79 : decode c_Pa_addTold 79 = .ok (.pop, 1) := by decide +kernel
theorem d_Pa_addTold_80 : decode c_Pa_addTold 80 = .ok (.iload_n 2, 1) := by decide +kernel
theorem d_Pa_addTold_81 : decode c_Pa_addTold 81 = .ok (.invokestatic 89, 3) := by decide +kernel
theorem d_Pa_addTold_84 : decode c_Pa_addTold 84 = .ok (.iload_n 3, 1) := by decide +kernel
theorem d_Pa_addTold_85 : decode c_Pa_addTold 85 = .ok (.invokestatic 71, 3) := by decide +kernel
theorem d_Pa_addTold_88 : decode c_Pa_addTold 88 = .ok (.istore 4, 2) := by decide +kernel
theorem d_Pa_addTold_90 : decode c_Pa_addTold 90 = .ok (.aload_n 0, 1) := by decide +kernel
theorem d_Pa_addTold_91 : decode c_Pa_addTold 91 = .ok (.getfield 15, 3) := by decide +kernel
theorem d_Pa_addTold_94 : decode c_Pa_addTold 94 = .ok (.iload 4, 2) := by decide +kernel
theorem d_Pa_addTold_96 : decode c_Pa_addTold 96 = .ok (.invokevirtual 43, 3) := by decide +kernel
theorem d_Pa_addTold_99 : decode c_Pa_addTold 99 = .ok (.pop, 1) := by decide +kernel
theorem d_Pa_addTold_100 : decode c_Pa_addTold 100 = .ok (.iconst 1, 1) := by decide +kernel
theorem d_Pa_addTold_101 : decode c_Pa_addTold 101 = .ok (.ireturn, 1) := by decide +kernel
theorem d_Pa_checkSymbol_0 : decode c_Pa_checkSymbol 0 = .ok (.aload_n 0, 1) := by decide +kernel
theorem d_Pa_checkSymbol_1 : decode c_Pa_checkSymbol 1 = .ok (.getfield 15, 3) := by decide +kernel
theorem d_Pa_checkSymbol_4 : decode c_Pa_checkSymbol 4 = .ok (.iconst 0, 1) := by decide +kernel
theorem d_Pa_checkSymbol_5 : decode c_Pa_checkSymbol 5 = .ok (.invokevirtual 64, 3) := by decide +kernel
theorem d_Pa_checkSymbol_8 : decode c_Pa_checkSymbol 8 = .ok (.istore_n 1, 1) := by decide +kernel
theorem d_Pa_checkSymbol_9 : decode c_Pa_checkSymbol 9 = .ok (.iconst 1, 1) := by decide +kernel
theorem d_Pa_checkSymbol_10 : decode c_Pa_checkSymbol 10 = .ok (.istore_n 2, 1) := by decide +kernel
theorem d_Pa_checkSymbol_11 : decode c_Pa_checkSymbol 11 = .ok (.iload_n 2, 1) := by decide +kernel
theorem d_Pa_checkSymbol_12 : decode c_Pa_checkSymbol 12 = .ok (.aload_n 0, 1) := by decide +kernel
theorem d_Pa_checkSymbol_13 : decode c_Pa_checkSymbol 13 = .ok (.getfield 15, 3) := by decide +kernel
theorem d_Pa_checkSymbol_16 : decode c_Pa_checkSymbol 16 = .ok (.invokevirtual 24, 3) := by decide +kernel
theorem d_Pa_checkSymbol_19 : decode c_Pa_checkSymbol 19 = .ok (.if_icmp .ge 22, 3) := by decide +kernel
theorem d_Pa_checkSymbol_22 : decode c_Pa_checkSymbol 22 = .ok (.iload_n 1, 1) := by decide +kernel
theorem d_Pa_checkSymbol_23 : decode c_Pa_checkSymbol 23 = .ok (.iload_n 2, 1) := by decide +kernel
theorem d_Pa_checkSymbol_24 : decode c_Pa_checkSymbol 24 = .ok (.aload_n 0, 1) := by decide +kernel
theorem d_Pa_checkSymbol_25 : decode c_Pa_checkSymbol 25 = .ok (.getfield 15, 3) := by decide +kernel
theorem d_Pa_checkSymbol_28 : decode c_Pa_checkSymbol 28 = .ok (.iload_n 2, 1) := by decide +kernel
theorem d_Pa_checkSymbol_29 : decode c_Pa_checkSymbol 29 = .ok (.invokevirtual 64, 3) := by decide +kernel
theorem d_Pa_checkSymbol_32 : decode c_Pa_checkSymbol 32 = .ok (.imul, 1) := by decide +kernel
theorem d_Pa_checkSymbol_33 : decode c_Pa_checkSymbol 33 = .ok (.iadd, 1) := by decide +kernel
theorem d_Pa_checkSymbol_34 : decode c_Pa_checkSymbol 34 = .ok (.istore_n 1, 1) := by decide +kernel
theorem d_Pa_checkSymbol_35 : decode c_Pa_checkSymbol 35 = .ok (.iinc 2 1, 3) := by decide +kernel
theorem d_Pa_checkSymbol_38 : decode c_Pa_checkSymbol 38 = .ok (.goto (-27), 3) := by decide +kernel
theorem d_Pa_checkSymbol_41 : decode c_Pa_checkSymbol 41 = .ok (.iload_n 1, 1) := by decide +kernel
theorem d_Pa_checkSymbol_42 : decode c_Pa_checkSymbol 42 = .ok (.bipush 103, 2) := by decide +kernel
theorem d_Pa_checkSymbol_44 : decode c_Pa_checkSymbol 44 = .ok (.irem, 1) := by decide +kernel
theorem d_Pa_checkSymbol_45 : decode c_Pa_checkSymbol 45 = .ok (.ireturn, 1) := by decide +kernel
theorem d_Pa_cost_0 : decode c_Pa_cost 0 = .ok (.iconst 3, 1) := by decide +kernel
theorem d_Pa_cost_1 : decode c_Pa_cost 1 = .ok (.iload_n 1, 1) := by decide +kernel
theorem d_Pa_cost_2 : decode c_Pa_cost 2 = .ok (.imul, 1) := by decide +kernel
theorem d_Pa_cost_3 : decode c_Pa_cost 3 = .ok (.iload_n 2, 1) := by decide +kernel
theorem d_Pa_cost_4 : decode c_Pa_cost 4 = .ok (.iadd, 1) := by decide +kernel
theorem d_Pa_cost_5 : decode c_Pa_cost 5 = .ok (.istore_n 3, 1) := by decide +kernel
theorem d_Pa_cost_6 : decode c_Pa_cost 6 = .ok (.iload_n 3, 1) := by decide +kernel
theorem d_Pa_cost_7 : decode c_Pa_cost 7 = .ok (.ifCond .lt 21, 3) := by decide +kernel
theorem d_Pa_cost_10 : decode c_Pa_cost 10 = .ok (.iload_n 3, 1) := by decide +kernel
theorem d_Pa_cost_11 : decode c_Pa_cost 11 = .ok (.aload_n 0, 1) := by decide +kernel
theorem d_Pa_cost_12 : decode c_Pa_cost 12 = .ok (.getfield 20, 3) := by decide +kernel
theorem d_Pa_cost_15 : decode c_Pa_cost 15 = .ok (.arraylength, 1) := by decide +kernel
theorem d_Pa_cost_16 : decode c_Pa_cost 16 = .ok (.if_icmp .ge 12, 3) := by decide +kernel
theorem d_Pa_cost_19 : decode c_Pa_cost 19 = .ok (.aload_n 0, 1) := by decide +kernel
theorem d_Pa_cost_20 : decode c_Pa_cost 20 = .ok (.getfield 20, 3) := by decide +kernel
theorem d_Pa_cost_23 : decode c_Pa_cost 23 = .ok (.iload_n 3, 1) := by decide +kernel
theorem d_Pa_cost_24 : decode c_Pa_cost 24 = .ok (.iaload, 1) := by decide +kernel
theorem d_Pa_cost_25 : decode c_Pa_cost 25 = .ok (.goto 5, 3) := by decide +kernel
theorem d_Pa_cost_28 : decode c_Pa_cost 28 = .ok (.ldc 47, 2) := by decide +kernel
theorem d_Pa_cost_30 : decode c_Pa_cost 30 = .ok (.ireturn, 1) := by decide +kernel
theorem d_Pa_setCost_0 : decode c_Pa_setCost 0 = .ok (.iconst 3, 1) := by decide +kernel
theorem d_Pa_setCost_1 : decode c_Pa_setCost 1 = .ok (.iload_n 1, 1) := by decide +kernel
theorem d_Pa_setCost_2 : decode c_Pa_setCost 2 = .ok (.imul, 1) := by decide +kernel
theorem d_Pa_setCost_3 : decode c_Pa_setCost 3 = .ok (.iload_n 2, 1) := by decide +kernel
theorem d_Pa_setCost_4 : decode c_Pa_setCost 4 = .ok (.iadd, 1) := by decide +kernel
theorem d_Pa_setCost_5 : decode c_Pa_setCost 5 = .ok (.istore 4, 2) := by decide +kernel
theorem d_Pa_setCost_7 : decode c_Pa_setCost 7 = .ok (.iload 4, 2) := by decide +kernel
theorem d_Pa_setCost_9 : decode c_Pa_setCost 9 = .ok (.ifCond .lt 21, 3) := by decide +kernel
theorem d_Pa_setCost_12 : decode c_Pa_setCost 12 = .ok (.iload 4, 2) := by decide +kernel
theorem d_Pa_setCost_14 : decode c_Pa_setCost 14 = .ok (.aload_n 0, 1) := by decide +kernel
theorem d_Pa_setCost_15 : decode c_Pa_setCost 15 = .ok (.getfield 20, 3) := by decide +kernel
theorem d_Pa_setCost_18 : decode c_Pa_setCost 18 = .ok (.arraylength, 1) := by decide +kernel
theorem d_Pa_setCost_19 : decode c_Pa_setCost 19 = .ok (.if_icmp .ge 11, 3) := by decide +kernel
theorem d_Pa_setCost_22 : decode c_Pa_setCost 22 = .ok (.aload_n 0, 1) := by decide +kernel
theorem d_Pa_setCost_23 : decode c_Pa_setCost 23 = .ok (.getfield 20, 3) := by decide +kernel
theorem d_Pa_setCost_26 : decode c_Pa_setCost 26 = .ok (.iload 4, 2) := by decide +kernel
theorem d_Pa_setCost_28 : decode c_Pa_setCost 28 = .ok (.iload_n 3, 1) := by decide +kernel
theorem d_Pa_setCost_29 : decode c_Pa_setCost 29 = .ok (.iastore, 1) := by decide +kernel
theorem d_Pa_setCost_30 : decode c_Pa_setCost 30 = .ok (.return_, 1) := by decide +kernel
