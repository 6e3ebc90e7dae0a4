theorem d_Re_init_0 : decode c_Re_init 0 = .ok (.aload_n 0, 1) := by decide +kernel
theorem d_Re_init_1 : decode c_Re_init 1 = .ok (.invokespecial 3, 3) := by decide +kernel
theorem d_Re_init_4 : decode c_Re_init 4 = .ok (.aload_n 0, 1) := by decide +kernel
theorem d_Re_init_5 : decode c_Re_init 5 = .ok (.aload_n 1, 1) := by decide +kernel
theorem d_Re_init_6 : decode c_Re_init 6 = .ok (.putfield 9, 3) := by decide +kernel
theorem d_Re_init_9 : decode c_Re_init 9 = .ok (.aload_n 0, 1) := by decide +kernel
theorem d_Re_init_10 : decode c_Re_init 10 = .ok (.new 15, 3) := by decide +kernel
theorem d_Re_init_13 : decode c_Re_init 13 = .ok (.dup, 1) := by decide +kernel
theorem d_Re_init_14 : decode c_Re_init 14 = .ok (.sipush 260, 3) := by decide +kernel
theorem d_Re_init_17 : decode c_Re_init 17 = .ok (.invokespecial 17, 3) := by decide +kernel
theorem d_Re_init_20 : decode c_Re_init 20 = .ok (.putfield 20, 3) := by decide +kernel
theorem d_Re_init_23 : decode c_Re_init 23 = .ok (.aload_n 0, 1) := by decide +kernel
theorem d_Re_init_24 : decode c_Re_init 24 = .ok (.iconst 0, 1) := by decide +kernel
theorem d_Re_init_25 : decode c_Re_init 25 = .ok (.putfield 23, 3) := by decide +kernel
theorem d_Re_init_28 : decode c_Re_init 28 = .ok (.aload_n 0, 1) := by decide +kernel
theorem d_Re_init_29 : decode c_Re_init 29 = .ok (.iconst 0, 1) := by decide +kernel
theorem d_Re_init_30 : decode c_Re_init 30 = .ok (.putfield 29, 3) := by decide +kernel
theorem d_Re_init_33 : decode c_Re_init 33 = .ok (.aload_n 0, 1) := by decide +kernel
theorem d_Re_init_34 : decode c_Re_init 34 = .ok (.iconst 0, 1) := by decide +kernel
theorem d_Re_init_35 : decode c_Re_init 35 = .ok (.putfield 33, 3) := by decide +kernel
theorem d_Re_init_38 : decode c_Re_init 38 = .ok (.return_, 1) := by decide +kernel
theorem d_Re_toldCount_0 : decode c_Re_toldCount 0 = .ok (.aload_n 0, 1) := by decide +kernel
theorem d_Re_toldCount_1 : decode c_Re_toldCount 1 = .ok (.getfield 20, 3) := by decide +kernel
theorem d_Re_toldCount_4 : decode c_Re_toldCount 4 = .ok (.invokevirtual 36, 3) := by decide +kernel
theorem d_Re_toldCount_7 : decode c_Re_toldCount 7 = .ok (.ireturn, 1) := by decide +kernel
theorem d_Re_toldAt_0 : decode c_Re_toldAt 0 = .ok (.aload_n 0, 1) := by decide +kernel
theorem d_Re_toldAt_1 : decode c_Re_toldAt 1 = .ok (.getfield 20, 3) := by decide +kernel
theorem d_Re_toldAt_4 : decode c_Re_toldAt 4 = .ok (.iload_n 1, 1) := by decide +kernel
theorem d_Re_toldAt_5 : decode c_Re_toldAt 5 = .ok (.invokevirtual 40, 3) := by decide +kernel
theorem d_Re_toldAt_8 : decode c_Re_toldAt 8 = .ok (.ireturn, 1) := by decide +kernel
theorem d_Re_isFromBack_0 : decode c_Re_isFromBack 0 = .ok (.aload_n 0, 1) := by decide +kernel
theorem d_Re_isFromBack_1 : decode c_Re_isFromBack 1 = .ok (.getfield 23, 3) := by decide +kernel
theorem d_Re_isFromBack_4 : decode c_Re_isFromBack 4 = .ok (.ireturn, 1) := by decide +kernel
theorem d_Re_isReadable_0 : decode c_Re_isReadable 0 = .ok (.aload_n 0, 1) := by decide +kernel
theorem d_Re_isReadable_1 : decode c_Re_isReadable 1 = .ok (.getfield 20, 3) := by decide +kernel
theorem d_Re_isReadable_4 : decode c_Re_isReadable 4 = .ok (.invokevirtual 44, 3) := by decide +kernel
theorem d_Re_isReadable_7 : decode c_Re_isReadable 7 = .ok (.pop, 1) := by decide +kernel
theorem d_Re_isReadable_8 : decode c_Re_isReadable 8 = .ok (.aload_n 0, 1) := by decide +kernel
theorem d_Re_isReadable_9 : decode c_Re_isReadable 9 = .ok (.getfield 9, 3) := by decide +kernel
theorem d_Re_isReadable_12 : decode c_Re_isReadable 12 = .ok (.invokevirtual 36, 3) := by decide +kernel
theorem d_Re_isReadable_15 : decode c_Re_isReadable 15 = .ok (.bipush 59, 2) := by decide +kernel
theorem d_Re_isReadable_17 : decode c_Re_isReadable 17 = .ok (.if_icmp .ne 10, 3) := by decide +kernel
theorem d_Re_isReadable_20 : decode c_Re_isReadable 20 = .ok (.aload_n 0, 1) := by decide +kernel
theorem d_Re_isReadable_21 : decode c_Re_isReadable 21 = .ok (.invokevirtual 47, 3) := by decide +kernel
theorem d_Re_isReadable_24 : decode c_Re_isReadable 24 = .ok (.goto 7, 3) := by decide +kernel
theorem d_Re_isReadable_27 : decode c_Re_isReadable 27 = .ok (.aload_n 0, 1) := by decide +kernel
theorem d_Re_isReadable_28 : decode c_Re_isReadable 28 = .ok (.invokevirtual 51, 3) := by decide +kernel
theorem d_Re_isReadable_31 : decode c_Re_isReadable 31 = .ok (.istore_n 2, 1) := by decide +kernel
theorem d_Re_isReadable_32 : decode c_Re_isReadable 32 = .ok (.iload_n 2, 1) := by decide +kernel
theorem d_Re_isReadable_33 : decode c_Re_isReadable 33 = .ok (.ifCond .ne 11, 3) := by decide +kernel
theorem d_Re_isReadable_36 : decode c_Re_isReadable 36 = .ok (.aload_n 0, 1) := by decide +kernel
theorem d_Re_isReadable_37 : decode c_Re_isReadable 37 = .ok (.getfield 20, 3) := by decide +kernel
theorem d_Re_isReadable_40 : decode c_Re_isReadable 40 = .ok (.invokevirtual 44, 3) := by decide +kernel
theorem d_Re_isReadable_43 : decode c_Re_isReadable 43 = .ok (.pop, 1) := by decide +kernel
theorem d_Re_isReadable_44 : decode c_Re_isReadable 44 = .ok (.aload_n 0, 1) := by decide +kernel
theorem d_Re_isReadable_45 : decode c_Re_isReadable 45 = .ok (.iload_n 2, 1) := by decide +kernel
theorem d_Re_isReadable_46 : decode c_Re_isReadable 46 = .ok (.ifCond .eq 11, 3) := by decide +kernel
theorem d_Re_isReadable_49 : decode c_Re_isReadable 49 = .ok (.iload_n 1, 1) := by decide +kernel
theorem d_Re_isReadable_50 : decode c_Re_isReadable 50 = .ok (.ifCond .eq 7, 3) := by decide +kernel
theorem d_Re_isReadable_53 : decode c_Re_isReadable 53 = .ok (.iconst 1, 1) := by decide +kernel
theorem d_Re_isReadable_54 : decode c_Re_isReadable 54 = .ok (.goto 4, 3) := by decide +kernel
theorem d_Re_isReadable_57 : decode c_Re_isReadable 57 = .ok (.iconst 0, 1) := by decide +kernel
theorem d_Re_isReadable_58 : decode c_Re_isReadable 58 = .ok (.putfield 23, 3) := by decide +kernel
theorem d_Re_isReadable_61 : decode c_Re_isReadable 61 = .ok (.iload_n 2, 1) := by decide +kernel
theorem d_Re_isReadable_62 : decode c_Re_isReadable 62 = .ok (.ireturn, 1) := by decide +kernel
theorem d_Re_isThirteen_0 : decode c_Re_isThirteen 0 = .ok (.aload_n 0, 1) := by decide +kernel
theorem d_Re_isThirteen_1 : decode c_Re_isThirteen 1 = .ok (.invokevirtual 54, 3) := by decide +kernel
theorem d_Re_isThirteen_4 : decode c_Re_isThirteen 4 = .ok (.ifCond .eq 17, 3) := by decide +kernel
theorem d_Re_isThirteen_7 : decode c_Re_isThirteen 7 = .ok (.aload_n 0, 1) := by decide +kernel
theorem d_Re_isThirteen_8 : decode c_Re_isThirteen 8 = .ok (.invokevirtual 57, 3) := by decide +kernel
theorem d_Re_isThirteen_11 : decode c_Re_isThirteen 11 = .ok (.ifCond .eq 10, 3) := by decide +kernel
theorem d_Re_isThirteen_14 : decode c_Re_isThirteen 14 = .ok (.aload_n 0, 1) := by decide +kernel
theorem d_Re_isThirteen_15 : decode c_Re_isThirteen 15 = .ok (.invokevirtual 60, 3) := by decide +kernel
theorem d_Re_isThirteen_18 : decode c_Re_isThirteen 18 = .ok (.ifCond .ne 5, 3) := by decide +kernel
theorem d_Re_isThirteen_21 : decode c_Re_isThirteen 21 = .ok (.iconst 0, 1) := by decide +kernel
theorem d_Re_isThirteen_22 : decode c_Re_isThirteen 22 = .ok (.ireturn, 1) := by decide +kernel
theorem d_Re_isThirteen_23 : decode c_Re_isThirteen 23 = .ok (.iconst 0, 1) := by decide +kernel
theorem d_Re_isThirteen_24 : decode c_Re_isThirteen 24 = .ok (.istore_n 1, 1) := by decide +kernel
theorem d_Re_isThirteen_25 : decode c_Re_isThirteen 25 = .ok (.iconst 0, 1) := by decide +kernel
theorem d_Re_isThirteen_26 : decode c_Re_isThirteen 26 = .ok (.istore_n 2, 1) := by decide +kernel
theorem d_Re_isThirteen_27 : decode c_Re_isThirteen 27 = .ok (.iload_n 2, 1) := by decide +kernel
theorem d_Re_isThirteen_28 : decode c_Re_isThirteen 28 = .ok (.bipush 13, 2) := by decide +kernel
theorem d_Re_isThirteen_30 : decode c_Re_isThirteen 30 = .ok (.if_icmp .ge 28, 3) := by decide +kernel
theorem d_Re_isThirteen_33 : decode c_Re_isThirteen 33 = .ok (.iload_n 1, 1) := by decide +kernel
theorem d_Re_isThirteen_34 : decode c_Re_isThirteen 34 = .ok (.iload_n 2, 1) := by decide +kernel
theorem d_Re_isThirteen_35 : decode c_Re_isThirteen 35 = .ok (.invokestatic 65, 3) := by decide +kernel
theorem d_Re_isThirteen_38 : decode c_Re_isThirteen 38 = .ok (.aload_n 0, 1) := by decide +kernel
theorem d_Re_isThirteen_39 : decode c_Re_isThirteen 39 = .ok (.getfield 20, 3) := by decide +kernel
theorem d_Re_isThirteen_42 : decode c_Re_isThirteen 42 = .ok (.iload_n 2, 1) := by decide +kernel
theorem d_Re_isThirteen_43 : decode c_Re_isThirteen 43 = .ok (.invokevirtual 40, 3) := by decide +kernel
theorem d_Re_isThirteen_46 : decode c_Re_isThirteen 46 = .ok (.bipush 48, 2) := by decide +kernel
theorem d_Re_isThirteen_48 : decode c_Re_isThirteen 48 = .ok (.isub, 1) := by decide +kernel
theorem d_Re_isThirteen_49 : decode c_Re_isThirteen 49 = .ok (.imul, 1) := by decide +kernel
theorem d_Re_isThirteen_50 : decode c_Re_isThirteen 50 = .ok (.iadd, 1) := by decide +kernel
theorem d_Re_isThirteen_51 : decode c_Re_isThirteen 51 = .ok (.istore_n 1, 1) := by decide +kernel
theorem d_Re_isThirteen_52 : decode c_Re_isThirteen 52 = .ok (.iinc 2 1, 3) := by decide +kernel
theorem d_Re_isThirteen_55 : decode c_Re_isThirteen 55 = .ok (.goto (-28), 3) := by decide +kernel
theorem d_Re_isThirteen_58 : decode c_Re_isThirteen 58 = .ok (.iload_n 1, 1) := by decide +kernel
theorem d_Re_isThirteen_59 : decode c_Re_isThirteen 59 = .ok (.bipush 10, 2) := by decide +kernel
theorem d_Re_isThirteen_61 : decode c_Re_isThirteen 61 = .ok (.irem, 1) := by decide +kernel
theorem d_Re_isThirteen_62 : decode c_Re_isThirteen 62 = .ok (.ifCond .ne 7, 3) := by decide +kernel
theorem d_Re_isThirteen_65 : decode c_Re_isThirteen 65 = .ok (.iconst 1, 1) := by decide +kernel
theorem d_Re_isThirteen_66 : decode c_Re_isThirteen 66 = .ok (.goto 4, 3) := by decide +kernel
theorem d_Re_isThirteen_69 : decode c_Re_isThirteen 69 = .ok (.iconst 0, 1) := by decide +kernel
theorem d_Re_isThirteen_70 : decode c_Re_isThirteen 70 = .ok (.ireturn, 1) := by decide +kernel
theorem d_Re_areSidesAndMiddleRight_0 : decode c_Re_areSidesAndMiddleRight 0 = .ok (.aload_n 0, 1) := by decide +kernel
theorem d_Re_areSidesAndMiddleRight_1 : decode c_Re_areSidesAndMiddleRight 1 = .ok (.iconst 0, 1) := by decide +kernel
theorem d_Re_areSidesAndMiddleRight_2 : decode c_Re_areSidesAndMiddleRight 2 = .ok (.bipush 59, 2) := by decide +kernel
theorem d_Re_areSidesAndMiddleRight_4 : decode c_Re_areSidesAndMiddleRight 4 = .ok (.invokevirtual 68, 3) := by decide +kernel
theorem d_Re_areSidesAndMiddleRight_7 : decode c_Re_areSidesAndMiddleRight 7 = .ok (.istore_n 1, 1) := by decide +kernel
theorem d_Re_areSidesAndMiddleRight_8 : decode c_Re_areSidesAndMiddleRight 8 = .ok (.aload_n 0, 1) := by decide +kernel
theorem d_Re_areSidesAndMiddleRight_9 : decode c_Re_areSidesAndMiddleRight 9 = .ok (.iconst 0, 1) := by decide +kernel
theorem d_Re_areSidesAndMiddleRight_10 : decode c_Re_areSidesAndMiddleRight 10 = .ok (.iconst 3, 1) := by decide +kernel
theorem d_Re_areSidesAndMiddleRight_11 : decode c_Re_areSidesAndMiddleRight 11 = .ok (.bipush 95, 2) := by decide +kernel
theorem d_Re_areSidesAndMiddleRight_13 : decode c_Re_areSidesAndMiddleRight 13 = .ok (.iload_n 1, 1) := by decide +kernel
theorem d_Re_areSidesAndMiddleRight_14 : decode c_Re_areSidesAndMiddleRight 14 = .ok (.invokevirtual 74, 3) := by decide +kernel
theorem d_Re_areSidesAndMiddleRight_17 : decode c_Re_areSidesAndMiddleRight 17 = .ok (.bipush 111, 2) := by decide +kernel
theorem d_Re_areSidesAndMiddleRight_19 : decode c_Re_areSidesAndMiddleRight 19 = .ok (.if_icmp .ne 38, 3) := by decide +kernel
theorem d_Re_areSidesAndMiddleRight_22 : decode c_Re_areSidesAndMiddleRight 22 = .ok (.aload_n 0, 1) := by decide +kernel
theorem d_Re_areSidesAndMiddleRight_23 : decode c_Re_areSidesAndMiddleRight 23 = .ok (.bipush 27, 2) := by decide +kernel
theorem d_Re_areSidesAndMiddleRight_25 : decode c_Re_areSidesAndMiddleRight 25 = .ok (.iconst 5, 1) := by decide +kernel
theorem d_Re_areSidesAndMiddleRight_26 : decode c_Re_areSidesAndMiddleRight 26 = .ok (.bipush 95, 2) := by decide +kernel
theorem d_Re_areSidesAndMiddleRight_28 : decode c_Re_areSidesAndMiddleRight 28 = .ok (.iload_n 1, 1) := by decide +kernel
theorem d_Re_areSidesAndMiddleRight_29 : decode c_Re_areSidesAndMiddleRight 29 = .ok (.invokevirtual 74, 3) := by decide +kernel
theorem d_Re_areSidesAndMiddleRight_32 : decode c_Re_areSidesAndMiddleRight 32 = .ok (.sipush 11111, 3) := by decide +kernel
theorem d_Re_areSidesAndMiddleRight_35 : decode c_Re_areSidesAndMiddleRight 35 = .ok (.if_icmp .ne 22, 3) := by decide +kernel
theorem d_Re_areSidesAndMiddleRight_38 : decode c_Re_areSidesAndMiddleRight 38 = .ok (.aload_n 0, 1) := by decide +kernel
theorem d_Re_areSidesAndMiddleRight_39 : decode c_Re_areSidesAndMiddleRight 39 = .ok (.bipush 56, 2) := by decide +kernel
theorem d_Re_areSidesAndMiddleRight_41 : decode c_Re_areSidesAndMiddleRight 41 = .ok (.iconst 3, 1) := by decide +kernel
theorem d_Re_areSidesAndMiddleRight_42 : decode c_Re_areSidesAndMiddleRight 42 = .ok (.bipush 95, 2) := by decide +kernel
theorem d_Re_areSidesAndMiddleRight_44 : decode c_Re_areSidesAndMiddleRight 44 = .ok (.iload_n 1, 1) := by decide +kernel
theorem d_Re_areSidesAndMiddleRight_45 : decode c_Re_areSidesAndMiddleRight 45 = .ok (.invokevirtual 74, 3) := by decide +kernel
theorem d_Re_areSidesAndMiddleRight_48 : decode c_Re_areSidesAndMiddleRight 48 = .ok (.bipush 111, 2) := by decide +kernel
theorem d_Re_areSidesAndMiddleRight_50 : decode c_Re_areSidesAndMiddleRight 50 = .ok (.if_icmp .ne 7, 3) := by decide +kernel
theorem d_Re_areSidesAndMiddleRight_53 : decode c_Re_areSidesAndMiddleRight 53 = .ok (.iconst 1, 1) := by decide +kernel
theorem d_Re_areSidesAndMiddleRight_54 : decode c_Re_areSidesAndMiddleRight 54 = .ok (.goto 4, 3) := by decide +kernel
theorem d_Re_areSidesAndMiddleRight_57 : decode c_Re_areSidesAndMiddleRight 57 = .ok (.iconst 0, 1) := by decide +kernel
theorem d_Re_areSidesAndMiddleRight_58 : decode c_Re_areSidesAndMiddleRight 58 = .ok (.ireturn, 1) := by decide +kernel
theorem d_Re_isLeftHalf_0 : decode c_Re_isLeftHalf 0 = .ok (.aload_n 0, 1) := by decide +kernel
theorem d_Re_isLeftHalf_1 : decode c_Re_isLeftHalf 1 = .ok (.getfield 20, 3) := by decide +kernel
theorem d_Re_isLeftHalf_4 : decode c_Re_isLeftHalf 4 = .ok (.iconst (-1), 1) := by decide +kernel
theorem d_Re_isLeftHalf_5 : decode c_Re_isLeftHalf 5 = .ok (.invokevirtual 78, 3) := by decide +kernel
theorem d_Re_isLeftHalf_8 : decode c_Re_isLeftHalf 8 = .ok (.pop, 1) := by decide +kernel
theorem d_Re_isLeftHalf_9 : decode c_Re_isLeftHalf 9 = .ok (.iconst 0, 1) := by decide +kernel
theorem d_Re_isLeftHalf_10 : decode c_Re_isLeftHalf 10 = .ok (.istore_n 1, 1) := by decide +kernel
theorem d_Re_isLeftHalf_11 : decode c_Re_isLeftHalf 11 = .ok (.iconst 0, 1) := by decide +kernel
theorem d_Re_isLeftHalf_12 : decode c_Re_isLeftHalf 12 = .ok (.istore_n 2, 1) := by decide +kernel
theorem d_Re_isLeftHalf_13 : decode c_Re_isLeftHalf 13 = .ok (.iload_n 2, 1) := by decide +kernel
theorem d_Re_isLeftHalf_14 : decode c_Re_isLeftHalf 14 = .ok (.bipush 6, 2) := by decide +kernel
theorem d_Re_isLeftHalf_16 : decode c_Re_isLeftHalf 16 = .ok (.if_icmp .ge 88, 3) := by decide +kernel
theorem d_Re_isLeftHalf_19 : decode c_Re_isLeftHalf 19 = .ok (.aload_n 0, 1) := by decide +kernel
theorem d_Re_isLeftHalf_20 : decode c_Re_isLeftHalf 20 = .ok (.iconst 3, 1) := by decide +kernel
theorem d_Re_isLeftHalf_21 : decode c_Re_isLeftHalf 21 = .ok (.iconst 4, 1) := by decide +kernel
theorem d_Re_isLeftHalf_22 : decode c_Re_isLeftHalf 22 = .ok (.iload_n 2, 1) := by decide +kernel
theorem d_Re_isLeftHalf_23 : decode c_Re_isLeftHalf 23 = .ok (.imul, 1) := by decide +kernel
theorem d_Re_isLeftHalf_24 : decode c_Re_isLeftHalf 24 = .ok (.iadd, 1) := by decide +kernel
theorem d_Re_isLeftHalf_25 : decode c_Re_isLeftHalf 25 = .ok (.invokevirtual 82, 3) := by decide +kernel
theorem d_Re_isLeftHalf_28 : decode c_Re_isLeftHalf 28 = .ok (.istore_n 3, 1) := by decide +kernel
theorem d_Re_isLeftHalf_29 : decode c_Re_isLeftHalf 29 = .ok (.iload_n 3, 1) := by decide +kernel
theorem d_Re_isLeftHalf_30 : decode c_Re_isLeftHalf 30 = .ok (.invokestatic 85, 3) := by decide +kernel
theorem d_Re_isLeftHalf_33 : decode c_Re_isLeftHalf 33 = .ok (.istore 4, 2) := by decide +kernel
theorem d_Re_isLeftHalf_35 : decode c_Re_isLeftHalf 35 = .ok (.iload 4, 2) := by decide +kernel
theorem d_Re_isLeftHalf_37 : decode c_Re_isLeftHalf 37 = .ok (.iconst (-1), 1) := by decide +kernel
theorem d_Re_isLeftHalf_38 : decode c_Re_isLeftHalf 38 = .ok (.if_icmp .ne 7, 3) := by decide +kernel
theorem d_Re_isLeftHalf_41 : decode c_Re_isLeftHalf 41 = .ok (.iconst 1, 1) := by decide +kernel
theorem d_Re_isLeftHalf_42 : decode c_Re_isLeftHalf 42 = .ok (.goto 4, 3) := by decide +kernel
theorem d_Re_isLeftHalf_45 : decode c_Re_isLeftHalf 45 = .ok (.iconst 0, 1) := by decide +kernel
theorem d_Re_isLeftHalf_46 : decode c_Re_isLeftHalf 46 = .ok (.istore 5, 2) := by decide +kernel
theorem d_Re_isLeftHalf_48 : decode c_Re_isLeftHalf 48 = .ok (.iload 5, 2) := by decide +kernel
theorem d_Re_isLeftHalf_50 : decode c_Re_isLeftHalf 50 = .ok (.ifCond .eq 12, 3) := by decide +kernel
theorem d_Re_isLeftHalf_53 : decode c_Re_isLeftHalf 53 = .ok (.iload_n 3, 1) := by decide +kernel
theorem d_Re_isLeftHalf_54 : decode c_Re_isLeftHalf 54 = .ok (.invokestatic 88, 3) := by decide +kernel
theorem d_Re_isLeftHalf_57 : decode c_Re_isLeftHalf 57 = .ok (.invokestatic 85, 3) := by decide +kernel
theorem d_Re_isLeftHalf_60 : decode c_Re_isLeftHalf 60 = .ok (.istore 4, 2) := by decide +kernel
theorem d_Re_isLeftHalf_62 : decode c_Re_isLeftHalf 62 = .ok (.iload 4, 2) := by decide +kernel
theorem d_Re_isLeftHalf_64 : decode c_Re_isLeftHalf 64 = .ok (.iconst (-1), 1) := by decide +kernel
theorem d_Re_isLeftHalf_65 : decode c_Re_isLeftHalf 65 = .ok (.if_icmp .ne 5, 3) := by decide +kernel
theorem d_Re_isLeftHalf_68 : decode c_Re_isLeftHalf 68 = .ok (.iconst 0, 1) := by decide +kernel
theorem d_Re_isLeftHalf_69 : decode c_Re_isLeftHalf 69 = .ok (.ireturn, 1) := by decide +kernel
theorem d_Re_isLeftHalf_70 : decode c_Re_isLeftHalf 70 = .ok (.iconst 2, 1) := by decide +kernel
theorem d_Re_isLeftHalf_71 : decode c_Re_isLeftHalf 71 = .ok (.iload_n 1, 1) := by decide +kernel
theorem d_Re_isLeftHalf_72 : decode c_Re_isLeftHalf 72 = .ok (.imul, 1) := by decide +kernel
theorem d_Re_isLeftHalf_73 : decode c_Re_isLeftHalf 73 = .ok (.iload 5, 2) := by decide +kernel
theorem d_Re_isLeftHalf_75 : decode c_Re_isLeftHalf 75 = .ok (.ifCond .eq 7, 3) := by decide +kernel
theorem d_Re_isLeftHalf_78 : decode c_Re_isLeftHalf 78 = .ok (.iconst 1, 1) := by decide +kernel
theorem d_Re_isLeftHalf_79 : decode c_Re_isLeftHalf 79 = .ok (.goto 4, 3) := by decide +kernel
theorem d_Re_isLeftHalf_82 : decode c_Re_isLeftHalf 82 = .ok (.iconst 0, 1) := by decide +kernel
theorem d_Re_isLeftHalf_83 : decode c_Re_isLeftHalf 83 = .ok (.iadd, 1) := by decide +kernel
theorem d_Re_isLeftHalf_84 : decode c_Re_isLeftHalf 84 = .ok (.istore_n 1, 1) := by decide +kernel
theorem d_Re_isLeftHalf_85 : decode c_Re_isLeftHalf 85 = .ok (.aload_n 0, 1) := by decide +kernel
theorem d_Re_isLeftHalf_86 : decode c_Re_isLeftHalf 86 = .ok (.getfield 20, 3) := by decide +kernel
theorem d_Re_isLeftHalf_89 : decode c_Re_isLeftHalf 89 = .ok (.bipush 48, 2) := by decide +kernel
theorem d_Re_isLeftHalf_91 : decode c_Re_isLeftHalf 91 = .ok (.iload 4, 2) := by decide +kernel
theorem d_Re_isLeftHalf_93 : decode c_Re_isLeftHalf 93 = .ok (.iadd, 1) := by decide +kernel
theorem d_Re_isLeftHalf_94 : decode c_Re_isLeftHalf 94 = .ok (.invokevirtual 78, 3) := by decide +kernel
theorem d_Re_isLeftHalf_97 : decode c_Re_isLeftHalf 97 = .ok (.pop, 1) := by decide +kernel
theorem d_Re_isLeftHalf_98 : decode c_Re_isLeftHalf 98 = .ok (.iinc 2 1, 3) := by decide +kernel
theorem d_Re_isLeftHalf_101 : decode c_Re_isLeftHalf 101 = .ok (.goto (-88), 3) := by decide +kernel
theorem d_Re_isLeftHalf_104 : decode c_Re_isLeftHalf 104 = .ok (.iload_n 1, 1) := by decide +kernel
theorem d_Re_isLeftHalf_105 : decode c_Re_isLeftHalf 105 = .ok (.invokestatic 91, 3) := by decide +kernel
theorem d_Re_isLeftHalf_108 : decode c_Re_isLeftHalf 108 = .ok (.istore_n 2, 1) := by decide +kernel
theorem d_Re_isLeftHalf_109 : decode c_Re_isLeftHalf 109 = .ok (.aload_n 0, 1) := by decide +kernel
theorem d_Re_isLeftHalf_110 : decode c_Re_isLeftHalf 110 = .ok (.getfield 20, 3) := by decide +kernel
theorem d_Re_isLeftHalf_113 : decode c_Re_isLeftHalf 113 = .ok (.iconst 0, 1) := by decide +kernel
theorem d_Re_isLeftHalf_114 : decode c_Re_isLeftHalf 114 = .ok (.bipush 48, 2) := by decide +kernel
theorem d_Re_isLeftHalf_116 : decode c_Re_isLeftHalf 116 = .ok (.iload_n 2, 1) := by decide +kernel
theorem d_Re_isLeftHalf_117 : decode c_Re_isLeftHalf 117 = .ok (.iadd, 1) := by decide +kernel
theorem d_Re_isLeftHalf_118 : decode c_Re_isLeftHalf 118 = .ok (.invokevirtual 94, 3) := by decide +kernel
theorem d_Re_isLeftHalf_121 : decode c_Re_isLeftHalf 121 = .ok (.pop, 1) := by decide +kernel
theorem d_Re_isLeftHalf_122 : decode c_Re_isLeftHalf 122 = .ok (.iload_n 2, 1) := by decide +kernel
theorem d_Re_isLeftHalf_123 : decode c_Re_isLeftHalf 123 = .ok (.iconst (-1), 1) := by decide +kernel
theorem d_Re_isLeftHalf_124 : decode c_Re_isLeftHalf 124 = .ok (.if_icmp .eq 7, 3) := by decide +kernel
theorem d_Re_isLeftHalf_127 : decode c_Re_isLeftHalf 127 = .ok (.iconst 1, 1) := by decide +kernel
theorem d_Re_isLeftHalf_128 : decode c_Re_isLeftHalf 128 = .ok (.goto 4, 3) := by decide +kernel
theorem d_Re_isLeftHalf_131 : decode c_Re_isLeftHalf 131 = .ok (.iconst 0, 1) := by decide +kernel
theorem d_Re_isLeftHalf_132 : decode c_Re_isLeftHalf 132 = .ok (.ireturn, 1) := by decide +kernel
theorem d_Re_isRightHalf_0 : decode c_Re_isRightHalf 0 = .ok (.iconst 0, 1) := by decide +kernel
theorem d_Re_isRightHalf_1 : decode c_Re_isRightHalf 1 = .ok (.istore_n 1, 1) := by decide +kernel
theorem d_Re_isRightHalf_2 : decode c_Re_isRightHalf 2 = .ok (.iload_n 1, 1) := by decide +kernel
theorem d_Re_isRightHalf_3 : decode c_Re_isRightHalf 3 = .ok (.bipush 6, 2) := by decide +kernel
theorem d_Re_isRightHalf_5 : decode c_Re_isRightHalf 5 = .ok (.if_icmp .ge 42, 3) := by decide +kernel
theorem d_Re_isRightHalf_8 : decode c_Re_isRightHalf 8 = .ok (.aload_n 0, 1) := by decide +kernel
theorem d_Re_isRightHalf_9 : decode c_Re_isRightHalf 9 = .ok (.bipush 32, 2) := by decide +kernel
theorem d_Re_isRightHalf_11 : decode c_Re_isRightHalf 11 = .ok (.iconst 4, 1) := by decide +kernel
theorem d_Re_isRightHalf_12 : decode c_Re_isRightHalf 12 = .ok (.iload_n 1, 1) := by decide +kernel
theorem d_Re_isRightHalf_13 : decode c_Re_isRightHalf 13 = .ok (.imul, 1) := by decide +kernel
theorem d_Re_isRightHalf_14 : decode c_Re_isRightHalf 14 = .ok (.iadd, 1) := by decide +kernel
theorem d_Re_isRightHalf_15 : decode c_Re_isRightHalf 15 = .ok (.invokevirtual 82, 3) := by decide +kernel
theorem d_Re_isRightHalf_18 : decode c_Re_isRightHalf 18 = .ok (.invokestatic 85, 3) := by decide +kernel
theorem d_Re_isRightHalf_21 : decode c_Re_isRightHalf 21 = .ok (.istore_n 2, 1) := by decide +kernel
theorem d_Re_isRightHalf_22 : decode c_Re_isRightHalf 22 = .ok (.iload_n 2, 1) := by decide +kernel
theorem d_Re_isRightHalf_23 : decode c_Re_isRightHalf 23 = .ok (.iconst (-1), 1) := by decide +kernel
theorem d_Re_isRightHalf_24 : decode c_Re_isRightHalf 24 = .ok (.if_icmp .ne 5, 3) := by decide +kernel
theorem d_Re_isRightHalf_27 : decode c_Re_isRightHalf 27 = .ok (.iconst 0, 1) := by decide +kernel
theorem d_Re_isRightHalf_28 : decode c_Re_isRightHalf 28 = .ok (.ireturn, 1) := by decide +kernel
theorem d_Re_isRightHalf_29 : decode c_Re_isRightHalf 29 = .ok (.aload_n 0, 1) := by decide +kernel
theorem d_Re_isRightHalf_30 : decode c_Re_isRightHalf 30 = .ok (.getfield 20, 3) := by decide +kernel
theorem d_Re_isRightHalf_33 : decode c_Re_isRightHalf 33 = .ok (.bipush 48, 2) := by decide +kernel
theorem d_Re_isRightHalf_35 : decode c_Re_isRightHalf 35 = .ok (.iload_n 2, 1) := by decide +kernel
theorem d_Re_isRightHalf_36 : decode c_Re_isRightHalf 36 = .ok (.iadd, 1) := by decide +kernel
theorem d_Re_isRightHalf_37 : decode c_Re_isRightHalf 37 = .ok (.invokevirtual 78, 3) := by decide +kernel
theorem d_Re_isRightHalf_40 : decode c_Re_isRightHalf 40 = .ok (.pop, 1) := by decide +kernel
theorem d_Re_isRightHalf_41 : decode c_Re_isRightHalf 41 = .ok (.iinc 1 1, 3) := by decide +kernel
theorem d_Re_isRightHalf_44 : decode c_Re_isRightHalf 44 = .ok (.goto (-42), 3) := by decide +kernel
theorem d_Re_isRightHalf_47 : decode c_Re_isRightHalf 47 = .ok (.iconst 1, 1) := by decide +kernel
theorem d_Re_isRightHalf_48 : decode c_Re_isRightHalf 48 = .ok (.ireturn, 1) := by decide +kernel
theorem d_Re_isRow_0 : decode c_Re_isRow 0 = .ok (.aload_n 0, 1) := by decide +kernel
theorem d_Re_isRow_1 : decode c_Re_isRow 1 = .ok (.getfield 9, 3) := by decide +kernel
theorem d_Re_isRow_4 : decode c_Re_isRow 4 = .ok (.invokevirtual 36, 3) := by decide +kernel
theorem d_Re_isRow_7 : decode c_Re_isRow 7 = .ok (.bipush 7, 2) := by decide +kernel
theorem d_Re_isRow_9 : decode c_Re_isRow 9 = .ok (.isub, 1) := by decide +kernel
theorem d_Re_isRow_10 : decode c_Re_isRow 10 = .ok (.istore_n 1, 1) := by decide +kernel
theorem d_Re_isRow_11 : decode c_Re_isRow 11 = .ok (.iload_n 1, 1) := by decide +kernel
theorem d_Re_isRow_12 : decode c_Re_isRow 12 = .ok (.bipush 6, 2) := by decide +kernel
theorem d_Re_isRow_14 : decode c_Re_isRow 14 = .ok (.idiv, 1) := by decide +kernel
theorem d_Re_isRow_15 : decode c_Re_isRow 15 = .ok (.istore_n 2, 1) := by decide +kernel
theorem d_Re_isRow_16 : decode c_Re_isRow 16 = .ok (.iload_n 2, 1) := by decide +kernel
theorem d_Re_isRow_17 : decode c_Re_isRow 17 = .ok (.iconst 2, 1) := by decide +kernel
theorem d_Re_isRow_18 : decode c_Re_isRow 18 = .ok (.if_icmp .lt 19, 3) := by decide +kernel
theorem d_Re_isRow_21 : decode c_Re_isRow 21 = .ok (.iload_n 1, 1) := by decide +kernel
theorem d_Re_isRow_22 : decode c_Re_isRow 22 = .ok (.iload_n 2, 1) := by decide +kernel
theorem d_Re_isRow_23 : decode c_Re_isRow 23 = .ok (.bipush 6, 2) := by decide +kernel
theorem d_Re_isRow_25 : decode c_Re_isRow 25 = .ok (.imul, 1) := by decide +kernel
theorem d_Re_isRow_26 : decode c_Re_isRow 26 = .ok (.if_icmp .ne 11, 3) := by decide +kernel
theorem d_Re_isRow_29 : decode c_Re_isRow 29 = .ok (.aload_n 0, 1) := by decide +kernel
theorem d_Re_isRow_30 : decode c_Re_isRow 30 = .ok (.iload_n 1, 1) := by decide +kernel
theorem d_Re_isRow_31 : decode c_Re_isRow 31 = .ok (.invokevirtual 97, 3) := by decide +kernel
theorem d_Re_isRow_34 : decode c_Re_isRow 34 = .ok (.ifCond .ne 5, 3) := by decide +kernel
theorem d_Re_isRow_37 : decode c_Re_isRow 37 = .ok (.iconst 0, 1) := by decide +kernel
theorem d_Re_isRow_38 : decode c_Re_isRow 38 = .ok (.ireturn, 1) := by decide +kernel
theorem d_Re_isRow_39 : decode c_Re_isRow 39 = .ok (.aload_n 0, 1) := by decide +kernel
theorem d_Re_isRow_40 : decode c_Re_isRow 40 = .ok (.iconst 0, 1) := by decide +kernel
theorem d_Re_isRow_41 : decode c_Re_isRow 41 = .ok (.invokevirtual 100, 3) := by decide +kernel
theorem d_Re_isRow_44 : decode c_Re_isRow 44 = .ok (.istore_n 3, 1) := by decide +kernel
theorem d_Re_isRow_45 : decode c_Re_isRow 45 = .ok (.iload_n 3, 1) := by decide +kernel
theorem d_Re_isRow_46 : decode c_Re_isRow 46 = .ok (.invokestatic 103, 3) := by decide +kernel
theorem d_Re_isRow_49 : decode c_Re_isRow 49 = .ok (.ifCond .ne 5, 3) := by decide +kernel
theorem d_Re_isRow_52 : decode c_Re_isRow 52 = .ok (.iconst 0, 1) := by decide +kernel
theorem d_Re_isRow_53 : decode c_Re_isRow 53 = .ok (.ireturn, 1) := by decide +kernel
theorem d_Re_isRow_54 : decode c_Re_isRow 54 = .ok (.aload_n 0, 1) := by decide +kernel
theorem d_Re_isRow_55 : decode c_Re_isRow 55 = .ok (.iload_n 3, 1) := by decide +kernel
theorem d_Re_isRow_56 : decode c_Re_isRow 56 = .ok (.bipush 103, 2) := by decide +kernel
theorem d_Re_isRow_58 : decode c_Re_isRow 58 = .ok (.isub, 1) := by decide +kernel
theorem d_Re_isRow_59 : decode c_Re_isRow 59 = .ok (.putfield 29, 3) := by decide +kernel
theorem d_Re_isRow_62 : decode c_Re_isRow 62 = .ok (.aload_n 0, 1) := by decide +kernel
theorem d_Re_isRow_63 : decode c_Re_isRow 63 = .ok (.iconst 0, 1) := by decide +kernel
theorem d_Re_isRow_64 : decode c_Re_isRow 64 = .ok (.putfield 33, 3) := by decide +kernel
theorem d_Re_isRow_67 : decode c_Re_isRow 67 = .ok (.iload_n 3, 1) := by decide +kernel
theorem d_Re_isRow_68 : decode c_Re_isRow 68 = .ok (.istore 4, 2) := by decide +kernel
theorem d_Re_isRow_70 : decode c_Re_isRow 70 = .ok (.iconst 1, 1) := by decide +kernel
theorem d_Re_isRow_71 : decode c_Re_isRow 71 = .ok (.istore 5, 2) := by decide +kernel
theorem d_Re_isRow_73 : decode c_Re_isRow 73 = .ok (.iload 5, 2) := by decide +kernel
theorem d_Re_isRow_75 : decode c_Re_isRow 75 = .ok (.iload_n 2, 1) := by decide +kernel
theorem d_Re_isRow_76 : decode c_Re_isRow 76 = .ok (.iconst 1, 1) := by decide +kernel
theorem d_Re_isRow_77 : decode c_Re_isRow 77 = .ok (.isub, 1) := by decide +kernel
theorem d_Re_isRow_78 : decode c_Re_isRow 78 = .ok (.if_icmp .ge 47, 3) := by decide +kernel
theorem d_Re_isRow_81 : decode c_Re_isRow 81 = .ok (.aload_n 0, 1) := by decide +kernel
theorem d_Re_isRow_82 : decode c_Re_isRow 82 = .ok (.bipush 6, 2) := by decide +kernel
theorem d_Re_isRow_84 : decode c_Re_isRow 84 = .ok (.iload 5, 2) := by decide +kernel
theorem d_Re_isRow_86 : decode c_Re_isRow 86 = .ok (.imul, 1) := by decide +kernel
theorem d_Re_isRow_87 : decode c_Re_isRow 87 = .ok (.invokevirtual 100, 3) := by decide +kernel
theorem d_Re_isRow_90 : decode c_Re_isRow 90 = .ok (.istore 6, 2) := by decide +kernel
theorem d_Re_isRow_92 : decode c_Re_isRow 92 = .ok (.iload 6, 2) := by decide +kernel
theorem d_Re_isRow_94 : decode c_Re_isRow 94 = .ok (.iconst (-1), 1) := by decide +kernel
theorem d_Re_isRow_95 : decode c_Re_isRow 95 = .ok (.if_icmp .eq 12, 3) := by decide +kernel
theorem d_Re_isRow_98 : decode c_Re_isRow 98 = .ok (.aload_n 0, 1) := by decide +kernel
theorem d_Re_isRow_99 : decode c_Re_isRow 99 = .ok (.iload 6, 2) := by decide +kernel
theorem d_Re_isRow_101 : decode c_Re_isRow 101 = .ok (.invokevirtual 106, 3) := by decide +kernel
theorem d_Re_isRow_104 : decode c_Re_isRow 104 = .ok (.ifCond .ne 5, 3) := by decide +kernel
theorem d_Re_isRow_107 : decode c_Re_isRow 107 = .ok (.iconst 0, 1) := by decide +kernel
theorem d_Re_isRow_108 : decode c_Re_isRow 108 = .ok (.ireturn, 1) := by decide +kernel
theorem d_Re_isRow_109 : decode c_Re_isRow 109 = .ok (.iload 4, 2) := by decide +kernel
theorem d_Re_isRow_111 : decode c_Re_isRow 111 = .ok (.iload 5, 2) := by decide +kernel
theorem d_Re_isRow_113 : decode c_Re_isRow 113 = .ok (.iload 6, 2) := by decide +kernel
theorem d_Re_isRow_115 : decode c_Re_isRow 115 = .ok (.imul, 1) := by decide +kernel
theorem d_Re_isRow_116 : decode c_Re_isRow 116 = .ok (.iadd, 1) := by decide +kernel
theorem d_Re_isRow_117 : decode c_Re_isRow 117 = .ok (.istore 4, 2) := by decide +kernel
theorem d_Re_isRow_119 : decode c_Re_isRow 119 = .ok (.iinc 5 1, 3) := by decide +kernel
theorem d_Re_isRow_122 : decode c_Re_isRow 122 = .ok (.goto (-49), 3) := by decide +kernel
theorem d_Re_isRow_125 : decode c_Re_isRow 125 = .ok (.aload_n 0, 1) := by decide +kernel
theorem d_Re_isRow_126 : decode c_Re_isRow 126 = .ok (.getfield 33, 3) := by decide +kernel
theorem d_Re_isRow_129 : decode c_Re_isRow 129 = .ok (.ifCond .ne 23, 3) := by decide +kernel
theorem d_Re_isRow_132 : decode c_Re_isRow 132 = .ok (.aload_n 0, 1) := by decide +kernel
theorem d_Re_isRow_133 : decode c_Re_isRow 133 = .ok (.iload_n 1, 1) := by decide +kernel
theorem d_Re_isRow_134 : decode c_Re_isRow 134 = .ok (.bipush 6, 2) := by decide +kernel
theorem d_Re_isRow_136 : decode c_Re_isRow 136 = .ok (.isub, 1) := by decide +kernel
theorem d_Re_isRow_137 : decode c_Re_isRow 137 = .ok (.invokevirtual 100, 3) := by decide +kernel
theorem d_Re_isRow_140 : decode c_Re_isRow 140 = .ok (.iload 4, 2) := by decide +kernel
theorem d_Re_isRow_142 : decode c_Re_isRow 142 = .ok (.bipush 103, 2) := by decide +kernel
theorem d_Re_isRow_144 : decode c_Re_isRow 144 = .ok (.irem, 1) := by decide +kernel
theorem d_Re_isRow_145 : decode c_Re_isRow 145 = .ok (.if_icmp .ne 7, 3) := by decide +kernel
theorem d_Re_isRow_148 : decode c_Re_isRow 148 = .ok (.iconst 1, 1) := by decide +kernel
theorem d_Re_isRow_149 : decode c_Re_isRow 149 = .ok (.goto 4, 3) := by decide +kernel
theorem d_Re_isRow_152 : decode c_Re_isRow 152 = .ok (.iconst 0, 1) := by decide +kernel
theorem d_Re_isRow_153 : decode c_Re_isRow 153 = .ok (.ireturn, 1) := by decide +kernel
theorem d_Re_isTold_0 : decode c_Re_isTold 0 = .ok (.aload_n 0, 1) := by decide +kernel
theorem d_Re_isTold_1 : decode c_Re_isTold 1 = .ok (.getfield 33, 3) := by decide +kernel
theorem d_Re_isTold_4 : decode c_Re_isTold 4 = .ok (.ifCond .eq 41, 3) := by decide +kernel
theorem d_Re_isTold_7 : decode c_Re_isTold 7 = .ok (.aload_n 0, 1) := by decide +kernel
theorem d_Re_isTold_8 : decode c_Re_isTold 8 = .ok (.iconst 0, 1) := by decide +kernel
theorem d_Re_isTold_9 : decode c_Re_isTold 9 = .ok (.putfield 33, 3) := by decide +kernel
theorem d_Re_isTold_12 : decode c_Re_isTold 12 = .ok (.iload_n 1, 1) := by decide +kernel
theorem d_Re_isTold_13 : decode c_Re_isTold 13 = .ok (.bipush 95, 2) := by decide +kernel
theorem d_Re_isTold_15 : decode c_Re_isTold 15 = .ok (.if_icmp .gt 28, 3) := by decide +kernel
theorem d_Re_isTold_18 : decode c_Re_isTold 18 = .ok (.aload_n 0, 1) := by decide +kernel
theorem d_Re_isTold_19 : decode c_Re_isTold 19 = .ok (.getfield 20, 3) := by decide +kernel
theorem d_Re_isTold_22 : decode c_Re_isTold 22 = .ok (.aload_n 0, 1) := by decide +kernel
theorem d_Re_isTold_23 : decode c_Re_isTold 23 = .ok (.getfield 29, 3) := by decide +kernel
theorem d_Re_isTold_26 : decode c_Re_isTold 26 = .ok (.invokestatic 109, 3) := by decide +kernel
theorem d_Re_isTold_29 : decode c_Re_isTold 29 = .ok (.iload_n 1, 1) := by decide +kernel
theorem d_Re_isTold_30 : decode c_Re_isTold 30 = .ok (.invokestatic 112, 3) := by decide +kernel
theorem d_Re_isTold_33 : decode c_Re_isTold 33 = .ok (.invokevirtual 78, 3) := by decide +kernel
theorem d_Re_isTold_36 : decode c_Re_isTold 36 = .ok (.ifCond .eq 7, 3) := by decide +kernel
theorem d_Re_isTold_39 : decode c_Re_isTold 39 = .ok (.iconst 1, 1) := by decide +kernel
theorem d_Re_isTold_40 : decode c_Re_isTold 40 = .ok (.goto 4, 3) := by decide +kernel
theorem d_Re_isTold_43 : decode c_Re_isTold 43 = .ok (.iconst 0, 1) := by decide +kernel
theorem d_Re_isTold_44 : decode c_Re_isTold 44 = .ok (.ireturn, 1) := by decide +kernel
theorem d_Re_isTold_45 : decode c_Re_isTold 45 = .ok (.iload_n 1, 1) := by decide +kernel
theorem d_Re_isTold_46 : decode c_Re_isTold 46 = .ok (.bipush 102, 2) := by decide +kernel
theorem d_Re_isTold_48 : decode c_Re_isTold 48 = .ok (.if_icmp .ne 14, 3) := by decide +kernel
theorem d_Re_isTold_51 : decode c_Re_isTold 51 = .ok (.aload_n 0, 1) := by decide +kernel
theorem d_Re_isTold_52 : decode c_Re_isTold 52 = .ok (.getfield 20, 3) := by decide +kernel
theorem d_Re_isTold_55 : decode c_Re_isTold 55 = .ok (.sipush 128, 3) := by decide +kernel
theorem d_Re_isTold_58 : decode c_Re_isTold 58 = .ok (.invokevirtual 78, 3) := by decide +kernel
theorem d_Re_isTold_61 : decode c_Re_isTold 61 = .ok (.ireturn, 1) := by decide +kernel
theorem d_Re_isTold_62 : decode c_Re_isTold 62 = .ok (.aload_n 0, 1) := by decide +kernel
theorem d_Re_isTold_63 : decode c_Re_isTold 63 = .ok (.getfield 29, 3) := by decide +kernel
theorem d_Re_isTold_66 : decode c_Re_isTold 66 = .ok (.iconst 2, 1) := by decide +kernel
theorem d_Re_isTold_67 : decode c_Re_isTold 67 = .ok (.if_icmp .ne 49, 3) := by decide +kernel
theorem d_Re_isTold_70 : decode c_Re_isTold 70 = .ok (.iload_n 1, 1) := by decide +kernel
theorem d_Re_isTold_71 : decode c_Re_isTold 71 = .ok (.bipush 99, 2) := by decide +kernel
theorem d_Re_isTold_73 : decode c_Re_isTold 73 = .ok (.if_icmp .gt 43, 3) := by decide +kernel
theorem d_Re_isTold_76 : decode c_Re_isTold 76 = .ok (.aload_n 0, 1) := by decide +kernel
theorem d_Re_isTold_77 : decode c_Re_isTold 77 = .ok (.getfield 20, 3) := by decide +kernel
theorem d_Re_isTold_80 : decode c_Re_isTold 80 = .ok (.bipush 48, 2) := by decide +kernel
theorem d_Re_isTold_82 : decode c_Re_isTold 82 = .ok (.iload_n 1, 1) := by decide +kernel
theorem d_Re_isTold_83 : decode c_Re_isTold 83 = .ok (.bipush 10, 2) := by decide +kernel
theorem d_Re_isTold_85 : decode c_Re_isTold 85 = .ok (.idiv, 1) := by decide +kernel
theorem d_Re_isTold_86 : decode c_Re_isTold 86 = .ok (.iadd, 1) := by decide +kernel
theorem d_Re_isTold_87 : decode c_Re_isTold 87 = .ok (.invokevirtual 78, 3) := by decide +kernel
theorem d_Re_isTold_90 : decode c_Re_isTold 90 = .ok (.ifCond .eq 24, 3) := by decide +kernel
theorem d_Re_isTold_93 : decode c_Re_isTold 93 = .ok (.aload_n 0, 1) := by decide +kernel
theorem d_Re_isTold_94 : decode c_Re_isTold 94 = .ok (.getfield 20, 3) := by decide +kernel
theorem d_Re_isTold_97 : decode c_Re_isTold 97 = .ok (.bipush 48, 2) := by decide +kernel
theorem d_Re_isTold_99 : decode c_Re_isTold 99 = .ok (.iload_n 1, 1) := by decide +kernel
theorem d_Re_isTold_100 : decode c_Re_isTold 100 = .ok (.bipush 10, 2) := by decide +kernel
theorem d_Re_isTold_102 : decode c_Re_isTold 102 = .ok (.irem, 1) := by decide +kernel
theorem d_Re_isTold_103 : decode c_Re_isTold 103 = .ok (.iadd, 1) := by decide +kernel
theorem d_Re_isTold_104 : decode c_Re_isTold 104 = .ok (.invokevirtual 78, 3) := by decide +kernel
theorem d_Re_isTold_107 : decode c_Re_isTold 107 = .ok (.ifCond .eq 7, 3) := by decide +kernel
theorem d_Re_isTold_110 : decode c_Re_isTold 110 = .ok (.iconst 1, 1) := by decide +kernel
theorem d_Re_isTold_111 : decode c_Re_isTold 111 = .ok (.goto 4, 3) := by decide +kernel
theorem d_Re_isTold_114 : decode c_Re_isTold 114 = .ok (.iconst 0, 1) := by decide +kernel
theorem d_Re_isTold_115 : decode c_Re_isTold 115 = .ok (.ireturn, 1) := by decide +kernel
theorem d_Re_isTold_116 : decode c_Re_isTold 116 = .ok (.iload_n 1, 1) := by decide +kernel
theorem d_Re_isTold_117 : decode c_Re_isTold 117 = .ok (.bipush 95, 2) := by decide +kernel
theorem d_Re_isTold_119 : decode c_Re_isTold 119 = .ok (.if_icmp .gt 19, 3) := by decide +kernel
theorem d_Re_isTold_122 : decode c_Re_isTold 122 = .ok (.aload_n 0, 1) := by decide +kernel
theorem d_Re_isTold_123 : decode c_Re_isTold 123 = .ok (.getfield 20, 3) := by decide +kernel
theorem d_Re_isTold_126 : decode c_Re_isTold 126 = .ok (.aload_n 0, 1) := by decide +kernel
theorem d_Re_isTold_127 : decode c_Re_isTold 127 = .ok (.getfield 29, 3) := by decide +kernel
theorem d_Re_isTold_130 : decode c_Re_isTold 130 = .ok (.iload_n 1, 1) := by decide +kernel
theorem d_Re_isTold_131 : decode c_Re_isTold 131 = .ok (.invokestatic 112, 3) := by decide +kernel
theorem d_Re_isTold_134 : decode c_Re_isTold 134 = .ok (.invokevirtual 78, 3) := by decide +kernel
theorem d_Re_isTold_137 : decode c_Re_isTold 137 = .ok (.ireturn, 1) := by decide +kernel
theorem d_Re_isTold_138 : decode c_Re_isTold 138 = .ok (.iload_n 1, 1) := by decide +kernel
theorem d_Re_isTold_139 : decode c_Re_isTold 139 = .ok (.bipush 98, 2) := by decide +kernel
theorem d_Re_isTold_141 : decode c_Re_isTold 141 = .ok (.if_icmp .ne 10, 3) := by decide +kernel
theorem d_Re_isTold_144 : decode c_Re_isTold 144 = .ok (.aload_n 0, 1) := by decide +kernel
theorem d_Re_isTold_145 : decode c_Re_isTold 145 = .ok (.iconst 1, 1) := by decide +kernel
theorem d_Re_isTold_146 : decode c_Re_isTold 146 = .ok (.putfield 33, 3) := by decide +kernel
theorem d_Re_isTold_149 : decode c_Re_isTold 149 = .ok (.iconst 1, 1) := by decide +kernel
theorem d_Re_isTold_150 : decode c_Re_isTold 150 = .ok (.ireturn, 1) := by decide +kernel
theorem d_Re_isTold_151 : decode c_Re_isTold 151 = .ok (.aload_n 0, 1) := by decide +kernel
theorem d_Re_isTold_152 : decode c_Re_isTold 152 = .ok (.iload_n 1, 1) := by decide +kernel
theorem d_Re_isTold_153 : decode c_Re_isTold 153 = .ok (.invokevirtual 115, 3) := by decide +kernel
theorem d_Re_isTold_156 : decode c_Re_isTold 156 = .ok (.ireturn, 1) := by decide +kernel
theorem d_Re_isSwitched_0 : decode c_Re_isSwitched 0 = .ok (.aload_n 0, 1) := by decide +kernel
theorem d_Re_isSwitched_1 : decode c_Re_isSwitched 1 = .ok (.getfield 29, 3) := by decide +kernel
theorem d_Re_isSwitched_4 : decode c_Re_isSwitched 4 = .ok (.iload_n 1, 1) := by decide +kernel
theorem d_Re_isSwitched_5 : decode c_Re_isSwitched 5 = .ok (.invokestatic 118, 3) := by decide +kernel
theorem d_Re_isSwitched_8 : decode c_Re_isSwitched 8 = .ok (.istore_n 2, 1) := by decide +kernel
theorem d_Re_isSwitched_9 : decode c_Re_isSwitched 9 = .ok (.iload_n 2, 1) := by decide +kernel
theorem d_Re_isSwitched_10 : decode c_Re_isSwitched 10 = .ok (.iconst (-1), 1) := by decide +kernel
theorem d_Re_isSwitched_11 : decode c_Re_isSwitched 11 = .ok (.if_icmp .ne 5, 3) := by decide +kernel
theorem d_Re_isSwitched_14 : decode c_Re_isSwitched 14 = .ok (.iconst 0, 1) := by decide +kernel
theorem d_Re_isSwitched_15 : decode c_Re_isSwitched 15 = .ok (.ireturn, 1) := by decide +kernel
theorem d_Re_isSwitched_16 : decode c_Re_isSwitched 16 = .ok (.aload_n 0, 1) := by decide +kernel
theorem d_Re_isSwitched_17 : decode c_Re_isSwitched 17 = .ok (.iload_n 2, 1) := by decide +kernel
theorem d_Re_isSwitched_18 : decode c_Re_isSwitched 18 = .ok (.putfield 29, 3) := by decide +kernel
theorem d_Re_isSwitched_21 : decode c_Re_isSwitched 21 = .ok (.iconst 1, 1) := by decide +kernel
theorem d_Re_isSwitched_22 : decode c_Re_isSwitched 22 = .ok (.ireturn, 1) := by decide +kernel
theorem d_Re_figureCountsAt_0 : decode c_Re_figureCountsAt 0 = .ok (.aload_n 0, 1) := by decide +kernel
theorem d_Re_figureCountsAt_1 : decode c_Re_figureCountsAt 1 = .ok (.iload_n 1, 1) := by decide +kernel
theorem d_Re_figureCountsAt_2 : decode c_Re_figureCountsAt 2 = .ok (.iconst 4, 1) := by decide +kernel
theorem d_Re_figureCountsAt_3 : decode c_Re_figureCountsAt 3 = .ok (.invokevirtual 68, 3) := by decide +kernel
theorem d_Re_figureCountsAt_6 : decode c_Re_figureCountsAt 6 = .ok (.istore_n 2, 1) := by decide +kernel
theorem d_Re_figureCountsAt_7 : decode c_Re_figureCountsAt 7 = .ok (.aload_n 0, 1) := by decide +kernel
theorem d_Re_figureCountsAt_8 : decode c_Re_figureCountsAt 8 = .ok (.iload_n 1, 1) := by decide +kernel
theorem d_Re_figureCountsAt_9 : decode c_Re_figureCountsAt 9 = .ok (.iconst 4, 1) := by decide +kernel
theorem d_Re_figureCountsAt_10 : decode c_Re_figureCountsAt 10 = .ok (.bipush 7, 2) := by decide +kernel
theorem d_Re_figureCountsAt_12 : decode c_Re_figureCountsAt 12 = .ok (.iload_n 2, 1) := by decide +kernel
theorem d_Re_figureCountsAt_13 : decode c_Re_figureCountsAt 13 = .ok (.invokevirtual 74, 3) := by decide +kernel
theorem d_Re_figureCountsAt_16 : decode c_Re_figureCountsAt 16 = .ok (.ireturn, 1) := by decide +kernel
theorem d_Re_symbolAt_0 : decode c_Re_symbolAt 0 = .ok (.aload_n 0, 1) := by decide +kernel
theorem d_Re_symbolAt_1 : decode c_Re_symbolAt 1 = .ok (.iload_n 1, 1) := by decide +kernel
theorem d_Re_symbolAt_2 : decode c_Re_symbolAt 2 = .ok (.bipush 6, 2) := by decide +kernel
theorem d_Re_symbolAt_4 : decode c_Re_symbolAt 4 = .ok (.invokevirtual 68, 3) := by decide +kernel
theorem d_Re_symbolAt_7 : decode c_Re_symbolAt 7 = .ok (.istore_n 2, 1) := by decide +kernel
theorem d_Re_symbolAt_8 : decode c_Re_symbolAt 8 = .ok (.aload_n 0, 1) := by decide +kernel
theorem d_Re_symbolAt_9 : decode c_Re_symbolAt 9 = .ok (.iload_n 1, 1) := by decide +kernel
theorem d_Re_symbolAt_10 : decode c_Re_symbolAt 10 = .ok (.bipush 6, 2) := by decide +kernel
theorem d_Re_symbolAt_12 : decode c_Re_symbolAt 12 = .ok (.bipush 11, 2) := by decide +kernel
theorem d_Re_symbolAt_14 : decode c_Re_symbolAt 14 = .ok (.iload_n 2, 1) := by decide +kernel
theorem d_Re_symbolAt_15 : decode c_Re_symbolAt 15 = .ok (.invokevirtual 74, 3) := by decide +kernel
theorem d_Re_symbolAt_18 : decode c_Re_symbolAt 18 = .ok (.invokestatic 121, 3) := by decide +kernel
theorem d_Re_symbolAt_21 : decode c_Re_symbolAt 21 = .ok (.ireturn, 1) := by decide +kernel
theorem d_Re_isLastAt_0 : decode c_Re_isLastAt 0 = .ok (.aload_n 0, 1) := by decide +kernel
theorem d_Re_isLastAt_1 : decode c_Re_isLastAt 1 = .ok (.iload_n 1, 1) := by decide +kernel
theorem d_Re_isLastAt_2 : decode c_Re_isLastAt 2 = .ok (.bipush 7, 2) := by decide +kernel
theorem d_Re_isLastAt_4 : decode c_Re_isLastAt 4 = .ok (.invokevirtual 68, 3) := by decide +kernel
theorem d_Re_isLastAt_7 : decode c_Re_isLastAt 7 = .ok (.istore_n 2, 1) := by decide +kernel
theorem d_Re_isLastAt_8 : decode c_Re_isLastAt 8 = .ok (.aload_n 0, 1) := by decide +kernel
theorem d_Re_isLastAt_9 : decode c_Re_isLastAt 9 = .ok (.iload_n 1, 1) := by decide +kernel
theorem d_Re_isLastAt_10 : decode c_Re_isLastAt 10 = .ok (.bipush 7, 2) := by decide +kernel
theorem d_Re_isLastAt_12 : decode c_Re_isLastAt 12 = .ok (.bipush 13, 2) := by decide +kernel
theorem d_Re_isLastAt_14 : decode c_Re_isLastAt 14 = .ok (.iload_n 2, 1) := by decide +kernel
theorem d_Re_isLastAt_15 : decode c_Re_isLastAt 15 = .ok (.invokevirtual 74, 3) := by decide +kernel
theorem d_Re_isLastAt_18 : decode c_Re_isLastAt 18 = .ok (.ldc 124, 2) := by decide +kernel
theorem d_Re_isLastAt_20 : decode c_Re_isLastAt 20 = .ok (.if_icmp .ne 7, 3) := by decide +kernel
theorem d_Re_isLastAt_23 : decode c_Re_isLastAt 23 = .ok (.iconst 1, 1) := by decide +kernel
theorem d_Re_isLastAt_24 : decode c_Re_isLastAt 24 = .ok (.goto 4, 3) := by decide +kernel
theorem d_Re_isLastAt_27 : decode c_Re_isLastAt 27 = .ok (.iconst 0, 1) := by decide +kernel
theorem d_Re_isLastAt_28 : decode c_Re_isLastAt 28 = .ok (.ireturn, 1) := by decide +kernel
theorem d_Re_sumOf_0 : decode c_Re_sumOf 0 = .ok (.iconst 0, 1) := by decide +kernel
theorem d_Re_sumOf_1 : decode c_Re_sumOf 1 = .ok (.istore_n 3, 1) := by decide +kernel
theorem d_Re_sumOf_2 : decode c_Re_sumOf 2 = .ok (.iconst 0, 1) := by decide +kernel
theorem d_Re_sumOf_3 : decode c_Re_sumOf 3 = .ok (.istore 4, 2) := by decide +kernel
theorem d_Re_sumOf_5 : decode c_Re_sumOf 5 = .ok (.iload 4, 2) := by decide +kernel
theorem d_Re_sumOf_7 : decode c_Re_sumOf 7 = .ok (.iload_n 2, 1) := by decide +kernel
theorem d_Re_sumOf_8 : decode c_Re_sumOf 8 = .ok (.if_icmp .ge 23, 3) := by decide +kernel
theorem d_Re_sumOf_11 : decode c_Re_sumOf 11 = .ok (.iload_n 3, 1) := by decide +kernel
theorem d_Re_sumOf_12 : decode c_Re_sumOf 12 = .ok (.aload_n 0, 1) := by decide +kernel
theorem d_Re_sumOf_13 : decode c_Re_sumOf 13 = .ok (.getfield 9, 3) := by decide +kernel
theorem d_Re_sumOf_16 : decode c_Re_sumOf 16 = .ok (.iload_n 1, 1) := by decide +kernel
theorem d_Re_sumOf_17 : decode c_Re_sumOf 17 = .ok (.iload 4, 2) := by decide +kernel
theorem d_Re_sumOf_19 : decode c_Re_sumOf 19 = .ok (.iadd, 1) := by decide +kernel
theorem d_Re_sumOf_20 : decode c_Re_sumOf 20 = .ok (.invokevirtual 40, 3) := by decide +kernel
theorem d_Re_sumOf_23 : decode c_Re_sumOf 23 = .ok (.iadd, 1) := by decide +kernel
theorem d_Re_sumOf_24 : decode c_Re_sumOf 24 = .ok (.istore_n 3, 1) := by decide +kernel
theorem d_Re_sumOf_25 : decode c_Re_sumOf 25 = .ok (.iinc 4 1, 3) := by decide +kernel
theorem d_Re_sumOf_28 : decode c_Re_sumOf 28 = .ok (.goto (-23), 3) := by decide +kernel
theorem d_Re_sumOf_31 : decode c_Re_sumOf 31 = .ok (.iload_n 3, 1) := by decide +kernel
theorem d_Re_sumOf_32 : decode c_Re_sumOf 32 = .ok (.ireturn, 1) := by decide +kernel
theorem d_Re_countsOf_0 : decode c_Re_countsOf 0 = .ok (.iload 4, 2) := by decide +kernel
theorem d_Re_countsOf_2 : decode c_Re_countsOf 2 = .ok (.iconst 1, 1) := by decide +kernel
theorem d_Re_countsOf_3 : decode c_Re_countsOf 3 = .ok (.if_icmp .ge 5, 3) := by decide +kernel
theorem d_Re_countsOf_6 : decode c_Re_countsOf 6 = .ok (.iconst 0, 1) := by decide +kernel
theorem d_Re_countsOf_7 : decode c_Re_countsOf 7 = .ok (.ireturn, 1) := by decide +kernel
theorem d_Re_countsOf_8 : decode c_Re_countsOf 8 = .ok (.iconst 0, 1) := by decide +kernel
theorem d_Re_countsOf_9 : decode c_Re_countsOf 9 = .ok (.istore 5, 2) := by decide +kernel
theorem d_Re_countsOf_11 : decode c_Re_countsOf 11 = .ok (.iconst 0, 1) := by decide +kernel
theorem d_Re_countsOf_12 : decode c_Re_countsOf 12 = .ok (.istore 6, 2) := by decide +kernel
theorem d_Re_countsOf_14 : decode c_Re_countsOf 14 = .ok (.iload 6, 2) := by decide +kernel
theorem d_Re_countsOf_16 : decode c_Re_countsOf 16 = .ok (.iload_n 2, 1) := by decide +kernel
theorem d_Re_countsOf_17 : decode c_Re_countsOf 17 = .ok (.if_icmp .ge 58, 3) := by decide +kernel
theorem d_Re_countsOf_20 : decode c_Re_countsOf 20 = .ok (.iconst 2, 1) := by decide +kernel
theorem d_Re_countsOf_21 : decode c_Re_countsOf 21 = .ok (.iload_n 3, 1) := by decide +kernel
theorem d_Re_countsOf_22 : decode c_Re_countsOf 22 = .ok (.imul, 1) := by decide +kernel
theorem d_Re_countsOf_23 : decode c_Re_countsOf 23 = .ok (.aload_n 0, 1) := by decide +kernel
theorem d_Re_countsOf_24 : decode c_Re_countsOf 24 = .ok (.getfield 9, 3) := by decide +kernel
theorem d_Re_countsOf_27 : decode c_Re_countsOf 27 = .ok (.iload_n 1, 1) := by decide +kernel
theorem d_Re_countsOf_28 : decode c_Re_countsOf 28 = .ok (.iload 6, 2) := by decide +kernel
theorem d_Re_countsOf_30 : decode c_Re_countsOf 30 = .ok (.iadd, 1) := by decide +kernel
theorem d_Re_countsOf_31 : decode c_Re_countsOf 31 = .ok (.invokevirtual 40, 3) := by decide +kernel
theorem d_Re_countsOf_34 : decode c_Re_countsOf 34 = .ok (.imul, 1) := by decide +kernel
theorem d_Re_countsOf_35 : decode c_Re_countsOf 35 = .ok (.iload 4, 2) := by decide +kernel
theorem d_Re_countsOf_37 : decode c_Re_countsOf 37 = .ok (.iadd, 1) := by decide +kernel
theorem d_Re_countsOf_38 : decode c_Re_countsOf 38 = .ok (.iconst 2, 1) := by decide +kernel
theorem d_Re_countsOf_39 : decode c_Re_countsOf 39 = .ok (.iload 4, 2) := by decide +kernel
theorem d_Re_countsOf_41 : decode c_Re_countsOf 41 = .ok (.imul, 1) := by decide +kernel
theorem d_Re_countsOf_42 : decode c_Re_countsOf 42 = .ok (.idiv, 1) := by decide +kernel
theorem d_Re_countsOf_43 : decode c_Re_countsOf 43 = .ok (.istore 7, 2) := by decide +kernel
theorem d_Re_countsOf_45 : decode c_Re_countsOf 45 = .ok (.iload 7, 2) := by decide +kernel
theorem d_Re_countsOf_47 : decode c_Re_countsOf 47 = .ok (.iconst 1, 1) := by decide +kernel
theorem d_Re_countsOf_48 : decode c_Re_countsOf 48 = .ok (.if_icmp .lt 9, 3) := by decide +kernel
theorem d_Re_countsOf_51 : decode c_Re_countsOf 51 = .ok (.iload 7, 2) := by decide +kernel
theorem d_Re_countsOf_53 : decode c_Re_countsOf 53 = .ok (.iconst 4, 1) := by decide +kernel
theorem d_Re_countsOf_54 : decode c_Re_countsOf 54 = .ok (.if_icmp .le 5, 3) := by decide +kernel
theorem d_Re_countsOf_57 : decode c_Re_countsOf 57 = .ok (.iconst 0, 1) := by decide +kernel
theorem d_Re_countsOf_58 : decode c_Re_countsOf 58 = .ok (.ireturn, 1) := by decide +kernel
theorem d_Re_countsOf_59 : decode c_Re_countsOf 59 = .ok (.bipush 10, 2) := by decide +kernel
theorem d_Re_countsOf_61 : decode c_Re_countsOf 61 = .ok (.iload 5, 2) := by decide +kernel
theorem d_Re_countsOf_63 : decode c_Re_countsOf 63 = .ok (.imul, 1) := by decide +kernel
theorem d_Re_countsOf_64 : decode c_Re_countsOf 64 = .ok (.iload 7, 2) := by decide +kernel
theorem d_Re_countsOf_66 : decode c_Re_countsOf 66 = .ok (.iadd, 1) := by decide +kernel
theorem d_Re_countsOf_67 : decode c_Re_countsOf 67 = .ok (.istore 5, 2) := by decide +kernel
theorem d_Re_countsOf_69 : decode c_Re_countsOf 69 = .ok (.iinc 6 1, 3) := by decide +kernel
theorem d_Re_countsOf_72 : decode c_Re_countsOf 72 = .ok (.goto (-58), 3) := by decide +kernel
theorem d_Re_countsOf_75 : decode c_Re_countsOf 75 = .ok (.iload 5, 2) := by decide +kernel
theorem d_Re_countsOf_77 : decode c_Re_countsOf 77 = .ok (.ireturn, 1) := by decide +kernel
