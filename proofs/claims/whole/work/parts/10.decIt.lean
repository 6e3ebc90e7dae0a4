theorem d_It_init_0 : decode c_It_init 0 = .ok (.aload_n 0, 1) := by decide +kernel
theorem d_It_init_1 : decode c_It_init 1 = .ok (.invokespecial 3, 3) := by decide +kernel
theorem d_It_init_4 : decode c_It_init 4 = .ok (.aload_n 0, 1) := by decide +kernel
theorem d_It_init_5 : decode c_It_init 5 = .ok (.iload_n 1, 1) := by decide +kernel
theorem d_It_init_6 : decode c_It_init 6 = .ok (.iconst 0, 1) := by decide +kernel
theorem d_It_init_7 : decode c_It_init 7 = .ok (.invokestatic 9, 3) := by decide +kernel
theorem d_It_init_10 : decode c_It_init 10 = .ok (.newarray .int, 2) := by decide +kernel
theorem d_It_init_12 : decode c_It_init 12 = .ok (.putfield 15, 3) := by decide +kernel
theorem d_It_init_15 : decode c_It_init 15 = .ok (.aload_n 0, 1) := by decide +kernel
theorem d_It_init_16 : decode c_It_init 16 = .ok (.iconst 0, 1) := by decide +kernel
theorem d_It_init_17 : decode c_It_init 17 = .ok (.putfield 21, 3) := by decide +kernel
theorem d_It_init_20 : decode c_It_init 20 = .ok (.return_, 1) := by decide +kernel
theorem d_It_count_0 : decode c_It_count 0 = .ok (.aload_n 0, 1) := by decide +kernel
theorem d_It_count_1 : decode c_It_count 1 = .ok (.getfield 21, 3) := by decide +kernel
theorem d_It_count_4 : decode c_It_count 4 = .ok (.ireturn, 1) := by decide +kernel
theorem d_It_hasRoomFor_0 : decode c_It_hasRoomFor 0 = .ok (.iload_n 1, 1) := by decide +kernel
theorem d_It_hasRoomFor_1 : decode c_It_hasRoomFor 1 = .ok (.aload_n 0, 1) := by decide +kernel
theorem d_It_hasRoomFor_2 : decode c_It_hasRoomFor 2 = .ok (.getfield 15, 3) := by decide +kernel
theorem d_It_hasRoomFor_5 : decode c_It_hasRoomFor 5 = .ok (.arraylength, 1) := by decide +kernel
theorem d_It_hasRoomFor_6 : decode c_It_hasRoomFor 6 = .ok (.aload_n 0, 1) := by decide +kernel
theorem d_It_hasRoomFor_7 : decode c_It_hasRoomFor 7 = .ok (.getfield 21, 3) := by decide +kernel
theorem d_It_hasRoomFor_10 : decode c_It_hasRoomFor 10 = .ok (.isub, 1) := by decide +kernel
theorem d_It_hasRoomFor_11 : decode c_It_hasRoomFor 11 = .ok (.if_icmp .gt 7, 3) := by decide +kernel
theorem d_It_hasRoomFor_14 : decode c_It_hasRoomFor 14 = .ok (.iconst 1, 1) := by decide +kernel
theorem d_It_hasRoomFor_15 : decode c_It_hasRoomFor 15 = .ok (.goto 4, 3) := by decide +kernel
theorem d_It_hasRoomFor_18 : decode c_It_hasRoomFor 18 = .ok (.iconst 0, 1) := by decide +kernel
theorem d_It_hasRoomFor_19 : decode c_It_hasRoomFor 19 = .ok (.ireturn, 1) := by decide +kernel
theorem d_It_at_0 : decode c_It_at 0 = .ok (.iload_n 1, 1) := by decide +kernel
theorem d_It_at_1 : decode c_It_at 1 = .ok (.ifCond .lt 29, 3) := by decide +kernel
theorem d_It_at_4 : decode c_It_at 4 = .ok (.iload_n 1, 1) := by decide +kernel
theorem d_It_at_5 : decode c_It_at 5 = .ok (.aload_n 0, 1) := by decide +kernel
theorem d_It_at_6 : decode c_It_at 6 = .ok (.getfield 21, 3) := by decide +kernel
theorem d_It_at_9 : decode c_It_at 9 = .ok (.if_icmp .ge 21, 3) := by decide +kernel
theorem d_It_at_12 : decode c_It_at 12 = .ok (.iload_n 1, 1) := by decide +kernel
theorem d_It_at_13 : decode c_It_at 13 = .ok (.aload_n 0, 1) := by decide +kernel
theorem d_It_at_14 : decode c_It_at 14 = .ok (.getfield 15, 3) := by decide +kernel
theorem d_It_at_17 : decode c_It_at 17 = .ok (.arraylength, 1) := by decide +kernel
theorem d_It_at_18 : decode c_It_at 18 = .ok (.if_icmp .ge 12, 3) := by decide +kernel
theorem d_It_at_21 : decode c_It_at 21 = .ok (.aload_n 0, 1) := by decide +kernel
theorem d_It_at_22 : decode c_It_at 22 = .ok (.getfield 15, 3) := by decide +kernel
theorem d_It_at_25 : decode c_It_at 25 = .ok (.iload_n 1, 1) := by decide +kernel
theorem d_It_at_26 : decode c_It_at 26 = .ok (.iaload, 1) := by decide +kernel
theorem d_It_at_27 : decode c_It_at 27 = .ok (.goto 4, 3) := by decide +kernel
theorem d_It_at_30 : decode c_It_at 30 = .ok (.iconst (-1), 1) := by decide +kernel
theorem d_It_at_31 : decode c_It_at 31 = .ok (.ireturn, 1) := by decide +kernel
theorem d_It_add_0 : decode c_It_add 0 = .ok (.aload_n 0, 1) := by decide +kernel
theorem d_It_add_1 : decode c_It_add 1 = .ok (.getfield 21, 3) := by decide +kernel
theorem d_It_add_4 : decode c_It_add 4 = .ok (.ifCond .lt 15, 3) := by decide +kernel
theorem d_It_add_7 : decode c_It_add 7 = .ok (.aload_n 0, 1) := by decide +kernel
theorem d_It_add_8 : decode c_It_add 8 = .ok (.getfield 21, 3) := by decide +kernel
theorem d_It_add_11 : decode c_It_add 11 = .ok (.aload_n 0, 1) := by decide +kernel
theorem d_It_add_12 : decode c_It_add 12 = .ok (.getfield 15, 3) := by decide +kernel
theorem d_It_add_15 : decode c_It_add 15 = .ok (.arraylength, 1) := by decide +kernel
theorem d_It_add_16 : decode c_It_add 16 = .ok (.if_icmp .lt 5, 3) := by decide +kernel
theorem d_It_add_19 : decode c_It_add 19 = .ok (.iconst 0, 1) := by decide +kernel
theorem d_It_add_20 : decode c_It_add 20 = .ok (.ireturn, 1) := by decide +kernel
theorem d_It_add_21 : decode c_It_add 21 = .ok (.aload_n 0, 1) := by decide +kernel
theorem d_It_add_22 : decode c_It_add 22 = .ok (.getfield 15, 3) := by decide +kernel
theorem d_It_add_25 : decode c_It_add 25 = .ok (.aload_n 0, 1) := by decide +kernel
theorem d_It_add_26 : decode c_It_add 26 = .ok (.getfield 21, 3) := by decide +kernel
theorem d_It_add_29 : decode c_It_add 29 = .ok (.iload_n 1, 1) := by decide +kernel
theorem d_It_add_30 : decode c_It_add 30 = .ok (.iastore, 1) := by decide +kernel
theorem d_It_add_31 : decode c_It_add 31 = .ok (.aload_n 0, 1) := by decide +kernel
theorem d_It_add_32 : decode c_It_add 32 = .ok (.dup, 1) := by decide +kernel
theorem d_It_add_33 : decode c_It_add 33 = .ok (.getfield 21, 3) := by decide +kernel
theorem d_It_add_36 : decode c_It_add 36 = .ok (.iconst 1, 1) := by decide +kernel
theorem d_It_add_37 : decode c_It_add 37 = .ok (.iadd, 1) := by decide +kernel
theorem d_It_add_38 : decode c_It_add 38 = .ok (.putfield 21, 3) := by decide +kernel
theorem d_It_add_41 : decode c_It_add 41 = .ok (.iconst 1, 1) := by decide +kernel
theorem d_It_add_42 : decode c_It_add 42 = .ok (.ireturn, 1) := by decide +kernel
theorem d_It_replace_0 : decode c_It_replace 0 = .ok (.iload_n 1, 1) := by decide +kernel
theorem d_It_replace_1 : decode c_It_replace 1 = .ok (.ifCond .lt 20, 3) := by decide +kernel
theorem d_It_replace_4 : decode c_It_replace 4 = .ok (.iload_n 1, 1) := by decide +kernel
theorem d_It_replace_5 : decode c_It_replace 5 = .ok (.aload_n 0, 1) := by decide +kernel
theorem d_It_replace_6 : decode c_It_replace 6 = .ok (.getfield 21, 3) := by decide +kernel
theorem d_It_replace_9 : decode c_It_replace 9 = .ok (.if_icmp .ge 12, 3) := by decide +kernel
theorem d_It_replace_12 : decode c_It_replace 12 = .ok (.iload_n 1, 1) := by decide +kernel
theorem d_It_replace_13 : decode c_It_replace 13 = .ok (.aload_n 0, 1) := by decide +kernel
theorem d_It_replace_14 : decode c_It_replace 14 = .ok (.getfield 15, 3) := by decide +kernel
theorem d_It_replace_17 : decode c_It_replace 17 = .ok (.arraylength, 1) := by decide +kernel
theorem d_It_replace_18 : decode c_It_replace 18 = .ok (.if_icmp .lt 5, 3) := by decide +kernel
theorem d_It_replace_21 : decode c_It_replace 21 = .ok (.iconst (-1), 1) := by decide +kernel
theorem d_It_replace_22 : decode c_It_replace 22 = .ok (.ireturn, 1) := by decide +kernel
theorem d_It_replace_23 : decode c_It_replace 23 = .ok (.aload_n 0, 1) := by decide +kernel
theorem d_It_replace_24 : decode c_It_replace 24 = .ok (.getfield 15, 3) := by decide +kernel
theorem d_It_replace_27 : decode c_It_replace 27 = .ok (.iload_n 1, 1) := by decide +kernel
theorem d_It_replace_28 : decode c_It_replace 28 = .ok (.iaload, 1) := by decide +kernel
theorem d_It_replace_29 : decode c_It_replace 29 = .ok (.istore_n 3, 1) := by decide +kernel
theorem d_It_replace_30 : decode c_It_replace 30 = .ok (.aload_n 0, 1) := by decide +kernel
theorem d_It_replace_31 : decode c_It_replace 31 = .ok (.getfield 15, 3) := by decide +kernel
theorem d_It_replace_34 : decode c_It_replace 34 = .ok (.iload_n 1, 1) := by decide +kernel
theorem d_It_replace_35 : decode c_It_replace 35 = .ok (.iload_n 2, 1) := by decide +kernel
theorem d_It_replace_36 : decode c_It_replace 36 = .ok (.iastore, 1) := by decide +kernel
theorem d_It_replace_37 : decode c_It_replace 37 = .ok (.iload_n 3, 1) := by decide +kernel
theorem d_It_replace_38 : decode c_It_replace 38 = .ok (.ireturn, 1) := by decide +kernel
theorem d_It_empty_0 : decode c_It_empty 0 = .ok (.aload_n 0, 1) := by decide +kernel
theorem d_It_empty_1 : decode c_It_empty 1 = .ok (.getfield 21, 3) := by decide +kernel
theorem d_It_empty_4 : decode c_It_empty 4 = .ok (.istore_n 1, 1) := by decide +kernel
theorem d_It_empty_5 : decode c_It_empty 5 = .ok (.aload_n 0, 1) := by decide +kernel
theorem d_It_empty_6 : decode c_It_empty 6 = .ok (.iconst 0, 1) := by decide +kernel
theorem d_It_empty_7 : decode c_It_empty 7 = .ok (.putfield 21, 3) := by decide +kernel
theorem d_It_empty_10 : decode c_It_empty 10 = .ok (.iload_n 1, 1) := by decide +kernel
theorem d_It_empty_11 : decode c_It_empty 11 = .ok (.ireturn, 1) := by decide +kernel
theorem d_It_reverse_0 : decode c_It_reverse 0 = .ok (.iconst 0, 1) := by decide +kernel
theorem d_It_reverse_1 : decode c_It_reverse 1 = .ok (.istore_n 1, 1) := by decide +kernel
theorem d_It_reverse_2 : decode c_It_reverse 2 = .ok (.iload_n 1, 1) := by decide +kernel
theorem d_It_reverse_3 : decode c_It_reverse 3 = .ok (.aload_n 0, 1) := by decide +kernel
theorem d_It_reverse_4 : decode c_It_reverse 4 = .ok (.getfield 21, 3) := by decide +kernel
theorem d_It_reverse_7 : decode c_It_reverse 7 = .ok (.iconst 2, 1) := by decide +kernel
theorem d_It_reverse_8 : decode c_It_reverse 8 = .ok (.idiv, 1) := by decide +kernel
theorem d_It_reverse_9 : decode c_It_reverse 9 = .ok (.if_icmp .ge 32, 3) := by decide +kernel
theorem d_It_reverse_12 : decode c_It_reverse 12 = .ok (.aload_n 0, 1) := by decide +kernel
theorem d_It_reverse_13 : decode c_It_reverse 13 = .ok (.iload_n 1, 1) := by decide +kernel
theorem d_It_reverse_14 : decode c_It_reverse 14 = .ok (.aload_n 0, 1) := by decide +kernel
theorem d_It_reverse_15 : decode c_It_reverse 15 = .ok (.aload_n 0, 1) := by decide +kernel
theorem d_It_reverse_16 : decode c_It_reverse 16 = .ok (.getfield 21, 3) := by decide +kernel
theorem d_It_reverse_19 : decode c_It_reverse 19 = .ok (.iconst 1, 1) := by decide +kernel
theorem d_It_reverse_20 : decode c_It_reverse 20 = .ok (.isub, 1) := by decide +kernel
theorem d_It_reverse_21 : decode c_It_reverse 21 = .ok (.iload_n 1, 1) := by decide +kernel
theorem d_It_reverse_22 : decode c_It_reverse 22 = .ok (.isub, 1) := by decide +kernel
theorem d_It_reverse_23 : decode c_It_reverse 23 = .ok (.aload_n 0, 1) := by decide +kernel
theorem d_It_reverse_24 : decode c_It_reverse 24 = .ok (.iload_n 1, 1) := by decide +kernel
theorem d_It_reverse_25 : decode c_It_reverse 25 = .ok (.invokevirtual 25, 3) := by decide +kernel
theorem d_It_reverse_28 : decode c_It_reverse 28 = .ok (.invokevirtual 29, 3) := by decide +kernel
theorem d_It_reverse_31 : decode c_It_reverse 31 = .ok (.invokevirtual 29, 3) := by decide +kernel
theorem d_It_reverse_34 : decode c_It_reverse 34 = .ok (.pop, 1) := by decide +kernel
theorem d_It_reverse_35 : decode c_It_reverse 35 = .ok (.iinc 1 1, 3) := by decide +kernel
theorem d_It_reverse_38 : decode c_It_reverse 38 = .ok (.goto (-36), 3) := by decide +kernel
theorem d_It_reverse_41 : decode c_It_reverse 41 = .ok (.return_, 1) := by decide +kernel
