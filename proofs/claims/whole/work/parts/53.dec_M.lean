theorem d_M_init_0 : decode b_M_init 0 = .ok (.aload_n 0, 1) := by decide +kernel
theorem d_M_init_1 : decode b_M_init 1 = .ok (.invokespecial 3, 3) := by decide +kernel
theorem d_M_init_4 : decode b_M_init 4 = .ok (.aload_n 0, 1) := by decide +kernel
theorem d_M_init_5 : decode b_M_init 5 = .ok (.bipush 72, 2) := by decide +kernel
theorem d_M_init_7 : decode b_M_init 7 = .ok (.newarray .int, 2) := by decide +kernel
theorem d_M_init_9 : decode b_M_init 9 = .ok (.putfield 9, 3) := by decide +kernel
theorem d_M_init_12 : decode b_M_init 12 = .ok (.aload_n 0, 1) := by decide +kernel
theorem d_M_init_13 : decode b_M_init 13 = .ok (.iconst 0, 1) := by decide +kernel
theorem d_M_init_14 : decode b_M_init 14 = .ok (.putfield 15, 3) := by decide +kernel
theorem d_M_init_17 : decode b_M_init 17 = .ok (.return_, 1) := by decide +kernel
theorem d_M_empty_0 : decode b_M_empty 0 = .ok (.aload_n 0, 1) := by decide +kernel
theorem d_M_empty_1 : decode b_M_empty 1 = .ok (.iconst 0, 1) := by decide +kernel
theorem d_M_empty_2 : decode b_M_empty 2 = .ok (.putfield 15, 3) := by decide +kernel
theorem d_M_empty_5 : decode b_M_empty 5 = .ok (.return_, 1) := by decide +kernel
theorem d_M_rows_0 : decode b_M_rows 0 = .ok (.aload_n 0, 1) := by decide +kernel
theorem d_M_rows_1 : decode b_M_rows 1 = .ok (.getfield 15, 3) := by decide +kernel
theorem d_M_rows_4 : decode b_M_rows 4 = .ok (.ireturn, 1) := by decide +kernel
theorem d_M_has_0 : decode b_M_has 0 = .ok (.iload_n 1, 1) := by decide +kernel
theorem d_M_has_1 : decode b_M_has 1 = .ok (.ifCond .lt 15, 3) := by decide +kernel
theorem d_M_has_4 : decode b_M_has 4 = .ok (.iload_n 1, 1) := by decide +kernel
theorem d_M_has_5 : decode b_M_has 5 = .ok (.aload_n 0, 1) := by decide +kernel
theorem d_M_has_6 : decode b_M_has 6 = .ok (.getfield 15, 3) := by decide +kernel
theorem d_M_has_9 : decode b_M_has 9 = .ok (.if_icmp .ge 7, 3) := by decide +kernel
theorem d_M_has_12 : decode b_M_has 12 = .ok (.iconst 1, 1) := by decide +kernel
theorem d_M_has_13 : decode b_M_has 13 = .ok (.goto 4, 3) := by decide +kernel
theorem d_M_has_16 : decode b_M_has 16 = .ok (.iconst 0, 1) := by decide +kernel
theorem d_M_has_17 : decode b_M_has 17 = .ok (.ireturn, 1) := by decide +kernel
theorem d_M_isFull_0 : decode b_M_isFull 0 = .ok (.aload_n 0, 1) := by decide +kernel
theorem d_M_isFull_1 : decode b_M_isFull 1 = .ok (.getfield 15, 3) := by decide +kernel
theorem d_M_isFull_4 : decode b_M_isFull 4 = .ok (.bipush 24, 2) := by decide +kernel
theorem d_M_isFull_6 : decode b_M_isFull 6 = .ok (.if_icmp .lt 7, 3) := by decide +kernel
theorem d_M_isFull_9 : decode b_M_isFull 9 = .ok (.iconst 1, 1) := by decide +kernel
theorem d_M_isFull_10 : decode b_M_isFull 10 = .ok (.goto 4, 3) := by decide +kernel
theorem d_M_isFull_13 : decode b_M_isFull 13 = .ok (.iconst 0, 1) := by decide +kernel
theorem d_M_isFull_14 : decode b_M_isFull 14 = .ok (.ireturn, 1) := by decide +kernel
theorem d_M_add_0 : decode b_M_add 0 = .ok (.aload_n 0, 1) := by decide +kernel
theorem d_M_add_1 : decode b_M_add 1 = .ok (.invokevirtual 19, 3) := by decide +kernel
theorem d_M_add_4 : decode b_M_add 4 = .ok (.ifCond .eq 5, 3) := by decide +kernel
theorem d_M_add_7 : decode b_M_add 7 = .ok (.iconst (-1), 1) := by decide +kernel
theorem d_M_add_8 : decode b_M_add 8 = .ok (.ireturn, 1) := by decide +kernel
theorem d_M_add_9 : decode b_M_add 9 = .ok (.aload_n 0, 1) := by decide +kernel
theorem d_M_add_10 : decode b_M_add 10 = .ok (.getfield 9, 3) := by decide +kernel
theorem d_M_add_13 : decode b_M_add 13 = .ok (.aload_n 0, 1) := by decide +kernel
theorem d_M_add_14 : decode b_M_add 14 = .ok (.getfield 15, 3) := by decide +kernel
theorem d_M_add_17 : decode b_M_add 17 = .ok (.iconst 3, 1) := by decide +kernel
theorem d_M_add_18 : decode b_M_add 18 = .ok (.imul, 1) := by decide +kernel
theorem d_M_add_19 : decode b_M_add 19 = .ok (.iconst 0, 1) := by decide +kernel
theorem d_M_add_20 : decode b_M_add 20 = .ok (.iadd, 1) := by decide +kernel
theorem d_M_add_21 : decode b_M_add 21 = .ok (.iload_n 1, 1) := by decide +kernel
theorem d_M_add_22 : decode b_M_add 22 = .ok (.iastore, 1) := by decide +kernel
theorem d_M_add_23 : decode b_M_add 23 = .ok (.aload_n 0, 1) := by decide +kernel
theorem d_M_add_24 : decode b_M_add 24 = .ok (.getfield 9, 3) := by decide +kernel
theorem d_M_add_27 : decode b_M_add 27 = .ok (.aload_n 0, 1) := by decide +kernel
theorem d_M_add_28 : decode b_M_add 28 = .ok (.getfield 15, 3) := by decide +kernel
theorem d_M_add_31 : decode b_M_add 31 = .ok (.iconst 3, 1) := by decide +kernel
theorem d_M_add_32 : decode b_M_add 32 = .ok (.imul, 1) := by decide +kernel
theorem d_M_add_33 : decode b_M_add 33 = .ok (.iconst 1, 1) := by decide +kernel
theorem d_M_add_34 : decode b_M_add 34 = .ok (.iadd, 1) := by decide +kernel
theorem d_M_add_35 : decode b_M_add 35 = .ok (.iload_n 2, 1) := by decide +kernel
theorem d_M_add_36 : decode b_M_add 36 = .ok (.iastore, 1) := by decide +kernel
theorem d_M_add_37 : decode b_M_add 37 = .ok (.aload_n 0, 1) := by decide +kernel
theorem d_M_add_38 : decode b_M_add 38 = .ok (.getfield 9, 3) := by decide +kernel
theorem d_M_add_41 : decode b_M_add 41 = .ok (.aload_n 0, 1) := by decide +kernel
theorem d_M_add_42 : decode b_M_add 42 = .ok (.getfield 15, 3) := by decide +kernel
theorem d_M_add_45 : decode b_M_add 45 = .ok (.iconst 3, 1) := by decide +kernel
theorem d_M_add_46 : decode b_M_add 46 = .ok (.imul, 1) := by decide +kernel
theorem d_M_add_47 : decode b_M_add 47 = .ok (.iconst 2, 1) := by decide +kernel
theorem d_M_add_48 : decode b_M_add 48 = .ok (.iadd, 1) := by decide +kernel
theorem d_M_add_49 : decode b_M_add 49 = .ok (.iload_n 3, 1) := by decide +kernel
theorem d_M_add_50 : decode b_M_add 50 = .ok (.iastore, 1) := by decide +kernel
theorem d_M_add_51 : decode b_M_add 51 = .ok (.aload_n 0, 1) := by decide +kernel
theorem d_M_add_52 : decode b_M_add 52 = .ok (.dup, 1) := by decide +kernel
theorem d_M_add_53 : decode b_M_add 53 = .ok (.getfield 15, 3) := by decide +kernel
theorem d_M_add_56 : decode b_M_add 56 = .ok (.iconst 1, 1) := by decide +kernel
theorem d_M_add_57 : decode b_M_add 57 = .ok (.iadd, 1) := by decide +kernel
theorem d_M_add_58 : decode b_M_add 58 = .ok (.putfield 15, 3) := by decide +kernel
theorem d_M_add_61 : decode b_M_add 61 = .ok (.aload_n 0, 1) := by decide +kernel
theorem d_M_add_62 : decode b_M_add 62 = .ok (.getfield 15, 3) := by decide +kernel
theorem d_M_add_65 : decode b_M_add 65 = .ok (.iconst 1, 1) := by decide +kernel
theorem d_M_add_66 : decode b_M_add 66 = .ok (.isub, 1) := by decide +kernel
theorem d_M_add_67 : decode b_M_add 67 = .ok (.ireturn, 1) := by decide +kernel
theorem d_M_part_0 : decode b_M_part 0 = .ok (.aload_n 0, 1) := by decide +kernel
theorem d_M_part_1 : decode b_M_part 1 = .ok (.iload_n 1, 1) := by decide +kernel
theorem d_M_part_2 : decode b_M_part 2 = .ok (.invokevirtual 23, 3) := by decide +kernel
theorem d_M_part_5 : decode b_M_part 5 = .ok (.ifCond .eq 12, 3) := by decide +kernel
theorem d_M_part_8 : decode b_M_part 8 = .ok (.iload_n 2, 1) := by decide +kernel
theorem d_M_part_9 : decode b_M_part 9 = .ok (.ifCond .lt 8, 3) := by decide +kernel
theorem d_M_part_12 : decode b_M_part 12 = .ok (.iload_n 2, 1) := by decide +kernel
theorem d_M_part_13 : decode b_M_part 13 = .ok (.iconst 3, 1) := by decide +kernel
theorem d_M_part_14 : decode b_M_part 14 = .ok (.if_icmp .lt 6, 3) := by decide +kernel
theorem d_M_part_17 : decode b_M_part 17 = .ok (.bipush (-2), 2) := by decide +kernel
theorem d_M_part_19 : decode b_M_part 19 = .ok (.ireturn, 1) := by decide +kernel
theorem d_M_part_20 : decode b_M_part 20 = .ok (.aload_n 0, 1) := by decide +kernel
theorem d_M_part_21 : decode b_M_part 21 = .ok (.getfield 9, 3) := by decide +kernel
theorem d_M_part_24 : decode b_M_part 24 = .ok (.iload_n 1, 1) := by decide +kernel
theorem d_M_part_25 : decode b_M_part 25 = .ok (.iconst 3, 1) := by decide +kernel
theorem d_M_part_26 : decode b_M_part 26 = .ok (.imul, 1) := by decide +kernel
theorem d_M_part_27 : decode b_M_part 27 = .ok (.iload_n 2, 1) := by decide +kernel
theorem d_M_part_28 : decode b_M_part 28 = .ok (.iadd, 1) := by decide +kernel
theorem d_M_part_29 : decode b_M_part 29 = .ok (.iaload, 1) := by decide +kernel
theorem d_M_part_30 : decode b_M_part 30 = .ok (.ireturn, 1) := by decide +kernel
