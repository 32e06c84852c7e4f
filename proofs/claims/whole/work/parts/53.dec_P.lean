theorem d_P_init_0 : decode b_P_init 0 = .ok (.aload_n 0, 1) := by decide +kernel
theorem d_P_init_1 : decode b_P_init 1 = .ok (.invokespecial 3, 3) := by decide +kernel
theorem d_P_init_4 : decode b_P_init 4 = .ok (.aload_n 0, 1) := by decide +kernel
theorem d_P_init_5 : decode b_P_init 5 = .ok (.iload_n 1, 1) := by decide +kernel
theorem d_P_init_6 : decode b_P_init 6 = .ok (.putfield 9, 3) := by decide +kernel
theorem d_P_init_9 : decode b_P_init 9 = .ok (.aload_n 0, 1) := by decide +kernel
theorem d_P_init_10 : decode b_P_init 10 = .ok (.iload_n 1, 1) := by decide +kernel
theorem d_P_init_11 : decode b_P_init 11 = .ok (.bipush 24, 2) := by decide +kernel
theorem d_P_init_13 : decode b_P_init 13 = .ok (.imul, 1) := by decide +kernel
theorem d_P_init_14 : decode b_P_init 14 = .ok (.newarray .int, 2) := by decide +kernel
theorem d_P_init_16 : decode b_P_init 16 = .ok (.putfield 15, 3) := by decide +kernel
theorem d_P_init_19 : decode b_P_init 19 = .ok (.aload_n 0, 1) := by decide +kernel
theorem d_P_init_20 : decode b_P_init 20 = .ok (.iconst 0, 1) := by decide +kernel
theorem d_P_init_21 : decode b_P_init 21 = .ok (.putfield 19, 3) := by decide +kernel
theorem d_P_init_24 : decode b_P_init 24 = .ok (.return_, 1) := by decide +kernel
theorem d_P_mostOf_0 : decode b_P_mostOf 0 = .ok (.iload_n 0, 1) := by decide +kernel
theorem d_P_mostOf_1 : decode b_P_mostOf 1 = .ok (.bipush 8, 2) := by decide +kernel
theorem d_P_mostOf_3 : decode b_P_mostOf 3 = .ok (.if_icmp .ge 7, 3) := by decide +kernel
theorem d_P_mostOf_6 : decode b_P_mostOf 6 = .ok (.iconst 1, 1) := by decide +kernel
theorem d_P_mostOf_7 : decode b_P_mostOf 7 = .ok (.goto 17, 3) := by decide +kernel
theorem d_P_mostOf_10 : decode b_P_mostOf 10 = .ok (.iload_n 0, 1) := by decide +kernel
theorem d_P_mostOf_11 : decode b_P_mostOf 11 = .ok (.bipush 16, 2) := by decide +kernel
theorem d_P_mostOf_13 : decode b_P_mostOf 13 = .ok (.if_icmp .ge 9, 3) := by decide +kernel
theorem d_P_mostOf_16 : decode b_P_mostOf 16 = .ok (.sipush 255, 3) := by decide +kernel
theorem d_P_mostOf_19 : decode b_P_mostOf 19 = .ok (.goto 5, 3) := by decide +kernel
theorem d_P_mostOf_22 : decode b_P_mostOf 22 = .ok (.ldc 22, 2) := by decide +kernel
theorem d_P_mostOf_24 : decode b_P_mostOf 24 = .ok (.ireturn, 1) := by decide +kernel
theorem d_P_empty_0 : decode b_P_empty 0 = .ok (.aload_n 0, 1) := by decide +kernel
theorem d_P_empty_1 : decode b_P_empty 1 = .ok (.iconst 0, 1) := by decide +kernel
theorem d_P_empty_2 : decode b_P_empty 2 = .ok (.putfield 19, 3) := by decide +kernel
theorem d_P_empty_5 : decode b_P_empty 5 = .ok (.return_, 1) := by decide +kernel
theorem d_P_rows_0 : decode b_P_rows 0 = .ok (.aload_n 0, 1) := by decide +kernel
theorem d_P_rows_1 : decode b_P_rows 1 = .ok (.getfield 19, 3) := by decide +kernel
theorem d_P_rows_4 : decode b_P_rows 4 = .ok (.ireturn, 1) := by decide +kernel
theorem d_P_has_0 : decode b_P_has 0 = .ok (.iload_n 1, 1) := by decide +kernel
theorem d_P_has_1 : decode b_P_has 1 = .ok (.ifCond .lt 15, 3) := by decide +kernel
theorem d_P_has_4 : decode b_P_has 4 = .ok (.iload_n 1, 1) := by decide +kernel
theorem d_P_has_5 : decode b_P_has 5 = .ok (.aload_n 0, 1) := by decide +kernel
theorem d_P_has_6 : decode b_P_has 6 = .ok (.getfield 19, 3) := by decide +kernel
theorem d_P_has_9 : decode b_P_has 9 = .ok (.if_icmp .ge 7, 3) := by decide +kernel
theorem d_P_has_12 : decode b_P_has 12 = .ok (.iconst 1, 1) := by decide +kernel
theorem d_P_has_13 : decode b_P_has 13 = .ok (.goto 4, 3) := by decide +kernel
theorem d_P_has_16 : decode b_P_has 16 = .ok (.iconst 0, 1) := by decide +kernel
theorem d_P_has_17 : decode b_P_has 17 = .ok (.ireturn, 1) := by decide +kernel
theorem d_P_add_0 : decode b_P_add 0 = .ok (.aload_n 0, 1) := by decide +kernel
theorem d_P_add_1 : decode b_P_add 1 = .ok (.getfield 19, 3) := by decide +kernel
theorem d_P_add_4 : decode b_P_add 4 = .ok (.aload_n 0, 1) := by decide +kernel
theorem d_P_add_5 : decode b_P_add 5 = .ok (.getfield 9, 3) := by decide +kernel
theorem d_P_add_8 : decode b_P_add 8 = .ok (.if_icmp .lt 5, 3) := by decide +kernel
theorem d_P_add_11 : decode b_P_add 11 = .ok (.iconst (-1), 1) := by decide +kernel
theorem d_P_add_12 : decode b_P_add 12 = .ok (.ireturn, 1) := by decide +kernel
theorem d_P_add_13 : decode b_P_add 13 = .ok (.iconst 0, 1) := by decide +kernel
theorem d_P_add_14 : decode b_P_add 14 = .ok (.istore_n 1, 1) := by decide +kernel
theorem d_P_add_15 : decode b_P_add 15 = .ok (.iload_n 1, 1) := by decide +kernel
theorem d_P_add_16 : decode b_P_add 16 = .ok (.bipush 24, 2) := by decide +kernel
theorem d_P_add_18 : decode b_P_add 18 = .ok (.if_icmp .ge 24, 3) := by decide +kernel
theorem d_P_add_21 : decode b_P_add 21 = .ok (.aload_n 0, 1) := by decide +kernel
theorem d_P_add_22 : decode b_P_add 22 = .ok (.getfield 15, 3) := by decide +kernel
theorem d_P_add_25 : decode b_P_add 25 = .ok (.aload_n 0, 1) := by decide +kernel
theorem d_P_add_26 : decode b_P_add 26 = .ok (.getfield 19, 3) := by decide +kernel
theorem d_P_add_29 : decode b_P_add 29 = .ok (.bipush 24, 2) := by decide +kernel
theorem d_P_add_31 : decode b_P_add 31 = .ok (.imul, 1) := by decide +kernel
theorem d_P_add_32 : decode b_P_add 32 = .ok (.iload_n 1, 1) := by decide +kernel
theorem d_P_add_33 : decode b_P_add 33 = .ok (.iadd, 1) := by decide +kernel
theorem d_P_add_34 : decode b_P_add 34 = .ok (.iconst (-1), 1) := by decide +kernel
theorem d_P_add_35 : decode b_P_add 35 = .ok (.iastore, 1) := by decide +kernel
theorem d_P_add_36 : decode b_P_add 36 = .ok (.iinc 1 1, 3) := by decide +kernel
theorem d_P_add_39 : decode b_P_add 39 = .ok (.goto (-24), 3) := by decide +kernel
theorem d_P_add_42 : decode b_P_add 42 = .ok (.aload_n 0, 1) := by decide +kernel
theorem d_P_add_43 : decode b_P_add 43 = .ok (.dup, 1) := by decide +kernel
theorem d_P_add_44 : decode b_P_add 44 = .ok (.getfield 19, 3) := by decide +kernel
theorem d_P_add_47 : decode b_P_add 47 = .ok (.iconst 1, 1) := by decide +kernel
theorem d_P_add_48 : decode b_P_add 48 = .ok (.iadd, 1) := by decide +kernel
theorem d_P_add_49 : decode b_P_add 49 = .ok (.putfield 19, 3) := by decide +kernel
theorem d_P_add_52 : decode b_P_add 52 = .ok (.aload_n 0, 1) := by decide +kernel
theorem d_P_add_53 : decode b_P_add 53 = .ok (.getfield 19, 3) := by decide +kernel
theorem d_P_add_56 : decode b_P_add 56 = .ok (.iconst 1, 1) := by decide +kernel
theorem d_P_add_57 : decode b_P_add 57 = .ok (.isub, 1) := by decide +kernel
theorem d_P_add_58 : decode b_P_add 58 = .ok (.ireturn, 1) := by decide +kernel
theorem d_P_get_0 : decode b_P_get 0 = .ok (.aload_n 0, 1) := by decide +kernel
theorem d_P_get_1 : decode b_P_get 1 = .ok (.iload_n 1, 1) := by decide +kernel
theorem d_P_get_2 : decode b_P_get 2 = .ok (.invokevirtual 23, 3) := by decide +kernel
theorem d_P_get_5 : decode b_P_get 5 = .ok (.ifCond .eq 13, 3) := by decide +kernel
theorem d_P_get_8 : decode b_P_get 8 = .ok (.iload_n 2, 1) := by decide +kernel
theorem d_P_get_9 : decode b_P_get 9 = .ok (.ifCond .lt 9, 3) := by decide +kernel
theorem d_P_get_12 : decode b_P_get 12 = .ok (.iload_n 2, 1) := by decide +kernel
theorem d_P_get_13 : decode b_P_get 13 = .ok (.bipush 24, 2) := by decide +kernel
theorem d_P_get_15 : decode b_P_get 15 = .ok (.if_icmp .lt 6, 3) := by decide +kernel
theorem d_P_get_18 : decode b_P_get 18 = .ok (.bipush (-2), 2) := by decide +kernel
theorem d_P_get_20 : decode b_P_get 20 = .ok (.ireturn, 1) := by decide +kernel
theorem d_P_get_21 : decode b_P_get 21 = .ok (.aload_n 0, 1) := by decide +kernel
theorem d_P_get_22 : decode b_P_get 22 = .ok (.getfield 15, 3) := by decide +kernel
theorem d_P_get_25 : decode b_P_get 25 = .ok (.iload_n 1, 1) := by decide +kernel
theorem d_P_get_26 : decode b_P_get 26 = .ok (.bipush 24, 2) := by decide +kernel
theorem d_P_get_28 : decode b_P_get 28 = .ok (.imul, 1) := by decide +kernel
theorem d_P_get_29 : decode b_P_get 29 = .ok (.iload_n 2, 1) := by decide +kernel
theorem d_P_get_30 : decode b_P_get 30 = .ok (.iadd, 1) := by decide +kernel
theorem d_P_get_31 : decode b_P_get 31 = .ok (.iaload, 1) := by decide +kernel
theorem d_P_get_32 : decode b_P_get 32 = .ok (.ireturn, 1) := by decide +kernel
theorem d_P_put_0 : decode b_P_put 0 = .ok (.aload_n 0, 1) := by decide +kernel
theorem d_P_put_1 : decode b_P_put 1 = .ok (.iload_n 1, 1) := by decide +kernel
theorem d_P_put_2 : decode b_P_put 2 = .ok (.invokevirtual 23, 3) := by decide +kernel
theorem d_P_put_5 : decode b_P_put 5 = .ok (.ifCond .eq 13, 3) := by decide +kernel
theorem d_P_put_8 : decode b_P_put 8 = .ok (.iload_n 2, 1) := by decide +kernel
theorem d_P_put_9 : decode b_P_put 9 = .ok (.ifCond .lt 9, 3) := by decide +kernel
theorem d_P_put_12 : decode b_P_put 12 = .ok (.iload_n 2, 1) := by decide +kernel
theorem d_P_put_13 : decode b_P_put 13 = .ok (.bipush 24, 2) := by decide +kernel
theorem d_P_put_15 : decode b_P_put 15 = .ok (.if_icmp .lt 5, 3) := by decide +kernel
theorem d_P_put_18 : decode b_P_put 18 = .ok (.iconst 0, 1) := by decide +kernel
theorem d_P_put_19 : decode b_P_put 19 = .ok (.ireturn, 1) := by decide +kernel
theorem d_P_put_20 : decode b_P_put 20 = .ok (.iload_n 3, 1) := by decide +kernel
theorem d_P_put_21 : decode b_P_put 21 = .ok (.iconst (-1), 1) := by decide +kernel
theorem d_P_put_22 : decode b_P_put 22 = .ok (.if_icmp .lt 11, 3) := by decide +kernel
theorem d_P_put_25 : decode b_P_put 25 = .ok (.iload_n 3, 1) := by decide +kernel
theorem d_P_put_26 : decode b_P_put 26 = .ok (.iload_n 2, 1) := by decide +kernel
theorem d_P_put_27 : decode b_P_put 27 = .ok (.invokestatic 27, 3) := by decide +kernel
theorem d_P_put_30 : decode b_P_put 30 = .ok (.if_icmp .le 5, 3) := by decide +kernel
theorem d_P_put_33 : decode b_P_put 33 = .ok (.iconst 0, 1) := by decide +kernel
theorem d_P_put_34 : decode b_P_put 34 = .ok (.ireturn, 1) := by decide +kernel
theorem d_P_put_35 : decode b_P_put 35 = .ok (.aload_n 0, 1) := by decide +kernel
theorem d_P_put_36 : decode b_P_put 36 = .ok (.getfield 15, 3) := by decide +kernel
theorem d_P_put_39 : decode b_P_put 39 = .ok (.iload_n 1, 1) := by decide +kernel
theorem d_P_put_40 : decode b_P_put 40 = .ok (.bipush 24, 2) := by decide +kernel
theorem d_P_put_42 : decode b_P_put 42 = .ok (.imul, 1) := by decide +kernel
theorem d_P_put_43 : decode b_P_put 43 = .ok (.iload_n 2, 1) := by decide +kernel
theorem d_P_put_44 : decode b_P_put 44 = .ok (.iadd, 1) := by decide +kernel
theorem d_P_put_45 : decode b_P_put 45 = .ok (.iload_n 3, 1) := by decide +kernel
theorem d_P_put_46 : decode b_P_put 46 = .ok (.iastore, 1) := by decide +kernel
theorem d_P_put_47 : decode b_P_put 47 = .ok (.iconst 1, 1) := by decide +kernel
theorem d_P_put_48 : decode b_P_put 48 = .ok (.ireturn, 1) := by decide +kernel
theorem d_P_held_0 : decode b_P_held 0 = .ok (.iconst 0, 1) := by decide +kernel
theorem d_P_held_1 : decode b_P_held 1 = .ok (.istore_n 2, 1) := by decide +kernel
theorem d_P_held_2 : decode b_P_held 2 = .ok (.iconst 0, 1) := by decide +kernel
theorem d_P_held_3 : decode b_P_held 3 = .ok (.istore_n 3, 1) := by decide +kernel
theorem d_P_held_4 : decode b_P_held 4 = .ok (.aload_n 0, 1) := by decide +kernel
theorem d_P_held_5 : decode b_P_held 5 = .ok (.iload_n 1, 1) := by decide +kernel
theorem d_P_held_6 : decode b_P_held 6 = .ok (.invokevirtual 23, 3) := by decide +kernel
theorem d_P_held_9 : decode b_P_held 9 = .ok (.ifCond .eq 33, 3) := by decide +kernel
theorem d_P_held_12 : decode b_P_held 12 = .ok (.iload_n 3, 1) := by decide +kernel
theorem d_P_held_13 : decode b_P_held 13 = .ok (.bipush 24, 2) := by decide +kernel
theorem d_P_held_15 : decode b_P_held 15 = .ok (.if_icmp .ge 27, 3) := by decide +kernel
theorem d_P_held_18 : decode b_P_held 18 = .ok (.aload_n 0, 1) := by decide +kernel
theorem d_P_held_19 : decode b_P_held 19 = .ok (.getfield 15, 3) := by decide +kernel
theorem d_P_held_22 : decode b_P_held 22 = .ok (.iload_n 1, 1) := by decide +kernel
theorem d_P_held_23 : decode b_P_held 23 = .ok (.bipush 24, 2) := by decide +kernel
theorem d_P_held_25 : decode b_P_held 25 = .ok (.imul, 1) := by decide +kernel
theorem d_P_held_26 : decode b_P_held 26 = .ok (.iload_n 3, 1) := by decide +kernel
theorem d_P_held_27 : decode b_P_held 27 = .ok (.iadd, 1) := by decide +kernel
theorem d_P_held_28 : decode b_P_held 28 = .ok (.iaload, 1) := by decide +kernel
theorem d_P_held_29 : decode b_P_held 29 = .ok (.iconst (-1), 1) := by decide +kernel
theorem d_P_held_30 : decode b_P_held 30 = .ok (.if_icmp .eq 6, 3) := by decide +kernel
theorem d_P_held_33 : decode b_P_held 33 = .ok (.iinc 2 1, 3) := by decide +kernel
theorem d_P_held_36 : decode b_P_held 36 = .ok (.iinc 3 1, 3) := by decide +kernel
theorem d_P_held_39 : decode b_P_held 39 = .ok (.goto (-35), 3) := by decide +kernel
theorem d_P_held_42 : decode b_P_held 42 = .ok (.iload_n 2, 1) := by decide +kernel
theorem d_P_held_43 : decode b_P_held 43 = .ok (.ireturn, 1) := by decide +kernel
theorem d_P_same_0 : decode b_P_same 0 = .ok (.aload_n 0, 1) := by decide +kernel
theorem d_P_same_1 : decode b_P_same 1 = .ok (.iload_n 1, 1) := by decide +kernel
theorem d_P_same_2 : decode b_P_same 2 = .ok (.invokevirtual 23, 3) := by decide +kernel
theorem d_P_same_5 : decode b_P_same 5 = .ok (.ifCond .eq 11, 3) := by decide +kernel
theorem d_P_same_8 : decode b_P_same 8 = .ok (.aload_n 0, 1) := by decide +kernel
theorem d_P_same_9 : decode b_P_same 9 = .ok (.iload_n 2, 1) := by decide +kernel
theorem d_P_same_10 : decode b_P_same 10 = .ok (.invokevirtual 23, 3) := by decide +kernel
theorem d_P_same_13 : decode b_P_same 13 = .ok (.ifCond .ne 5, 3) := by decide +kernel
theorem d_P_same_16 : decode b_P_same 16 = .ok (.iconst 0, 1) := by decide +kernel
theorem d_P_same_17 : decode b_P_same 17 = .ok (.ireturn, 1) := by decide +kernel
theorem d_P_same_18 : decode b_P_same 18 = .ok (.iconst 0, 1) := by decide +kernel
theorem d_P_same_19 : decode b_P_same 19 = .ok (.istore_n 3, 1) := by decide +kernel
theorem d_P_same_20 : decode b_P_same 20 = .ok (.iload_n 3, 1) := by decide +kernel
theorem d_P_same_21 : decode b_P_same 21 = .ok (.bipush 24, 2) := by decide +kernel
theorem d_P_same_23 : decode b_P_same 23 = .ok (.if_icmp .ge 36, 3) := by decide +kernel
theorem d_P_same_26 : decode b_P_same 26 = .ok (.aload_n 0, 1) := by decide +kernel
theorem d_P_same_27 : decode b_P_same 27 = .ok (.getfield 15, 3) := by decide +kernel
theorem d_P_same_30 : decode b_P_same 30 = .ok (.iload_n 1, 1) := by decide +kernel
theorem d_P_same_31 : decode b_P_same 31 = .ok (.bipush 24, 2) := by decide +kernel
theorem d_P_same_33 : decode b_P_same 33 = .ok (.imul, 1) := by decide +kernel
theorem d_P_same_34 : decode b_P_same 34 = .ok (.iload_n 3, 1) := by decide +kernel
theorem d_P_same_35 : decode b_P_same 35 = .ok (.iadd, 1) := by decide +kernel
theorem d_P_same_36 : decode b_P_same 36 = .ok (.iaload, 1) := by decide +kernel
theorem d_P_same_37 : decode b_P_same 37 = .ok (.aload_n 0, 1) := by decide +kernel
theorem d_P_same_38 : decode b_P_same 38 = .ok (.getfield 15, 3) := by decide +kernel
theorem d_P_same_41 : decode b_P_same 41 = .ok (.iload_n 2, 1) := by decide +kernel
theorem d_P_same_42 : decode b_P_same 42 = .ok (.bipush 24, 2) := by decide +kernel
theorem d_P_same_44 : decode b_P_same 44 = .ok (.imul, 1) := by decide +kernel
theorem d_P_same_45 : decode b_P_same 45 = .ok (.iload_n 3, 1) := by decide +kernel
theorem d_P_same_46 : decode b_P_same 46 = .ok (.iadd, 1) := by decide +kernel
theorem d_P_same_47 : decode b_P_same 47 = .ok (.iaload, 1) := by decide +kernel
theorem d_P_same_48 : decode b_P_same 48 = .ok (.if_icmp .eq 5, 3) := by decide +kernel
theorem d_P_same_51 : decode b_P_same 51 = .ok (.iconst 0, 1) := by decide +kernel
theorem d_P_same_52 : decode b_P_same 52 = .ok (.ireturn, 1) := by decide +kernel
theorem d_P_same_53 : decode b_P_same 53 = .ok (.iinc 3 1, 3) := by decide +kernel
theorem d_P_same_56 : decode b_P_same 56 = .ok (.goto (-36), 3) := by decide +kernel
theorem d_P_same_59 : decode b_P_same 59 = .ok (.iconst 1, 1) := by decide +kernel
theorem d_P_same_60 : decode b_P_same 60 = .ok (.ireturn, 1) := by decide +kernel
theorem d_P_repeats_0 : decode b_P_repeats 0 = .ok (.iconst 0, 1) := by decide +kernel
theorem d_P_repeats_1 : decode b_P_repeats 1 = .ok (.istore_n 2, 1) := by decide +kernel
theorem d_P_repeats_2 : decode b_P_repeats 2 = .ok (.iload_n 2, 1) := by decide +kernel
theorem d_P_repeats_3 : decode b_P_repeats 3 = .ok (.iload_n 1, 1) := by decide +kernel
theorem d_P_repeats_4 : decode b_P_repeats 4 = .ok (.if_icmp .ge 20, 3) := by decide +kernel
theorem d_P_repeats_7 : decode b_P_repeats 7 = .ok (.aload_n 0, 1) := by decide +kernel
theorem d_P_repeats_8 : decode b_P_repeats 8 = .ok (.iload_n 2, 1) := by decide +kernel
theorem d_P_repeats_9 : decode b_P_repeats 9 = .ok (.iload_n 1, 1) := by decide +kernel
theorem d_P_repeats_10 : decode b_P_repeats 10 = .ok (.invokevirtual 31, 3) := by decide +kernel
theorem d_P_repeats_13 : decode b_P_repeats 13 = .ok (.ifCond .eq 5, 3) := by decide +kernel
theorem d_P_repeats_16 : decode b_P_repeats 16 = .ok (.iconst 1, 1) := by decide +kernel
theorem d_P_repeats_17 : decode b_P_repeats 17 = .ok (.ireturn, 1) := by decide +kernel
theorem d_P_repeats_18 : decode b_P_repeats 18 = .ok (.iinc 2 1, 3) := by decide +kernel
theorem d_P_repeats_21 : decode b_P_repeats 21 = .ok (.goto (-19), 3) := by decide +kernel
theorem d_P_repeats_24 : decode b_P_repeats 24 = .ok (.iconst 0, 1) := by decide +kernel
theorem d_P_repeats_25 : decode b_P_repeats 25 = .ok (.ireturn, 1) := by decide +kernel
