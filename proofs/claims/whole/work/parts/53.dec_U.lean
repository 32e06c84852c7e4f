theorem d_U_init_0 : decode b_U_init 0 = .ok (.aload_n 0, 1) := by decide +kernel
theorem d_U_init_1 : decode b_U_init 1 = .ok (.invokespecial 3, 3) := by decide +kernel
theorem d_U_init_4 : decode b_U_init 4 = .ok (.aload_n 0, 1) := by decide +kernel
theorem d_U_init_5 : decode b_U_init 5 = .ok (.sipush 240, 3) := by decide +kernel
theorem d_U_init_8 : decode b_U_init 8 = .ok (.newarray .int, 2) := by decide +kernel
theorem d_U_init_10 : decode b_U_init 10 = .ok (.putfield 9, 3) := by decide +kernel
theorem d_U_init_13 : decode b_U_init 13 = .ok (.aload_n 0, 1) := by decide +kernel
theorem d_U_init_14 : decode b_U_init 14 = .ok (.sipush 512, 3) := by decide +kernel
theorem d_U_init_17 : decode b_U_init 17 = .ok (.newarray .int, 2) := by decide +kernel
theorem d_U_init_19 : decode b_U_init 19 = .ok (.putfield 15, 3) := by decide +kernel
theorem d_U_init_22 : decode b_U_init 22 = .ok (.aload_n 0, 1) := by decide +kernel
theorem d_U_init_23 : decode b_U_init 23 = .ok (.iconst 0, 1) := by decide +kernel
theorem d_U_init_24 : decode b_U_init 24 = .ok (.putfield 18, 3) := by decide +kernel
theorem d_U_init_27 : decode b_U_init 27 = .ok (.aload_n 0, 1) := by decide +kernel
theorem d_U_init_28 : decode b_U_init 28 = .ok (.iconst 0, 1) := by decide +kernel
theorem d_U_init_29 : decode b_U_init 29 = .ok (.putfield 22, 3) := by decide +kernel
theorem d_U_init_32 : decode b_U_init 32 = .ok (.return_, 1) := by decide +kernel
theorem d_U_isText_0 : decode b_U_isText 0 = .ok (.iload_n 0, 1) := by decide +kernel
theorem d_U_isText_1 : decode b_U_isText 1 = .ok (.bipush 9, 2) := by decide +kernel
theorem d_U_isText_3 : decode b_U_isText 3 = .ok (.if_icmp .eq 35, 3) := by decide +kernel
theorem d_U_isText_6 : decode b_U_isText 6 = .ok (.iload_n 0, 1) := by decide +kernel
theorem d_U_isText_7 : decode b_U_isText 7 = .ok (.bipush 12, 2) := by decide +kernel
theorem d_U_isText_9 : decode b_U_isText 9 = .ok (.if_icmp .eq 29, 3) := by decide +kernel
theorem d_U_isText_12 : decode b_U_isText 12 = .ok (.iload_n 0, 1) := by decide +kernel
theorem d_U_isText_13 : decode b_U_isText 13 = .ok (.bipush 32, 2) := by decide +kernel
theorem d_U_isText_15 : decode b_U_isText 15 = .ok (.if_icmp .lt 9, 3) := by decide +kernel
theorem d_U_isText_18 : decode b_U_isText 18 = .ok (.iload_n 0, 1) := by decide +kernel
theorem d_U_isText_19 : decode b_U_isText 19 = .ok (.bipush 126, 2) := by decide +kernel
theorem d_U_isText_21 : decode b_U_isText 21 = .ok (.if_icmp .le 17, 3) := by decide +kernel
theorem d_U_isText_24 : decode b_U_isText 24 = .ok (.iload_n 0, 1) := by decide +kernel
theorem d_U_isText_25 : decode b_U_isText 25 = .ok (.sipush 160, 3) := by decide +kernel
theorem d_U_isText_28 : decode b_U_isText 28 = .ok (.if_icmp .lt 14, 3) := by decide +kernel
theorem d_U_isText_31 : decode b_U_isText 31 = .ok (.iload_n 0, 1) := by decide +kernel
theorem d_U_isText_32 : decode b_U_isText 32 = .ok (.sipush 255, 3) := by decide +kernel
theorem d_U_isText_35 : decode b_U_isText 35 = .ok (.if_icmp .gt 7, 3) := by decide +kernel
theorem d_U_isText_38 : decode b_U_isText 38 = .ok (.iconst 1, 1) := by decide +kernel
theorem d_U_isText_39 : decode b_U_isText 39 = .ok (.goto 4, 3) := by decide +kernel
theorem d_U_isText_42 : decode b_U_isText 42 = .ok (.iconst 0, 1) := by decide +kernel
theorem d_U_isText_43 : decode b_U_isText 43 = .ok (.ireturn, 1) := by decide +kernel
theorem d_U_empty_0 : decode b_U_empty 0 = .ok (.aload_n 0, 1) := by decide +kernel
theorem d_U_empty_1 : decode b_U_empty 1 = .ok (.iconst 0, 1) := by decide +kernel
theorem d_U_empty_2 : decode b_U_empty 2 = .ok (.putfield 18, 3) := by decide +kernel
theorem d_U_empty_5 : decode b_U_empty 5 = .ok (.aload_n 0, 1) := by decide +kernel
theorem d_U_empty_6 : decode b_U_empty 6 = .ok (.iconst 0, 1) := by decide +kernel
theorem d_U_empty_7 : decode b_U_empty 7 = .ok (.putfield 22, 3) := by decide +kernel
theorem d_U_empty_10 : decode b_U_empty 10 = .ok (.return_, 1) := by decide +kernel
theorem d_U_rows_0 : decode b_U_rows 0 = .ok (.aload_n 0, 1) := by decide +kernel
theorem d_U_rows_1 : decode b_U_rows 1 = .ok (.getfield 18, 3) := by decide +kernel
theorem d_U_rows_4 : decode b_U_rows 4 = .ok (.ireturn, 1) := by decide +kernel
theorem d_U_length_0 : decode b_U_length 0 = .ok (.aload_n 0, 1) := by decide +kernel
theorem d_U_length_1 : decode b_U_length 1 = .ok (.getfield 22, 3) := by decide +kernel
theorem d_U_length_4 : decode b_U_length 4 = .ok (.ireturn, 1) := by decide +kernel
theorem d_U_takes_0 : decode b_U_takes 0 = .ok (.aload_n 0, 1) := by decide +kernel
theorem d_U_takes_1 : decode b_U_takes 1 = .ok (.getfield 18, 3) := by decide +kernel
theorem d_U_takes_4 : decode b_U_takes 4 = .ok (.bipush 40, 2) := by decide +kernel
theorem d_U_takes_6 : decode b_U_takes 6 = .ok (.if_icmp .ge 24, 3) := by decide +kernel
theorem d_U_takes_9 : decode b_U_takes 9 = .ok (.iload_n 1, 1) := by decide +kernel
theorem d_U_takes_10 : decode b_U_takes 10 = .ok (.iconst 1, 1) := by decide +kernel
theorem d_U_takes_11 : decode b_U_takes 11 = .ok (.if_icmp .lt 19, 3) := by decide +kernel
theorem d_U_takes_14 : decode b_U_takes 14 = .ok (.iload_n 1, 1) := by decide +kernel
theorem d_U_takes_15 : decode b_U_takes 15 = .ok (.sipush 512, 3) := by decide +kernel
theorem d_U_takes_18 : decode b_U_takes 18 = .ok (.aload_n 0, 1) := by decide +kernel
theorem d_U_takes_19 : decode b_U_takes 19 = .ok (.getfield 22, 3) := by decide +kernel
theorem d_U_takes_22 : decode b_U_takes 22 = .ok (.isub, 1) := by decide +kernel
theorem d_U_takes_23 : decode b_U_takes 23 = .ok (.if_icmp .gt 7, 3) := by decide +kernel
theorem d_U_takes_26 : decode b_U_takes 26 = .ok (.iconst 1, 1) := by decide +kernel
theorem d_U_takes_27 : decode b_U_takes 27 = .ok (.goto 4, 3) := by decide +kernel
theorem d_U_takes_30 : decode b_U_takes 30 = .ok (.iconst 0, 1) := by decide +kernel
theorem d_U_takes_31 : decode b_U_takes 31 = .ok (.ireturn, 1) := by decide +kernel
theorem d_U_begin_0 : decode b_U_begin 0 = .ok (.aload_n 0, 1) := by decide +kernel
theorem d_U_begin_1 : decode b_U_begin 1 = .ok (.getfield 18, 3) := by decide +kernel
theorem d_U_begin_4 : decode b_U_begin 4 = .ok (.bipush 40, 2) := by decide +kernel
theorem d_U_begin_6 : decode b_U_begin 6 = .ok (.if_icmp .lt 5, 3) := by decide +kernel
theorem d_U_begin_9 : decode b_U_begin 9 = .ok (.iconst (-1), 1) := by decide +kernel
theorem d_U_begin_10 : decode b_U_begin 10 = .ok (.ireturn, 1) := by decide +kernel
theorem d_U_begin_11 : decode b_U_begin 11 = .ok (.aload_n 0, 1) := by decide +kernel
theorem d_U_begin_12 : decode b_U_begin 12 = .ok (.getfield 18, 3) := by decide +kernel
theorem d_U_begin_15 : decode b_U_begin 15 = .ok (.bipush 6, 2) := by decide +kernel
theorem d_U_begin_17 : decode b_U_begin 17 = .ok (.imul, 1) := by decide +kernel
theorem d_U_begin_18 : decode b_U_begin 18 = .ok (.istore 5, 2) := by decide +kernel
theorem d_U_begin_20 : decode b_U_begin 20 = .ok (.aload_n 0, 1) := by decide +kernel
theorem d_U_begin_21 : decode b_U_begin 21 = .ok (.getfield 9, 3) := by decide +kernel
theorem d_U_begin_24 : decode b_U_begin 24 = .ok (.iload 5, 2) := by decide +kernel
theorem d_U_begin_26 : decode b_U_begin 26 = .ok (.iconst 0, 1) := by decide +kernel
theorem d_U_begin_27 : decode b_U_begin 27 = .ok (.iadd, 1) := by decide +kernel
theorem d_U_begin_28 : decode b_U_begin 28 = .ok (.iload_n 1, 1) := by decide +kernel
theorem d_U_begin_29 : decode b_U_begin 29 = .ok (.iastore, 1) := by decide +kernel
theorem d_U_begin_30 : decode b_U_begin 30 = .ok (.aload_n 0, 1) := by decide +kernel
theorem d_U_begin_31 : decode b_U_begin 31 = .ok (.getfield 9, 3) := by decide +kernel
theorem d_U_begin_34 : decode b_U_begin 34 = .ok (.iload 5, 2) := by decide +kernel
theorem d_U_begin_36 : decode b_U_begin 36 = .ok (.iconst 1, 1) := by decide +kernel
theorem d_U_begin_37 : decode b_U_begin 37 = .ok (.iadd, 1) := by decide +kernel
theorem d_U_begin_38 : decode b_U_begin 38 = .ok (.iload_n 2, 1) := by decide +kernel
theorem d_U_begin_39 : decode b_U_begin 39 = .ok (.iastore, 1) := by decide +kernel
theorem d_U_begin_40 : decode b_U_begin 40 = .ok (.aload_n 0, 1) := by decide +kernel
theorem d_U_begin_41 : decode b_U_begin 41 = .ok (.getfield 9, 3) := by decide +kernel
theorem d_U_begin_44 : decode b_U_begin 44 = .ok (.iload 5, 2) := by decide +kernel
theorem d_U_begin_46 : decode b_U_begin 46 = .ok (.iconst 2, 1) := by decide +kernel
theorem d_U_begin_47 : decode b_U_begin 47 = .ok (.iadd, 1) := by decide +kernel
theorem d_U_begin_48 : decode b_U_begin 48 = .ok (.iload_n 3, 1) := by decide +kernel
theorem d_U_begin_49 : decode b_U_begin 49 = .ok (.iastore, 1) := by decide +kernel
theorem d_U_begin_50 : decode b_U_begin 50 = .ok (.aload_n 0, 1) := by decide +kernel
theorem d_U_begin_51 : decode b_U_begin 51 = .ok (.getfield 9, 3) := by decide +kernel
theorem d_U_begin_54 : decode b_U_begin 54 = .ok (.iload 5, 2) := by decide +kernel
theorem d_U_begin_56 : decode b_U_begin 56 = .ok (.iconst 3, 1) := by decide +kernel
theorem d_U_begin_57 : decode b_U_begin 57 = .ok (.iadd, 1) := by decide +kernel
theorem d_U_begin_58 : decode b_U_begin 58 = .ok (.iload 4, 2) := by decide +kernel
theorem d_U_begin_60 : decode b_U_begin 60 = .ok (.iastore, 1) := by decide +kernel
theorem d_U_begin_61 : decode b_U_begin 61 = .ok (.aload_n 0, 1) := by decide +kernel
theorem d_U_begin_62 : decode b_U_begin 62 = .ok (.getfield 9, 3) := by decide +kernel
theorem d_U_begin_65 : decode b_U_begin 65 = .ok (.iload 5, 2) := by decide +kernel
theorem d_U_begin_67 : decode b_U_begin 67 = .ok (.iconst 4, 1) := by decide +kernel
theorem d_U_begin_68 : decode b_U_begin 68 = .ok (.iadd, 1) := by decide +kernel
theorem d_U_begin_69 : decode b_U_begin 69 = .ok (.aload_n 0, 1) := by decide +kernel
theorem d_U_begin_70 : decode b_U_begin 70 = .ok (.getfield 22, 3) := by decide +kernel
theorem d_U_begin_73 : decode b_U_begin 73 = .ok (.iastore, 1) := by decide +kernel
theorem d_U_begin_74 : decode b_U_begin 74 = .ok (.aload_n 0, 1) := by decide +kernel
theorem d_U_begin_75 : decode b_U_begin 75 = .ok (.getfield 9, 3) := by decide +kernel
theorem d_U_begin_78 : decode b_U_begin 78 = .ok (.iload 5, 2) := by decide +kernel
theorem d_U_begin_80 : decode b_U_begin 80 = .ok (.iconst 5, 1) := by decide +kernel
theorem d_U_begin_81 : decode b_U_begin 81 = .ok (.iadd, 1) := by decide +kernel
theorem d_U_begin_82 : decode b_U_begin 82 = .ok (.iconst 0, 1) := by decide +kernel
theorem d_U_begin_83 : decode b_U_begin 83 = .ok (.iastore, 1) := by decide +kernel
theorem d_U_begin_84 : decode b_U_begin 84 = .ok (.aload_n 0, 1) := by decide +kernel
theorem d_U_begin_85 : decode b_U_begin 85 = .ok (.dup, 1) := by decide +kernel
theorem d_U_begin_86 : decode b_U_begin 86 = .ok (.getfield 18, 3) := by decide +kernel
theorem d_U_begin_89 : decode b_U_begin 89 = .ok (.iconst 1, 1) := by decide +kernel
theorem d_U_begin_90 : decode b_U_begin 90 = .ok (.iadd, 1) := by decide +kernel
theorem d_U_begin_91 : decode b_U_begin 91 = .ok (.putfield 18, 3) := by decide +kernel
theorem d_U_begin_94 : decode b_U_begin 94 = .ok (.aload_n 0, 1) := by decide +kernel
theorem d_U_begin_95 : decode b_U_begin 95 = .ok (.getfield 18, 3) := by decide +kernel
theorem d_U_begin_98 : decode b_U_begin 98 = .ok (.iconst 1, 1) := by decide +kernel
theorem d_U_begin_99 : decode b_U_begin 99 = .ok (.isub, 1) := by decide +kernel
theorem d_U_begin_100 : decode b_U_begin 100 = .ok (.ireturn, 1) := by decide +kernel
theorem d_U_append_0 : decode b_U_append 0 = .ok (.aload_n 0, 1) := by decide +kernel
theorem d_U_append_1 : decode b_U_append 1 = .ok (.getfield 18, 3) := by decide +kernel
theorem d_U_append_4 : decode b_U_append 4 = .ok (.iconst 1, 1) := by decide +kernel
theorem d_U_append_5 : decode b_U_append 5 = .ok (.if_icmp .lt 53, 3) := by decide +kernel
theorem d_U_append_8 : decode b_U_append 8 = .ok (.aload_n 0, 1) := by decide +kernel
theorem d_U_append_9 : decode b_U_append 9 = .ok (.getfield 22, 3) := by decide +kernel
theorem d_U_append_12 : decode b_U_append 12 = .ok (.sipush 512, 3) := by decide +kernel
theorem d_U_append_15 : decode b_U_append 15 = .ok (.if_icmp .ge 43, 3) := by decide +kernel
theorem d_U_append_18 : decode b_U_append 18 = .ok (.aload_n 0, 1) := by decide +kernel
theorem d_U_append_19 : decode b_U_append 19 = .ok (.getfield 15, 3) := by decide +kernel
theorem d_U_append_22 : decode b_U_append 22 = .ok (.aload_n 0, 1) := by decide +kernel
theorem d_U_append_23 : decode b_U_append 23 = .ok (.getfield 22, 3) := by decide +kernel
theorem d_U_append_26 : decode b_U_append 26 = .ok (.iload_n 1, 1) := by decide +kernel
theorem d_U_append_27 : decode b_U_append 27 = .ok (.iastore, 1) := by decide +kernel
theorem d_U_append_28 : decode b_U_append 28 = .ok (.aload_n 0, 1) := by decide +kernel
theorem d_U_append_29 : decode b_U_append 29 = .ok (.dup, 1) := by decide +kernel
theorem d_U_append_30 : decode b_U_append 30 = .ok (.getfield 22, 3) := by decide +kernel
theorem d_U_append_33 : decode b_U_append 33 = .ok (.iconst 1, 1) := by decide +kernel
theorem d_U_append_34 : decode b_U_append 34 = .ok (.iadd, 1) := by decide +kernel
theorem d_U_append_35 : decode b_U_append 35 = .ok (.putfield 22, 3) := by decide +kernel
theorem d_U_append_38 : decode b_U_append 38 = .ok (.aload_n 0, 1) := by decide +kernel
theorem d_U_append_39 : decode b_U_append 39 = .ok (.getfield 9, 3) := by decide +kernel
theorem d_U_append_42 : decode b_U_append 42 = .ok (.aload_n 0, 1) := by decide +kernel
theorem d_U_append_43 : decode b_U_append 43 = .ok (.getfield 18, 3) := by decide +kernel
theorem d_U_append_46 : decode b_U_append 46 = .ok (.iconst 1, 1) := by decide +kernel
theorem d_U_append_47 : decode b_U_append 47 = .ok (.isub, 1) := by decide +kernel
theorem d_U_append_48 : decode b_U_append 48 = .ok (.bipush 6, 2) := by decide +kernel
theorem d_U_append_50 : decode b_U_append 50 = .ok (.imul, 1) := by decide +kernel
theorem d_U_append_51 : decode b_U_append 51 = .ok (.iconst 5, 1) := by decide +kernel
theorem d_U_append_52 : decode b_U_append 52 = .ok (.iadd, 1) := by decide +kernel
theorem d_U_append_53 : decode b_U_append 53 = .ok (.dup2, 1) := by decide +kernel
theorem d_U_append_54 : decode b_U_append 54 = .ok (.iaload, 1) := by decide +kernel
theorem d_U_append_55 : decode b_U_append 55 = .ok (.iconst 1, 1) := by decide +kernel
theorem d_U_append_56 : decode b_U_append 56 = .ok (.iadd, 1) := by decide +kernel
theorem d_U_append_57 : decode b_U_append 57 = .ok (.iastore, 1) := by decide +kernel
theorem d_U_append_58 : decode b_U_append 58 = .ok (.return_, 1) := by decide +kernel
theorem d_U_part_0 : decode b_U_part 0 = .ok (.iload_n 1, 1) := by decide +kernel
theorem d_U_part_1 : decode b_U_part 1 = .ok (.ifCond .lt 21, 3) := by decide +kernel
theorem d_U_part_4 : decode b_U_part 4 = .ok (.iload_n 1, 1) := by decide +kernel
theorem d_U_part_5 : decode b_U_part 5 = .ok (.aload_n 0, 1) := by decide +kernel
theorem d_U_part_6 : decode b_U_part 6 = .ok (.getfield 18, 3) := by decide +kernel
theorem d_U_part_9 : decode b_U_part 9 = .ok (.if_icmp .ge 13, 3) := by decide +kernel
theorem d_U_part_12 : decode b_U_part 12 = .ok (.iload_n 2, 1) := by decide +kernel
theorem d_U_part_13 : decode b_U_part 13 = .ok (.ifCond .lt 9, 3) := by decide +kernel
theorem d_U_part_16 : decode b_U_part 16 = .ok (.iload_n 2, 1) := by decide +kernel
theorem d_U_part_17 : decode b_U_part 17 = .ok (.bipush 6, 2) := by decide +kernel
theorem d_U_part_19 : decode b_U_part 19 = .ok (.if_icmp .lt 6, 3) := by decide +kernel
theorem d_U_part_22 : decode b_U_part 22 = .ok (.bipush (-2), 2) := by decide +kernel
theorem d_U_part_24 : decode b_U_part 24 = .ok (.ireturn, 1) := by decide +kernel
theorem d_U_part_25 : decode b_U_part 25 = .ok (.aload_n 0, 1) := by decide +kernel
theorem d_U_part_26 : decode b_U_part 26 = .ok (.getfield 9, 3) := by decide +kernel
theorem d_U_part_29 : decode b_U_part 29 = .ok (.iload_n 1, 1) := by decide +kernel
theorem d_U_part_30 : decode b_U_part 30 = .ok (.bipush 6, 2) := by decide +kernel
theorem d_U_part_32 : decode b_U_part 32 = .ok (.imul, 1) := by decide +kernel
theorem d_U_part_33 : decode b_U_part 33 = .ok (.iload_n 2, 1) := by decide +kernel
theorem d_U_part_34 : decode b_U_part 34 = .ok (.iadd, 1) := by decide +kernel
theorem d_U_part_35 : decode b_U_part 35 = .ok (.iaload, 1) := by decide +kernel
theorem d_U_part_36 : decode b_U_part 36 = .ok (.ireturn, 1) := by decide +kernel
theorem d_U_character_0 : decode b_U_character 0 = .ok (.iload_n 1, 1) := by decide +kernel
theorem d_U_character_1 : decode b_U_character 1 = .ok (.ifCond .lt 20, 3) := by decide +kernel
theorem d_U_character_4 : decode b_U_character 4 = .ok (.iload_n 1, 1) := by decide +kernel
theorem d_U_character_5 : decode b_U_character 5 = .ok (.aload_n 0, 1) := by decide +kernel
theorem d_U_character_6 : decode b_U_character 6 = .ok (.getfield 22, 3) := by decide +kernel
theorem d_U_character_9 : decode b_U_character 9 = .ok (.if_icmp .ge 12, 3) := by decide +kernel
theorem d_U_character_12 : decode b_U_character 12 = .ok (.aload_n 0, 1) := by decide +kernel
theorem d_U_character_13 : decode b_U_character 13 = .ok (.getfield 15, 3) := by decide +kernel
theorem d_U_character_16 : decode b_U_character 16 = .ok (.iload_n 1, 1) := by decide +kernel
theorem d_U_character_17 : decode b_U_character 17 = .ok (.iaload, 1) := by decide +kernel
theorem d_U_character_18 : decode b_U_character 18 = .ok (.goto 4, 3) := by decide +kernel
theorem d_U_character_21 : decode b_U_character 21 = .ok (.iconst (-1), 1) := by decide +kernel
theorem d_U_character_22 : decode b_U_character 22 = .ok (.ireturn, 1) := by decide +kernel
