theorem d_F_init_0 : decode b_F_init 0 = .ok (.aload_n 0, 1) := by decide +kernel
theorem d_F_init_1 : decode b_F_init 1 = .ok (.invokespecial 1, 3) := by decide +kernel
theorem d_F_init_4 : decode b_F_init 4 = .ok (.aload_n 0, 1) := by decide +kernel
theorem d_F_init_5 : decode b_F_init 5 = .ok (.new 7, 3) := by decide +kernel
theorem d_F_init_8 : decode b_F_init 8 = .ok (.dup, 1) := by decide +kernel
theorem d_F_init_9 : decode b_F_init 9 = .ok (.invokespecial 9, 3) := by decide +kernel
theorem d_F_init_12 : decode b_F_init 12 = .ok (.putfield 10, 3) := by decide +kernel
theorem d_F_init_15 : decode b_F_init 15 = .ok (.aload_n 0, 1) := by decide +kernel
theorem d_F_init_16 : decode b_F_init 16 = .ok (.new 7, 3) := by decide +kernel
theorem d_F_init_19 : decode b_F_init 19 = .ok (.dup, 1) := by decide +kernel
theorem d_F_init_20 : decode b_F_init 20 = .ok (.invokespecial 9, 3) := by decide +kernel
theorem d_F_init_23 : decode b_F_init 23 = .ok (.putfield 16, 3) := by decide +kernel
theorem d_F_init_26 : decode b_F_init 26 = .ok (.aload_n 0, 1) := by decide +kernel
theorem d_F_init_27 : decode b_F_init 27 = .ok (.new 19, 3) := by decide +kernel
theorem d_F_init_30 : decode b_F_init 30 = .ok (.dup, 1) := by decide +kernel
theorem d_F_init_31 : decode b_F_init 31 = .ok (.invokespecial 21, 3) := by decide +kernel
theorem d_F_init_34 : decode b_F_init 34 = .ok (.putfield 22, 3) := by decide +kernel
theorem d_F_init_37 : decode b_F_init 37 = .ok (.aload_n 0, 1) := by decide +kernel
theorem d_F_init_38 : decode b_F_init 38 = .ok (.new 26, 3) := by decide +kernel
theorem d_F_init_41 : decode b_F_init 41 = .ok (.dup, 1) := by decide +kernel
theorem d_F_init_42 : decode b_F_init 42 = .ok (.aload_n 0, 1) := by decide +kernel
theorem d_F_init_43 : decode b_F_init 43 = .ok (.getfield 22, 3) := by decide +kernel
theorem d_F_init_46 : decode b_F_init 46 = .ok (.invokespecial 28, 3) := by decide +kernel
theorem d_F_init_49 : decode b_F_init 49 = .ok (.putfield 31, 3) := by decide +kernel
theorem d_F_init_52 : decode b_F_init 52 = .ok (.aload_n 0, 1) := by decide +kernel
theorem d_F_init_53 : decode b_F_init 53 = .ok (.new 35, 3) := by decide +kernel
theorem d_F_init_56 : decode b_F_init 56 = .ok (.dup, 1) := by decide +kernel
theorem d_F_init_57 : decode b_F_init 57 = .ok (.aload_n 0, 1) := by decide +kernel
theorem d_F_init_58 : decode b_F_init 58 = .ok (.getfield 22, 3) := by decide +kernel
theorem d_F_init_61 : decode b_F_init 61 = .ok (.invokespecial 37, 3) := by decide +kernel
theorem d_F_init_64 : decode b_F_init 64 = .ok (.putfield 38, 3) := by decide +kernel
theorem d_F_init_67 : decode b_F_init 67 = .ok (.return_, 1) := by decide +kernel
theorem d_F_clear_0 : decode b_F_clear 0 = .ok (.aload_n 0, 1) := by decide +kernel
theorem d_F_clear_1 : decode b_F_clear 1 = .ok (.getfield 10, 3) := by decide +kernel
theorem d_F_clear_4 : decode b_F_clear 4 = .ok (.invokevirtual 42, 3) := by decide +kernel
theorem d_F_clear_7 : decode b_F_clear 7 = .ok (.return_, 1) := by decide +kernel
theorem d_F_style_0 : decode b_F_style 0 = .ok (.iload_n 1, 1) := by decide +kernel
theorem d_F_style_1 : decode b_F_style 1 = .ok (.iconst (-1), 1) := by decide +kernel
theorem d_F_style_2 : decode b_F_style 2 = .ok (.if_icmp .eq 19, 3) := by decide +kernel
theorem d_F_style_5 : decode b_F_style 5 = .ok (.aload_n 0, 1) := by decide +kernel
theorem d_F_style_6 : decode b_F_style 6 = .ok (.getfield 10, 3) := by decide +kernel
theorem d_F_style_9 : decode b_F_style 9 = .ok (.getfield 45, 3) := by decide +kernel
theorem d_F_style_12 : decode b_F_style 12 = .ok (.iload_n 1, 1) := by decide +kernel
theorem d_F_style_13 : decode b_F_style 13 = .ok (.invokevirtual 49, 3) := by decide +kernel
theorem d_F_style_16 : decode b_F_style 16 = .ok (.ifCond .ne 5, 3) := by decide +kernel
theorem d_F_style_19 : decode b_F_style 19 = .ok (.iconst (-1), 1) := by decide +kernel
theorem d_F_style_20 : decode b_F_style 20 = .ok (.ireturn, 1) := by decide +kernel
theorem d_F_style_21 : decode b_F_style 21 = .ok (.aload_n 0, 1) := by decide +kernel
theorem d_F_style_22 : decode b_F_style 22 = .ok (.getfield 10, 3) := by decide +kernel
theorem d_F_style_25 : decode b_F_style 25 = .ok (.iload_n 1, 1) := by decide +kernel
theorem d_F_style_26 : decode b_F_style 26 = .ok (.invokevirtual 55, 3) := by decide +kernel
theorem d_F_style_29 : decode b_F_style 29 = .ok (.ireturn, 1) := by decide +kernel
theorem d_F_set_0 : decode b_F_set 0 = .ok (.aload_n 0, 1) := by decide +kernel
theorem d_F_set_1 : decode b_F_set 1 = .ok (.getfield 10, 3) := by decide +kernel
theorem d_F_set_4 : decode b_F_set 4 = .ok (.getfield 59, 3) := by decide +kernel
theorem d_F_set_7 : decode b_F_set 7 = .ok (.invokevirtual 62, 3) := by decide +kernel
theorem d_F_set_10 : decode b_F_set 10 = .ok (.ireturn, 1) := by decide +kernel
theorem d_F_property_0 : decode b_F_property 0 = .ok (.iload_n 1, 1) := by decide +kernel
theorem d_F_property_1 : decode b_F_property 1 = .ok (.ifCond .ne 18, 3) := by decide +kernel
theorem d_F_property_4 : decode b_F_property 4 = .ok (.aload_n 0, 1) := by decide +kernel
theorem d_F_property_5 : decode b_F_property 5 = .ok (.getfield 10, 3) := by decide +kernel
theorem d_F_property_8 : decode b_F_property 8 = .ok (.getfield 45, 3) := by decide +kernel
theorem d_F_property_11 : decode b_F_property 11 = .ok (.iload_n 2, 1) := by decide +kernel
theorem d_F_property_12 : decode b_F_property 12 = .ok (.iload_n 3, 1) := by decide +kernel
theorem d_F_property_13 : decode b_F_property 13 = .ok (.iload 4, 2) := by decide +kernel
theorem d_F_property_15 : decode b_F_property 15 = .ok (.invokevirtual 66, 3) := by decide +kernel
theorem d_F_property_18 : decode b_F_property 18 = .ok (.ireturn, 1) := by decide +kernel
theorem d_F_property_19 : decode b_F_property 19 = .ok (.iload_n 1, 1) := by decide +kernel
theorem d_F_property_20 : decode b_F_property 20 = .ok (.iconst 1, 1) := by decide +kernel
theorem d_F_property_21 : decode b_F_property 21 = .ok (.if_icmp .ne 24, 3) := by decide +kernel
theorem d_F_property_24 : decode b_F_property 24 = .ok (.aload_n 0, 1) := by decide +kernel
theorem d_F_property_25 : decode b_F_property 25 = .ok (.getfield 10, 3) := by decide +kernel
theorem d_F_property_28 : decode b_F_property 28 = .ok (.getfield 59, 3) := by decide +kernel
theorem d_F_property_31 : decode b_F_property 31 = .ok (.iload_n 2, 1) := by decide +kernel
theorem d_F_property_32 : decode b_F_property 32 = .ok (.iload_n 3, 1) := by decide +kernel
theorem d_F_property_33 : decode b_F_property 33 = .ok (.iload 4, 2) := by decide +kernel
theorem d_F_property_35 : decode b_F_property 35 = .ok (.invokevirtual 66, 3) := by decide +kernel
theorem d_F_property_38 : decode b_F_property 38 = .ok (.ifCond .eq 7, 3) := by decide +kernel
theorem d_F_property_41 : decode b_F_property 41 = .ok (.iconst 1, 1) := by decide +kernel
theorem d_F_property_42 : decode b_F_property 42 = .ok (.goto 4, 3) := by decide +kernel
theorem d_F_property_45 : decode b_F_property 45 = .ok (.iconst 0, 1) := by decide +kernel
theorem d_F_property_46 : decode b_F_property 46 = .ok (.ireturn, 1) := by decide +kernel
theorem d_F_mark_0 : decode b_F_mark 0 = .ok (.iload_n 1, 1) := by decide +kernel
theorem d_F_mark_1 : decode b_F_mark 1 = .ok (.ifCond .lt 21, 3) := by decide +kernel
theorem d_F_mark_4 : decode b_F_mark 4 = .ok (.iload_n 1, 1) := by decide +kernel
theorem d_F_mark_5 : decode b_F_mark 5 = .ok (.sipush 255, 3) := by decide +kernel
theorem d_F_mark_8 : decode b_F_mark 8 = .ok (.if_icmp .gt 14, 3) := by decide +kernel
theorem d_F_mark_11 : decode b_F_mark 11 = .ok (.iload_n 2, 1) := by decide +kernel
theorem d_F_mark_12 : decode b_F_mark 12 = .ok (.ifCond .lt 10, 3) := by decide +kernel
theorem d_F_mark_15 : decode b_F_mark 15 = .ok (.iload_n 2, 1) := by decide +kernel
theorem d_F_mark_16 : decode b_F_mark 16 = .ok (.sipush 255, 3) := by decide +kernel
theorem d_F_mark_19 : decode b_F_mark 19 = .ok (.if_icmp .le 5, 3) := by decide +kernel
theorem d_F_mark_22 : decode b_F_mark 22 = .ok (.iconst (-1), 1) := by decide +kernel
theorem d_F_mark_23 : decode b_F_mark 23 = .ok (.ireturn, 1) := by decide +kernel
theorem d_F_mark_24 : decode b_F_mark 24 = .ok (.iload_n 3, 1) := by decide +kernel
theorem d_F_mark_25 : decode b_F_mark 25 = .ok (.iconst (-1), 1) := by decide +kernel
theorem d_F_mark_26 : decode b_F_mark 26 = .ok (.if_icmp .eq 19, 3) := by decide +kernel
theorem d_F_mark_29 : decode b_F_mark 29 = .ok (.aload_n 0, 1) := by decide +kernel
theorem d_F_mark_30 : decode b_F_mark 30 = .ok (.getfield 10, 3) := by decide +kernel
theorem d_F_mark_33 : decode b_F_mark 33 = .ok (.getfield 59, 3) := by decide +kernel
theorem d_F_mark_36 : decode b_F_mark 36 = .ok (.iload_n 3, 1) := by decide +kernel
theorem d_F_mark_37 : decode b_F_mark 37 = .ok (.invokevirtual 49, 3) := by decide +kernel
theorem d_F_mark_40 : decode b_F_mark 40 = .ok (.ifCond .ne 5, 3) := by decide +kernel
theorem d_F_mark_43 : decode b_F_mark 43 = .ok (.iconst (-1), 1) := by decide +kernel
theorem d_F_mark_44 : decode b_F_mark 44 = .ok (.ireturn, 1) := by decide +kernel
theorem d_F_mark_45 : decode b_F_mark 45 = .ok (.aload_n 0, 1) := by decide +kernel
theorem d_F_mark_46 : decode b_F_mark 46 = .ok (.getfield 10, 3) := by decide +kernel
theorem d_F_mark_49 : decode b_F_mark 49 = .ok (.getfield 70, 3) := by decide +kernel
theorem d_F_mark_52 : decode b_F_mark 52 = .ok (.iload_n 1, 1) := by decide +kernel
theorem d_F_mark_53 : decode b_F_mark 53 = .ok (.iload_n 2, 1) := by decide +kernel
theorem d_F_mark_54 : decode b_F_mark 54 = .ok (.iload_n 3, 1) := by decide +kernel
theorem d_F_mark_55 : decode b_F_mark 55 = .ok (.invokevirtual 74, 3) := by decide +kernel
theorem d_F_mark_58 : decode b_F_mark 58 = .ok (.ireturn, 1) := by decide +kernel
theorem d_F_type_0 : decode b_F_type 0 = .ok (.lload_n 3, 1) := by decide +kernel
theorem d_F_type_1 : decode b_F_type 1 = .ok (.invokestatic 79, 3) := by decide +kernel
theorem d_F_type_4 : decode b_F_type 4 = .ok (.istore 5, 2) := by decide +kernel
theorem d_F_type_6 : decode b_F_type 6 = .ok (.aload_n 0, 1) := by decide +kernel
theorem d_F_type_7 : decode b_F_type 7 = .ok (.getfield 10, 3) := by decide +kernel
theorem d_F_type_10 : decode b_F_type 10 = .ok (.getfield 59, 3) := by decide +kernel
theorem d_F_type_13 : decode b_F_type 13 = .ok (.iload_n 1, 1) := by decide +kernel
theorem d_F_type_14 : decode b_F_type 14 = .ok (.invokevirtual 49, 3) := by decide +kernel
theorem d_F_type_17 : decode b_F_type 17 = .ok (.ifCond .eq 32, 3) := by decide +kernel
theorem d_F_type_20 : decode b_F_type 20 = .ok (.aload_n 0, 1) := by decide +kernel
theorem d_F_type_21 : decode b_F_type 21 = .ok (.getfield 10, 3) := by decide +kernel
theorem d_F_type_24 : decode b_F_type 24 = .ok (.getfield 70, 3) := by decide +kernel
theorem d_F_type_27 : decode b_F_type 27 = .ok (.iload_n 2, 1) := by decide +kernel
theorem d_F_type_28 : decode b_F_type 28 = .ok (.invokevirtual 83, 3) := by decide +kernel
theorem d_F_type_31 : decode b_F_type 31 = .ok (.ifCond .eq 18, 3) := by decide +kernel
theorem d_F_type_34 : decode b_F_type 34 = .ok (.aload_n 0, 1) := by decide +kernel
theorem d_F_type_35 : decode b_F_type 35 = .ok (.getfield 10, 3) := by decide +kernel
theorem d_F_type_38 : decode b_F_type 38 = .ok (.getfield 84, 3) := by decide +kernel
theorem d_F_type_41 : decode b_F_type 41 = .ok (.iload 5, 2) := by decide +kernel
theorem d_F_type_43 : decode b_F_type 43 = .ok (.invokevirtual 88, 3) := by decide +kernel
theorem d_F_type_46 : decode b_F_type 46 = .ok (.ifCond .ne 5, 3) := by decide +kernel
theorem d_F_type_49 : decode b_F_type 49 = .ok (.iconst (-1), 1) := by decide +kernel
theorem d_F_type_50 : decode b_F_type 50 = .ok (.ireturn, 1) := by decide +kernel
theorem d_F_type_51 : decode b_F_type 51 = .ok (.aload_n 0, 1) := by decide +kernel
theorem d_F_type_52 : decode b_F_type 52 = .ok (.getfield 10, 3) := by decide +kernel
theorem d_F_type_55 : decode b_F_type 55 = .ok (.getfield 84, 3) := by decide +kernel
theorem d_F_type_58 : decode b_F_type 58 = .ok (.iconst 0, 1) := by decide +kernel
theorem d_F_type_59 : decode b_F_type 59 = .ok (.iload_n 1, 1) := by decide +kernel
theorem d_F_type_60 : decode b_F_type 60 = .ok (.iload_n 2, 1) := by decide +kernel
theorem d_F_type_61 : decode b_F_type 61 = .ok (.iconst (-1), 1) := by decide +kernel
theorem d_F_type_62 : decode b_F_type 62 = .ok (.invokevirtual 93, 3) := by decide +kernel
theorem d_F_type_65 : decode b_F_type 65 = .ok (.pop, 1) := by decide +kernel
theorem d_F_type_66 : decode b_F_type 66 = .ok (.iconst 0, 1) := by decide +kernel
theorem d_F_type_67 : decode b_F_type 67 = .ok (.istore 6, 2) := by decide +kernel
theorem d_F_type_69 : decode b_F_type 69 = .ok (.iload 6, 2) := by decide +kernel
theorem d_F_type_71 : decode b_F_type 71 = .ok (.iload 5, 2) := by decide +kernel
theorem d_F_type_73 : decode b_F_type 73 = .ok (.if_icmp .ge 25, 3) := by decide +kernel
theorem d_F_type_76 : decode b_F_type 76 = .ok (.aload_n 0, 1) := by decide +kernel
theorem d_F_type_77 : decode b_F_type 77 = .ok (.getfield 10, 3) := by decide +kernel
theorem d_F_type_80 : decode b_F_type 80 = .ok (.getfield 84, 3) := by decide +kernel
theorem d_F_type_83 : decode b_F_type 83 = .ok (.lload_n 3, 1) := by decide +kernel
theorem d_F_type_84 : decode b_F_type 84 = .ok (.iload 6, 2) := by decide +kernel
theorem d_F_type_86 : decode b_F_type 86 = .ok (.invokestatic 97, 3) := by decide +kernel
theorem d_F_type_89 : decode b_F_type 89 = .ok (.invokevirtual 101, 3) := by decide +kernel
theorem d_F_type_92 : decode b_F_type 92 = .ok (.iinc 6 1, 3) := by decide +kernel
theorem d_F_type_95 : decode b_F_type 95 = .ok (.goto (-26), 3) := by decide +kernel
theorem d_F_type_98 : decode b_F_type 98 = .ok (.aload_n 0, 1) := by decide +kernel
theorem d_F_type_99 : decode b_F_type 99 = .ok (.getfield 10, 3) := by decide +kernel
theorem d_F_type_102 : decode b_F_type 102 = .ok (.getfield 84, 3) := by decide +kernel
theorem d_F_type_105 : decode b_F_type 105 = .ok (.invokevirtual 105, 3) := by decide +kernel
theorem d_F_type_108 : decode b_F_type 108 = .ok (.ireturn, 1) := by decide +kernel
theorem d_F_end_0 : decode b_F_end 0 = .ok (.aload_n 0, 1) := by decide +kernel
theorem d_F_end_1 : decode b_F_end 1 = .ok (.getfield 10, 3) := by decide +kernel
theorem d_F_end_4 : decode b_F_end 4 = .ok (.getfield 59, 3) := by decide +kernel
theorem d_F_end_7 : decode b_F_end 7 = .ok (.iload_n 1, 1) := by decide +kernel
theorem d_F_end_8 : decode b_F_end 8 = .ok (.invokevirtual 49, 3) := by decide +kernel
theorem d_F_end_11 : decode b_F_end 11 = .ok (.ifCond .eq 32, 3) := by decide +kernel
theorem d_F_end_14 : decode b_F_end 14 = .ok (.aload_n 0, 1) := by decide +kernel
theorem d_F_end_15 : decode b_F_end 15 = .ok (.getfield 10, 3) := by decide +kernel
theorem d_F_end_18 : decode b_F_end 18 = .ok (.getfield 70, 3) := by decide +kernel
theorem d_F_end_21 : decode b_F_end 21 = .ok (.iload_n 2, 1) := by decide +kernel
theorem d_F_end_22 : decode b_F_end 22 = .ok (.invokevirtual 83, 3) := by decide +kernel
theorem d_F_end_25 : decode b_F_end 25 = .ok (.ifCond .eq 18, 3) := by decide +kernel
theorem d_F_end_28 : decode b_F_end 28 = .ok (.aload_n 0, 1) := by decide +kernel
theorem d_F_end_29 : decode b_F_end 29 = .ok (.getfield 10, 3) := by decide +kernel
theorem d_F_end_32 : decode b_F_end 32 = .ok (.getfield 84, 3) := by decide +kernel
theorem d_F_end_35 : decode b_F_end 35 = .ok (.iload 4, 2) := by decide +kernel
theorem d_F_end_37 : decode b_F_end 37 = .ok (.invokevirtual 88, 3) := by decide +kernel
theorem d_F_end_40 : decode b_F_end 40 = .ok (.ifCond .ne 5, 3) := by decide +kernel
theorem d_F_end_43 : decode b_F_end 43 = .ok (.iconst (-1), 1) := by decide +kernel
theorem d_F_end_44 : decode b_F_end 44 = .ok (.ireturn, 1) := by decide +kernel
theorem d_F_end_45 : decode b_F_end 45 = .ok (.iload_n 3, 1) := by decide +kernel
theorem d_F_end_46 : decode b_F_end 46 = .ok (.iconst (-1), 1) := by decide +kernel
theorem d_F_end_47 : decode b_F_end 47 = .ok (.if_icmp .eq 19, 3) := by decide +kernel
theorem d_F_end_50 : decode b_F_end 50 = .ok (.aload_n 0, 1) := by decide +kernel
theorem d_F_end_51 : decode b_F_end 51 = .ok (.getfield 10, 3) := by decide +kernel
theorem d_F_end_54 : decode b_F_end 54 = .ok (.getfield 45, 3) := by decide +kernel
theorem d_F_end_57 : decode b_F_end 57 = .ok (.iload_n 3, 1) := by decide +kernel
theorem d_F_end_58 : decode b_F_end 58 = .ok (.invokevirtual 49, 3) := by decide +kernel
theorem d_F_end_61 : decode b_F_end 61 = .ok (.ifCond .ne 5, 3) := by decide +kernel
theorem d_F_end_64 : decode b_F_end 64 = .ok (.iconst (-1), 1) := by decide +kernel
theorem d_F_end_65 : decode b_F_end 65 = .ok (.ireturn, 1) := by decide +kernel
theorem d_F_end_66 : decode b_F_end 66 = .ok (.aload_n 0, 1) := by decide +kernel
theorem d_F_end_67 : decode b_F_end 67 = .ok (.getfield 10, 3) := by decide +kernel
theorem d_F_end_70 : decode b_F_end 70 = .ok (.getfield 84, 3) := by decide +kernel
theorem d_F_end_73 : decode b_F_end 73 = .ok (.iconst 1, 1) := by decide +kernel
theorem d_F_end_74 : decode b_F_end 74 = .ok (.iload_n 1, 1) := by decide +kernel
theorem d_F_end_75 : decode b_F_end 75 = .ok (.iload_n 2, 1) := by decide +kernel
theorem d_F_end_76 : decode b_F_end 76 = .ok (.iload_n 3, 1) := by decide +kernel
theorem d_F_end_77 : decode b_F_end 77 = .ok (.invokevirtual 93, 3) := by decide +kernel
theorem d_F_end_80 : decode b_F_end 80 = .ok (.pop, 1) := by decide +kernel
theorem d_F_end_81 : decode b_F_end 81 = .ok (.iconst 0, 1) := by decide +kernel
theorem d_F_end_82 : decode b_F_end 82 = .ok (.istore 5, 2) := by decide +kernel
theorem d_F_end_84 : decode b_F_end 84 = .ok (.iload 5, 2) := by decide +kernel
theorem d_F_end_86 : decode b_F_end 86 = .ok (.iload 4, 2) := by decide +kernel
theorem d_F_end_88 : decode b_F_end 88 = .ok (.if_icmp .ge 21, 3) := by decide +kernel
theorem d_F_end_91 : decode b_F_end 91 = .ok (.aload_n 0, 1) := by decide +kernel
theorem d_F_end_92 : decode b_F_end 92 = .ok (.getfield 10, 3) := by decide +kernel
theorem d_F_end_95 : decode b_F_end 95 = .ok (.getfield 84, 3) := by decide +kernel
theorem d_F_end_98 : decode b_F_end 98 = .ok (.bipush 10, 2) := by decide +kernel
theorem d_F_end_100 : decode b_F_end 100 = .ok (.invokevirtual 101, 3) := by decide +kernel
theorem d_F_end_103 : decode b_F_end 103 = .ok (.iinc 5 1, 3) := by decide +kernel
theorem d_F_end_106 : decode b_F_end 106 = .ok (.goto (-22), 3) := by decide +kernel
theorem d_F_end_109 : decode b_F_end 109 = .ok (.aload_n 0, 1) := by decide +kernel
theorem d_F_end_110 : decode b_F_end 110 = .ok (.getfield 10, 3) := by decide +kernel
theorem d_F_end_113 : decode b_F_end 113 = .ok (.getfield 84, 3) := by decide +kernel
theorem d_F_end_116 : decode b_F_end 116 = .ok (.invokevirtual 105, 3) := by decide +kernel
theorem d_F_end_119 : decode b_F_end 119 = .ok (.ireturn, 1) := by decide +kernel
theorem d_F_count_0 : decode b_F_count 0 = .ok (.iload_n 1, 1) := by decide +kernel
theorem d_F_count_1 : decode b_F_count 1 = .ok (.tableswitch 102 0 5 #[39, 50, 61, 72, 83, 94], 39) := by decide +kernel
theorem d_F_count_40 : decode b_F_count 40 = .ok (.aload_n 0, 1) := by decide +kernel
theorem d_F_count_41 : decode b_F_count 41 = .ok (.getfield 10, 3) := by decide +kernel
theorem d_F_count_44 : decode b_F_count 44 = .ok (.getfield 45, 3) := by decide +kernel
theorem d_F_count_47 : decode b_F_count 47 = .ok (.invokevirtual 108, 3) := by decide +kernel
theorem d_F_count_50 : decode b_F_count 50 = .ok (.ireturn, 1) := by decide +kernel
theorem d_F_count_51 : decode b_F_count 51 = .ok (.aload_n 0, 1) := by decide +kernel
theorem d_F_count_52 : decode b_F_count 52 = .ok (.getfield 10, 3) := by decide +kernel
theorem d_F_count_55 : decode b_F_count 55 = .ok (.getfield 59, 3) := by decide +kernel
theorem d_F_count_58 : decode b_F_count 58 = .ok (.invokevirtual 108, 3) := by decide +kernel
theorem d_F_count_61 : decode b_F_count 61 = .ok (.ireturn, 1) := by decide +kernel
theorem d_F_count_62 : decode b_F_count 62 = .ok (.aload_n 0, 1) := by decide +kernel
theorem d_F_count_63 : decode b_F_count 63 = .ok (.getfield 10, 3) := by decide +kernel
theorem d_F_count_66 : decode b_F_count 66 = .ok (.getfield 70, 3) := by decide +kernel
theorem d_F_count_69 : decode b_F_count 69 = .ok (.invokevirtual 109, 3) := by decide +kernel
theorem d_F_count_72 : decode b_F_count 72 = .ok (.ireturn, 1) := by decide +kernel
theorem d_F_count_73 : decode b_F_count 73 = .ok (.aload_n 0, 1) := by decide +kernel
theorem d_F_count_74 : decode b_F_count 74 = .ok (.getfield 10, 3) := by decide +kernel
theorem d_F_count_77 : decode b_F_count 77 = .ok (.getfield 84, 3) := by decide +kernel
theorem d_F_count_80 : decode b_F_count 80 = .ok (.invokevirtual 105, 3) := by decide +kernel
theorem d_F_count_83 : decode b_F_count 83 = .ok (.ireturn, 1) := by decide +kernel
theorem d_F_count_84 : decode b_F_count 84 = .ok (.aload_n 0, 1) := by decide +kernel
theorem d_F_count_85 : decode b_F_count 85 = .ok (.getfield 10, 3) := by decide +kernel
theorem d_F_count_88 : decode b_F_count 88 = .ok (.getfield 84, 3) := by decide +kernel
theorem d_F_count_91 : decode b_F_count 91 = .ok (.invokevirtual 110, 3) := by decide +kernel
theorem d_F_count_94 : decode b_F_count 94 = .ok (.ireturn, 1) := by decide +kernel
theorem d_F_count_95 : decode b_F_count 95 = .ok (.aload_n 0, 1) := by decide +kernel
theorem d_F_count_96 : decode b_F_count 96 = .ok (.getfield 22, 3) := by decide +kernel
theorem d_F_count_99 : decode b_F_count 99 = .ok (.invokevirtual 113, 3) := by decide +kernel
theorem d_F_count_102 : decode b_F_count 102 = .ok (.ireturn, 1) := by decide +kernel
theorem d_F_count_103 : decode b_F_count 103 = .ok (.iconst (-1), 1) := by decide +kernel
theorem d_F_count_104 : decode b_F_count 104 = .ok (.ireturn, 1) := by decide +kernel
theorem d_F_base_0 : decode b_F_base 0 = .ok (.aload_n 0, 1) := by decide +kernel
theorem d_F_base_1 : decode b_F_base 1 = .ok (.getfield 10, 3) := by decide +kernel
theorem d_F_base_4 : decode b_F_base 4 = .ok (.iload_n 1, 1) := by decide +kernel
theorem d_F_base_5 : decode b_F_base 5 = .ok (.invokevirtual 116, 3) := by decide +kernel
theorem d_F_base_8 : decode b_F_base 8 = .ok (.ireturn, 1) := by decide +kernel
theorem d_F_value_0 : decode b_F_value 0 = .ok (.iload_n 1, 1) := by decide +kernel
theorem d_F_value_1 : decode b_F_value 1 = .ok (.ifCond .ne 16, 3) := by decide +kernel
theorem d_F_value_4 : decode b_F_value 4 = .ok (.aload_n 0, 1) := by decide +kernel
theorem d_F_value_5 : decode b_F_value 5 = .ok (.getfield 10, 3) := by decide +kernel
theorem d_F_value_8 : decode b_F_value 8 = .ok (.getfield 45, 3) := by decide +kernel
theorem d_F_value_11 : decode b_F_value 11 = .ok (.iload_n 2, 1) := by decide +kernel
theorem d_F_value_12 : decode b_F_value 12 = .ok (.iload_n 3, 1) := by decide +kernel
theorem d_F_value_13 : decode b_F_value 13 = .ok (.invokevirtual 119, 3) := by decide +kernel
theorem d_F_value_16 : decode b_F_value 16 = .ok (.ireturn, 1) := by decide +kernel
theorem d_F_value_17 : decode b_F_value 17 = .ok (.iload_n 1, 1) := by decide +kernel
theorem d_F_value_18 : decode b_F_value 18 = .ok (.iconst 1, 1) := by decide +kernel
theorem d_F_value_19 : decode b_F_value 19 = .ok (.if_icmp .ne 18, 3) := by decide +kernel
theorem d_F_value_22 : decode b_F_value 22 = .ok (.aload_n 0, 1) := by decide +kernel
theorem d_F_value_23 : decode b_F_value 23 = .ok (.getfield 10, 3) := by decide +kernel
theorem d_F_value_26 : decode b_F_value 26 = .ok (.getfield 59, 3) := by decide +kernel
theorem d_F_value_29 : decode b_F_value 29 = .ok (.iload_n 2, 1) := by decide +kernel
theorem d_F_value_30 : decode b_F_value 30 = .ok (.iload_n 3, 1) := by decide +kernel
theorem d_F_value_31 : decode b_F_value 31 = .ok (.invokevirtual 119, 3) := by decide +kernel
theorem d_F_value_34 : decode b_F_value 34 = .ok (.goto 5, 3) := by decide +kernel
theorem d_F_value_37 : decode b_F_value 37 = .ok (.bipush (-2), 2) := by decide +kernel
theorem d_F_value_39 : decode b_F_value 39 = .ok (.ireturn, 1) := by decide +kernel
theorem d_F_changes_0 : decode b_F_changes 0 = .ok (.aload_n 0, 1) := by decide +kernel
theorem d_F_changes_1 : decode b_F_changes 1 = .ok (.getfield 10, 3) := by decide +kernel
theorem d_F_changes_4 : decode b_F_changes 4 = .ok (.getfield 70, 3) := by decide +kernel
theorem d_F_changes_7 : decode b_F_changes 7 = .ok (.iload_n 1, 1) := by decide +kernel
theorem d_F_changes_8 : decode b_F_changes 8 = .ok (.iload_n 2, 1) := by decide +kernel
theorem d_F_changes_9 : decode b_F_changes 9 = .ok (.invokevirtual 123, 3) := by decide +kernel
theorem d_F_changes_12 : decode b_F_changes 12 = .ok (.ireturn, 1) := by decide +kernel
theorem d_F_run_0 : decode b_F_run 0 = .ok (.aload_n 0, 1) := by decide +kernel
theorem d_F_run_1 : decode b_F_run 1 = .ok (.getfield 10, 3) := by decide +kernel
theorem d_F_run_4 : decode b_F_run 4 = .ok (.getfield 84, 3) := by decide +kernel
theorem d_F_run_7 : decode b_F_run 7 = .ok (.iload_n 1, 1) := by decide +kernel
theorem d_F_run_8 : decode b_F_run 8 = .ok (.iload_n 2, 1) := by decide +kernel
theorem d_F_run_9 : decode b_F_run 9 = .ok (.invokevirtual 126, 3) := by decide +kernel
theorem d_F_run_12 : decode b_F_run 12 = .ok (.ireturn, 1) := by decide +kernel
theorem d_F_at_0 : decode b_F_at 0 = .ok (.aload_n 0, 1) := by decide +kernel
theorem d_F_at_1 : decode b_F_at 1 = .ok (.getfield 10, 3) := by decide +kernel
theorem d_F_at_4 : decode b_F_at 4 = .ok (.getfield 84, 3) := by decide +kernel
theorem d_F_at_7 : decode b_F_at 7 = .ok (.iload_n 1, 1) := by decide +kernel
theorem d_F_at_8 : decode b_F_at 8 = .ok (.invokevirtual 127, 3) := by decide +kernel
theorem d_F_at_11 : decode b_F_at 11 = .ok (.ireturn, 1) := by decide +kernel
theorem d_F_save_0 : decode b_F_save 0 = .ok (.aload_n 0, 1) := by decide +kernel
theorem d_F_save_1 : decode b_F_save 1 = .ok (.getfield 38, 3) := by decide +kernel
theorem d_F_save_4 : decode b_F_save 4 = .ok (.aload_n 0, 1) := by decide +kernel
theorem d_F_save_5 : decode b_F_save 5 = .ok (.getfield 10, 3) := by decide +kernel
theorem d_F_save_8 : decode b_F_save 8 = .ok (.invokevirtual 130, 3) := by decide +kernel
theorem d_F_save_11 : decode b_F_save 11 = .ok (.aload_n 0, 1) := by decide +kernel
theorem d_F_save_12 : decode b_F_save 12 = .ok (.getfield 22, 3) := by decide +kernel
theorem d_F_save_15 : decode b_F_save 15 = .ok (.invokevirtual 113, 3) := by decide +kernel
theorem d_F_save_18 : decode b_F_save 18 = .ok (.ireturn, 1) := by decide +kernel
theorem d_F_open_0 : decode b_F_open 0 = .ok (.aload_n 0, 1) := by decide +kernel
theorem d_F_open_1 : decode b_F_open 1 = .ok (.getfield 31, 3) := by decide +kernel
theorem d_F_open_4 : decode b_F_open 4 = .ok (.aload_n 0, 1) := by decide +kernel
theorem d_F_open_5 : decode b_F_open 5 = .ok (.getfield 16, 3) := by decide +kernel
theorem d_F_open_8 : decode b_F_open 8 = .ok (.invokevirtual 134, 3) := by decide +kernel
theorem d_F_open_11 : decode b_F_open 11 = .ok (.istore_n 1, 1) := by decide +kernel
theorem d_F_open_12 : decode b_F_open 12 = .ok (.iload_n 1, 1) := by decide +kernel
theorem d_F_open_13 : decode b_F_open 13 = .ok (.iconst (-1), 1) := by decide +kernel
theorem d_F_open_14 : decode b_F_open 14 = .ok (.if_icmp .eq 7, 3) := by decide +kernel
theorem d_F_open_17 : decode b_F_open 17 = .ok (.iload_n 1, 1) := by decide +kernel
theorem d_F_open_18 : decode b_F_open 18 = .ok (.iconst 1, 1) := by decide +kernel
theorem d_F_open_19 : decode b_F_open 19 = .ok (.iadd, 1) := by decide +kernel
theorem d_F_open_20 : decode b_F_open 20 = .ok (.ireturn, 1) := by decide +kernel
theorem d_F_open_21 : decode b_F_open 21 = .ok (.aload_n 0, 1) := by decide +kernel
theorem d_F_open_22 : decode b_F_open 22 = .ok (.getfield 10, 3) := by decide +kernel
theorem d_F_open_25 : decode b_F_open 25 = .ok (.astore_n 2, 1) := by decide +kernel
theorem d_F_open_26 : decode b_F_open 26 = .ok (.aload_n 0, 1) := by decide +kernel
theorem d_F_open_27 : decode b_F_open 27 = .ok (.aload_n 0, 1) := by decide +kernel
theorem d_F_open_28 : decode b_F_open 28 = .ok (.getfield 16, 3) := by decide +kernel
theorem d_F_open_31 : decode b_F_open 31 = .ok (.putfield 10, 3) := by decide +kernel
theorem d_F_open_34 : decode b_F_open 34 = .ok (.aload_n 0, 1) := by decide +kernel
theorem d_F_open_35 : decode b_F_open 35 = .ok (.aload_n 2, 1) := by decide +kernel
theorem d_F_open_36 : decode b_F_open 36 = .ok (.putfield 16, 3) := by decide +kernel
theorem d_F_open_39 : decode b_F_open 39 = .ok (.iconst 0, 1) := by decide +kernel
theorem d_F_open_40 : decode b_F_open 40 = .ok (.ireturn, 1) := by decide +kernel
theorem d_F_octet_0 : decode b_F_octet 0 = .ok (.aload_n 0, 1) := by decide +kernel
theorem d_F_octet_1 : decode b_F_octet 1 = .ok (.getfield 22, 3) := by decide +kernel
theorem d_F_octet_4 : decode b_F_octet 4 = .ok (.iload_n 1, 1) := by decide +kernel
theorem d_F_octet_5 : decode b_F_octet 5 = .ok (.invokevirtual 138, 3) := by decide +kernel
theorem d_F_octet_8 : decode b_F_octet 8 = .ok (.ireturn, 1) := by decide +kernel
theorem d_F_alter_0 : decode b_F_alter 0 = .ok (.iload_n 1, 1) := by decide +kernel
theorem d_F_alter_1 : decode b_F_alter 1 = .ok (.aload_n 0, 1) := by decide +kernel
theorem d_F_alter_2 : decode b_F_alter 2 = .ok (.getfield 22, 3) := by decide +kernel
theorem d_F_alter_5 : decode b_F_alter 5 = .ok (.invokevirtual 113, 3) := by decide +kernel
theorem d_F_alter_8 : decode b_F_alter 8 = .ok (.if_icmp .ne 14, 3) := by decide +kernel
theorem d_F_alter_11 : decode b_F_alter 11 = .ok (.aload_n 0, 1) := by decide +kernel
theorem d_F_alter_12 : decode b_F_alter 12 = .ok (.getfield 22, 3) := by decide +kernel
theorem d_F_alter_15 : decode b_F_alter 15 = .ok (.iload_n 2, 1) := by decide +kernel
theorem d_F_alter_16 : decode b_F_alter 16 = .ok (.invokevirtual 140, 3) := by decide +kernel
theorem d_F_alter_19 : decode b_F_alter 19 = .ok (.goto 12, 3) := by decide +kernel
theorem d_F_alter_22 : decode b_F_alter 22 = .ok (.aload_n 0, 1) := by decide +kernel
theorem d_F_alter_23 : decode b_F_alter 23 = .ok (.getfield 22, 3) := by decide +kernel
theorem d_F_alter_26 : decode b_F_alter 26 = .ok (.iload_n 1, 1) := by decide +kernel
theorem d_F_alter_27 : decode b_F_alter 27 = .ok (.iload_n 2, 1) := by decide +kernel
theorem d_F_alter_28 : decode b_F_alter 28 = .ok (.invokevirtual 142, 3) := by decide +kernel
theorem d_F_alter_31 : decode b_F_alter 31 = .ok (.ireturn, 1) := by decide +kernel
theorem d_F_cut_0 : decode b_F_cut 0 = .ok (.aload_n 0, 1) := by decide +kernel
theorem d_F_cut_1 : decode b_F_cut 1 = .ok (.getfield 22, 3) := by decide +kernel
theorem d_F_cut_4 : decode b_F_cut 4 = .ok (.iload_n 1, 1) := by decide +kernel
theorem d_F_cut_5 : decode b_F_cut 5 = .ok (.invokevirtual 145, 3) := by decide +kernel
theorem d_F_cut_8 : decode b_F_cut 8 = .ok (.ireturn, 1) := by decide +kernel
theorem d_F_byteOf_0 : decode b_F_byteOf 0 = .ok (.lload_n 0, 1) := by decide +kernel
theorem d_F_byteOf_1 : decode b_F_byteOf 1 = .ok (.bipush 8, 2) := by decide +kernel
theorem d_F_byteOf_3 : decode b_F_byteOf 3 = .ok (.iload_n 2, 1) := by decide +kernel
theorem d_F_byteOf_4 : decode b_F_byteOf 4 = .ok (.imul, 1) := by decide +kernel
theorem d_F_byteOf_5 : decode b_F_byteOf 5 = .ok (.lushr, 1) := by decide +kernel
theorem d_F_byteOf_6 : decode b_F_byteOf 6 = .ok (.l2i, 1) := by decide +kernel
theorem d_F_byteOf_7 : decode b_F_byteOf 7 = .ok (.sipush 255, 3) := by decide +kernel
theorem d_F_byteOf_10 : decode b_F_byteOf 10 = .ok (.iand, 1) := by decide +kernel
theorem d_F_byteOf_11 : decode b_F_byteOf 11 = .ok (.ireturn, 1) := by decide +kernel
theorem d_F_textLength_0 : decode b_F_textLength 0 = .ok (.iconst 0, 1) := by decide +kernel
theorem d_F_textLength_1 : decode b_F_textLength 1 = .ok (.istore_n 2, 1) := by decide +kernel
theorem d_F_textLength_2 : decode b_F_textLength 2 = .ok (.iload_n 2, 1) := by decide +kernel
theorem d_F_textLength_3 : decode b_F_textLength 3 = .ok (.bipush 8, 2) := by decide +kernel
theorem d_F_textLength_5 : decode b_F_textLength 5 = .ok (.if_icmp .ge 30, 3) := by decide +kernel
theorem d_F_textLength_8 : decode b_F_textLength 8 = .ok (.lload_n 0, 1) := by decide +kernel
theorem d_F_textLength_9 : decode b_F_textLength 9 = .ok (.iload_n 2, 1) := by decide +kernel
theorem d_F_textLength_10 : decode b_F_textLength 10 = .ok (.invokestatic 97, 3) := by decide +kernel
theorem d_F_textLength_13 : decode b_F_textLength 13 = .ok (.istore_n 3, 1) := by decide +kernel
theorem d_F_textLength_14 : decode b_F_textLength 14 = .ok (.iload_n 3, 1) := by decide +kernel
theorem d_F_textLength_15 : decode b_F_textLength 15 = .ok (.ifCond .ne 5, 3) := by decide +kernel
theorem d_F_textLength_18 : decode b_F_textLength 18 = .ok (.iload_n 2, 1) := by decide +kernel
theorem d_F_textLength_19 : decode b_F_textLength 19 = .ok (.ireturn, 1) := by decide +kernel
theorem d_F_textLength_20 : decode b_F_textLength 20 = .ok (.iload_n 3, 1) := by decide +kernel
theorem d_F_textLength_21 : decode b_F_textLength 21 = .ok (.invokestatic 148, 3) := by decide +kernel
theorem d_F_textLength_24 : decode b_F_textLength 24 = .ok (.ifCond .ne 5, 3) := by decide +kernel
theorem d_F_textLength_27 : decode b_F_textLength 27 = .ok (.iconst 0, 1) := by decide +kernel
theorem d_F_textLength_28 : decode b_F_textLength 28 = .ok (.ireturn, 1) := by decide +kernel
theorem d_F_textLength_29 : decode b_F_textLength 29 = .ok (.iinc 2 1, 3) := by decide +kernel
theorem d_F_textLength_32 : decode b_F_textLength 32 = .ok (.goto (-30), 3) := by decide +kernel
theorem d_F_textLength_35 : decode b_F_textLength 35 = .ok (.bipush 8, 2) := by decide +kernel
theorem d_F_textLength_37 : decode b_F_textLength 37 = .ok (.ireturn, 1) := by decide +kernel
