theorem d_D_init_0 : decode b_D_init 0 = .ok (.aload_n 0, 1) := by decide +kernel
theorem d_D_init_1 : decode b_D_init 1 = .ok (.invokespecial 3, 3) := by decide +kernel
theorem d_D_init_4 : decode b_D_init 4 = .ok (.aload_n 0, 1) := by decide +kernel
theorem d_D_init_5 : decode b_D_init 5 = .ok (.new 9, 3) := by decide +kernel
theorem d_D_init_8 : decode b_D_init 8 = .ok (.dup, 1) := by decide +kernel
theorem d_D_init_9 : decode b_D_init 9 = .ok (.bipush 16, 2) := by decide +kernel
theorem d_D_init_11 : decode b_D_init 11 = .ok (.invokespecial 11, 3) := by decide +kernel
theorem d_D_init_14 : decode b_D_init 14 = .ok (.putfield 14, 3) := by decide +kernel
theorem d_D_init_17 : decode b_D_init 17 = .ok (.aload_n 0, 1) := by decide +kernel
theorem d_D_init_18 : decode b_D_init 18 = .ok (.new 9, 3) := by decide +kernel
theorem d_D_init_21 : decode b_D_init 21 = .ok (.dup, 1) := by decide +kernel
theorem d_D_init_22 : decode b_D_init 22 = .ok (.bipush 24, 2) := by decide +kernel
theorem d_D_init_24 : decode b_D_init 24 = .ok (.invokespecial 11, 3) := by decide +kernel
theorem d_D_init_27 : decode b_D_init 27 = .ok (.putfield 20, 3) := by decide +kernel
theorem d_D_init_30 : decode b_D_init 30 = .ok (.aload_n 0, 1) := by decide +kernel
theorem d_D_init_31 : decode b_D_init 31 = .ok (.new 23, 3) := by decide +kernel
theorem d_D_init_34 : decode b_D_init 34 = .ok (.dup, 1) := by decide +kernel
theorem d_D_init_35 : decode b_D_init 35 = .ok (.invokespecial 25, 3) := by decide +kernel
theorem d_D_init_38 : decode b_D_init 38 = .ok (.putfield 26, 3) := by decide +kernel
theorem d_D_init_41 : decode b_D_init 41 = .ok (.aload_n 0, 1) := by decide +kernel
theorem d_D_init_42 : decode b_D_init 42 = .ok (.new 30, 3) := by decide +kernel
theorem d_D_init_45 : decode b_D_init 45 = .ok (.dup, 1) := by decide +kernel
theorem d_D_init_46 : decode b_D_init 46 = .ok (.invokespecial 32, 3) := by decide +kernel
theorem d_D_init_49 : decode b_D_init 49 = .ok (.putfield 33, 3) := by decide +kernel
theorem d_D_init_52 : decode b_D_init 52 = .ok (.aload_n 0, 1) := by decide +kernel
theorem d_D_init_53 : decode b_D_init 53 = .ok (.bipush 16, 2) := by decide +kernel
theorem d_D_init_55 : decode b_D_init 55 = .ok (.newarray .int, 2) := by decide +kernel
theorem d_D_init_57 : decode b_D_init 57 = .ok (.putfield 37, 3) := by decide +kernel
theorem d_D_init_60 : decode b_D_init 60 = .ok (.return_, 1) := by decide +kernel
theorem d_D_empty_0 : decode b_D_empty 0 = .ok (.aload_n 0, 1) := by decide +kernel
theorem d_D_empty_1 : decode b_D_empty 1 = .ok (.getfield 14, 3) := by decide +kernel
theorem d_D_empty_4 : decode b_D_empty 4 = .ok (.invokevirtual 41, 3) := by decide +kernel
theorem d_D_empty_7 : decode b_D_empty 7 = .ok (.aload_n 0, 1) := by decide +kernel
theorem d_D_empty_8 : decode b_D_empty 8 = .ok (.getfield 20, 3) := by decide +kernel
theorem d_D_empty_11 : decode b_D_empty 11 = .ok (.invokevirtual 41, 3) := by decide +kernel
theorem d_D_empty_14 : decode b_D_empty 14 = .ok (.aload_n 0, 1) := by decide +kernel
theorem d_D_empty_15 : decode b_D_empty 15 = .ok (.getfield 26, 3) := by decide +kernel
theorem d_D_empty_18 : decode b_D_empty 18 = .ok (.invokevirtual 44, 3) := by decide +kernel
theorem d_D_empty_21 : decode b_D_empty 21 = .ok (.aload_n 0, 1) := by decide +kernel
theorem d_D_empty_22 : decode b_D_empty 22 = .ok (.getfield 33, 3) := by decide +kernel
theorem d_D_empty_25 : decode b_D_empty 25 = .ok (.invokevirtual 45, 3) := by decide +kernel
theorem d_D_empty_28 : decode b_D_empty 28 = .ok (.return_, 1) := by decide +kernel
theorem d_D_addStyle_0 : decode b_D_addStyle 0 = .ok (.aload_n 0, 1) := by decide +kernel
theorem d_D_addStyle_1 : decode b_D_addStyle 1 = .ok (.getfield 14, 3) := by decide +kernel
theorem d_D_addStyle_4 : decode b_D_addStyle 4 = .ok (.invokevirtual 46, 3) := by decide +kernel
theorem d_D_addStyle_7 : decode b_D_addStyle 7 = .ok (.istore_n 2, 1) := by decide +kernel
theorem d_D_addStyle_8 : decode b_D_addStyle 8 = .ok (.iload_n 2, 1) := by decide +kernel
theorem d_D_addStyle_9 : decode b_D_addStyle 9 = .ok (.ifCond .lt 16, 3) := by decide +kernel
theorem d_D_addStyle_12 : decode b_D_addStyle 12 = .ok (.iload_n 2, 1) := by decide +kernel
theorem d_D_addStyle_13 : decode b_D_addStyle 13 = .ok (.bipush 16, 2) := by decide +kernel
theorem d_D_addStyle_15 : decode b_D_addStyle 15 = .ok (.if_icmp .ge 10, 3) := by decide +kernel
theorem d_D_addStyle_18 : decode b_D_addStyle 18 = .ok (.aload_n 0, 1) := by decide +kernel
theorem d_D_addStyle_19 : decode b_D_addStyle 19 = .ok (.getfield 37, 3) := by decide +kernel
theorem d_D_addStyle_22 : decode b_D_addStyle 22 = .ok (.iload_n 2, 1) := by decide +kernel
theorem d_D_addStyle_23 : decode b_D_addStyle 23 = .ok (.iload_n 1, 1) := by decide +kernel
theorem d_D_addStyle_24 : decode b_D_addStyle 24 = .ok (.iastore, 1) := by decide +kernel
theorem d_D_addStyle_25 : decode b_D_addStyle 25 = .ok (.iload_n 2, 1) := by decide +kernel
theorem d_D_addStyle_26 : decode b_D_addStyle 26 = .ok (.ireturn, 1) := by decide +kernel
theorem d_D_baseOf_0 : decode b_D_baseOf 0 = .ok (.aload_n 0, 1) := by decide +kernel
theorem d_D_baseOf_1 : decode b_D_baseOf 1 = .ok (.getfield 14, 3) := by decide +kernel
theorem d_D_baseOf_4 : decode b_D_baseOf 4 = .ok (.iload_n 1, 1) := by decide +kernel
theorem d_D_baseOf_5 : decode b_D_baseOf 5 = .ok (.invokevirtual 50, 3) := by decide +kernel
theorem d_D_baseOf_8 : decode b_D_baseOf 8 = .ok (.ifCond .eq 18, 3) := by decide +kernel
theorem d_D_baseOf_11 : decode b_D_baseOf 11 = .ok (.iload_n 1, 1) := by decide +kernel
theorem d_D_baseOf_12 : decode b_D_baseOf 12 = .ok (.bipush 16, 2) := by decide +kernel
theorem d_D_baseOf_14 : decode b_D_baseOf 14 = .ok (.if_icmp .ge 12, 3) := by decide +kernel
theorem d_D_baseOf_17 : decode b_D_baseOf 17 = .ok (.aload_n 0, 1) := by decide +kernel
theorem d_D_baseOf_18 : decode b_D_baseOf 18 = .ok (.getfield 37, 3) := by decide +kernel
theorem d_D_baseOf_21 : decode b_D_baseOf 21 = .ok (.iload_n 1, 1) := by decide +kernel
theorem d_D_baseOf_22 : decode b_D_baseOf 22 = .ok (.iaload, 1) := by decide +kernel
theorem d_D_baseOf_23 : decode b_D_baseOf 23 = .ok (.goto 5, 3) := by decide +kernel
theorem d_D_baseOf_26 : decode b_D_baseOf 26 = .ok (.bipush (-2), 2) := by decide +kernel
theorem d_D_baseOf_28 : decode b_D_baseOf 28 = .ok (.ireturn, 1) := by decide +kernel
theorem d_D_rebase_0 : decode b_D_rebase 0 = .ok (.aload_n 0, 1) := by decide +kernel
theorem d_D_rebase_1 : decode b_D_rebase 1 = .ok (.getfield 14, 3) := by decide +kernel
theorem d_D_rebase_4 : decode b_D_rebase 4 = .ok (.iload_n 1, 1) := by decide +kernel
theorem d_D_rebase_5 : decode b_D_rebase 5 = .ok (.invokevirtual 50, 3) := by decide +kernel
theorem d_D_rebase_8 : decode b_D_rebase 8 = .ok (.ifCond .eq 9, 3) := by decide +kernel
theorem d_D_rebase_11 : decode b_D_rebase 11 = .ok (.iload_n 1, 1) := by decide +kernel
theorem d_D_rebase_12 : decode b_D_rebase 12 = .ok (.bipush 16, 2) := by decide +kernel
theorem d_D_rebase_14 : decode b_D_rebase 14 = .ok (.if_icmp .lt 5, 3) := by decide +kernel
theorem d_D_rebase_17 : decode b_D_rebase 17 = .ok (.iconst 0, 1) := by decide +kernel
theorem d_D_rebase_18 : decode b_D_rebase 18 = .ok (.ireturn, 1) := by decide +kernel
theorem d_D_rebase_19 : decode b_D_rebase 19 = .ok (.aload_n 0, 1) := by decide +kernel
theorem d_D_rebase_20 : decode b_D_rebase 20 = .ok (.getfield 37, 3) := by decide +kernel
theorem d_D_rebase_23 : decode b_D_rebase 23 = .ok (.iload_n 1, 1) := by decide +kernel
theorem d_D_rebase_24 : decode b_D_rebase 24 = .ok (.iload_n 2, 1) := by decide +kernel
theorem d_D_rebase_25 : decode b_D_rebase 25 = .ok (.iastore, 1) := by decide +kernel
theorem d_D_rebase_26 : decode b_D_rebase 26 = .ok (.iload_n 2, 1) := by decide +kernel
theorem d_D_rebase_27 : decode b_D_rebase 27 = .ok (.istore_n 3, 1) := by decide +kernel
theorem d_D_rebase_28 : decode b_D_rebase 28 = .ok (.iconst 0, 1) := by decide +kernel
theorem d_D_rebase_29 : decode b_D_rebase 29 = .ok (.istore 4, 2) := by decide +kernel
theorem d_D_rebase_31 : decode b_D_rebase 31 = .ok (.iload 4, 2) := by decide +kernel
theorem d_D_rebase_33 : decode b_D_rebase 33 = .ok (.bipush 16, 2) := by decide +kernel
theorem d_D_rebase_35 : decode b_D_rebase 35 = .ok (.if_icmp .ge 26, 3) := by decide +kernel
theorem d_D_rebase_38 : decode b_D_rebase 38 = .ok (.iload_n 3, 1) := by decide +kernel
theorem d_D_rebase_39 : decode b_D_rebase 39 = .ok (.ifCond .lt 22, 3) := by decide +kernel
theorem d_D_rebase_42 : decode b_D_rebase 42 = .ok (.iload_n 3, 1) := by decide +kernel
theorem d_D_rebase_43 : decode b_D_rebase 43 = .ok (.iload_n 1, 1) := by decide +kernel
theorem d_D_rebase_44 : decode b_D_rebase 44 = .ok (.if_icmp .ne 5, 3) := by decide +kernel
theorem d_D_rebase_47 : decode b_D_rebase 47 = .ok (.iconst 0, 1) := by decide +kernel
theorem d_D_rebase_48 : decode b_D_rebase 48 = .ok (.ireturn, 1) := by decide +kernel
theorem d_D_rebase_49 : decode b_D_rebase 49 = .ok (.aload_n 0, 1) := by decide +kernel
theorem d_D_rebase_50 : decode b_D_rebase 50 = .ok (.iload_n 3, 1) := by decide +kernel
theorem d_D_rebase_51 : decode b_D_rebase 51 = .ok (.invokevirtual 54, 3) := by decide +kernel
theorem d_D_rebase_54 : decode b_D_rebase 54 = .ok (.istore_n 3, 1) := by decide +kernel
theorem d_D_rebase_55 : decode b_D_rebase 55 = .ok (.iinc 4 1, 3) := by decide +kernel
theorem d_D_rebase_58 : decode b_D_rebase 58 = .ok (.goto (-27), 3) := by decide +kernel
theorem d_D_rebase_61 : decode b_D_rebase 61 = .ok (.iconst 1, 1) := by decide +kernel
theorem d_D_rebase_62 : decode b_D_rebase 62 = .ok (.ireturn, 1) := by decide +kernel
theorem d_D_sameMarks_0 : decode b_D_sameMarks 0 = .ok (.aload_n 0, 1) := by decide +kernel
theorem d_D_sameMarks_1 : decode b_D_sameMarks 1 = .ok (.getfield 26, 3) := by decide +kernel
theorem d_D_sameMarks_4 : decode b_D_sameMarks 4 = .ok (.iload_n 1, 1) := by decide +kernel
theorem d_D_sameMarks_5 : decode b_D_sameMarks 5 = .ok (.iconst 0, 1) := by decide +kernel
theorem d_D_sameMarks_6 : decode b_D_sameMarks 6 = .ok (.invokevirtual 58, 3) := by decide +kernel
theorem d_D_sameMarks_9 : decode b_D_sameMarks 9 = .ok (.aload_n 0, 1) := by decide +kernel
theorem d_D_sameMarks_10 : decode b_D_sameMarks 10 = .ok (.getfield 26, 3) := by decide +kernel
theorem d_D_sameMarks_13 : decode b_D_sameMarks 13 = .ok (.iload_n 2, 1) := by decide +kernel
theorem d_D_sameMarks_14 : decode b_D_sameMarks 14 = .ok (.iconst 0, 1) := by decide +kernel
theorem d_D_sameMarks_15 : decode b_D_sameMarks 15 = .ok (.invokevirtual 58, 3) := by decide +kernel
theorem d_D_sameMarks_18 : decode b_D_sameMarks 18 = .ok (.if_icmp .ne 24, 3) := by decide +kernel
theorem d_D_sameMarks_21 : decode b_D_sameMarks 21 = .ok (.aload_n 0, 1) := by decide +kernel
theorem d_D_sameMarks_22 : decode b_D_sameMarks 22 = .ok (.getfield 26, 3) := by decide +kernel
theorem d_D_sameMarks_25 : decode b_D_sameMarks 25 = .ok (.iload_n 1, 1) := by decide +kernel
theorem d_D_sameMarks_26 : decode b_D_sameMarks 26 = .ok (.iconst 1, 1) := by decide +kernel
theorem d_D_sameMarks_27 : decode b_D_sameMarks 27 = .ok (.invokevirtual 58, 3) := by decide +kernel
theorem d_D_sameMarks_30 : decode b_D_sameMarks 30 = .ok (.aload_n 0, 1) := by decide +kernel
theorem d_D_sameMarks_31 : decode b_D_sameMarks 31 = .ok (.getfield 26, 3) := by decide +kernel
theorem d_D_sameMarks_34 : decode b_D_sameMarks 34 = .ok (.iload_n 2, 1) := by decide +kernel
theorem d_D_sameMarks_35 : decode b_D_sameMarks 35 = .ok (.iconst 1, 1) := by decide +kernel
theorem d_D_sameMarks_36 : decode b_D_sameMarks 36 = .ok (.invokevirtual 58, 3) := by decide +kernel
theorem d_D_sameMarks_39 : decode b_D_sameMarks 39 = .ok (.if_icmp .eq 5, 3) := by decide +kernel
theorem d_D_sameMarks_42 : decode b_D_sameMarks 42 = .ok (.iconst 0, 1) := by decide +kernel
theorem d_D_sameMarks_43 : decode b_D_sameMarks 43 = .ok (.ireturn, 1) := by decide +kernel
theorem d_D_sameMarks_44 : decode b_D_sameMarks 44 = .ok (.aload_n 0, 1) := by decide +kernel
theorem d_D_sameMarks_45 : decode b_D_sameMarks 45 = .ok (.getfield 26, 3) := by decide +kernel
theorem d_D_sameMarks_48 : decode b_D_sameMarks 48 = .ok (.iload_n 1, 1) := by decide +kernel
theorem d_D_sameMarks_49 : decode b_D_sameMarks 49 = .ok (.iconst 2, 1) := by decide +kernel
theorem d_D_sameMarks_50 : decode b_D_sameMarks 50 = .ok (.invokevirtual 58, 3) := by decide +kernel
theorem d_D_sameMarks_53 : decode b_D_sameMarks 53 = .ok (.istore_n 3, 1) := by decide +kernel
theorem d_D_sameMarks_54 : decode b_D_sameMarks 54 = .ok (.aload_n 0, 1) := by decide +kernel
theorem d_D_sameMarks_55 : decode b_D_sameMarks 55 = .ok (.getfield 26, 3) := by decide +kernel
theorem d_D_sameMarks_58 : decode b_D_sameMarks 58 = .ok (.iload_n 2, 1) := by decide +kernel
theorem d_D_sameMarks_59 : decode b_D_sameMarks 59 = .ok (.iconst 2, 1) := by decide +kernel
theorem d_D_sameMarks_60 : decode b_D_sameMarks 60 = .ok (.invokevirtual 58, 3) := by decide +kernel
theorem d_D_sameMarks_63 : decode b_D_sameMarks 63 = .ok (.istore 4, 2) := by decide +kernel
theorem d_D_sameMarks_65 : decode b_D_sameMarks 65 = .ok (.iload_n 3, 1) := by decide +kernel
theorem d_D_sameMarks_66 : decode b_D_sameMarks 66 = .ok (.iload 4, 2) := by decide +kernel
theorem d_D_sameMarks_68 : decode b_D_sameMarks 68 = .ok (.if_icmp .eq 16, 3) := by decide +kernel
theorem d_D_sameMarks_71 : decode b_D_sameMarks 71 = .ok (.aload_n 0, 1) := by decide +kernel
theorem d_D_sameMarks_72 : decode b_D_sameMarks 72 = .ok (.getfield 20, 3) := by decide +kernel
theorem d_D_sameMarks_75 : decode b_D_sameMarks 75 = .ok (.iload_n 3, 1) := by decide +kernel
theorem d_D_sameMarks_76 : decode b_D_sameMarks 76 = .ok (.iload 4, 2) := by decide +kernel
theorem d_D_sameMarks_78 : decode b_D_sameMarks 78 = .ok (.invokevirtual 62, 3) := by decide +kernel
theorem d_D_sameMarks_81 : decode b_D_sameMarks 81 = .ok (.ifCond .eq 7, 3) := by decide +kernel
theorem d_D_sameMarks_84 : decode b_D_sameMarks 84 = .ok (.iconst 1, 1) := by decide +kernel
theorem d_D_sameMarks_85 : decode b_D_sameMarks 85 = .ok (.goto 4, 3) := by decide +kernel
theorem d_D_sameMarks_88 : decode b_D_sameMarks 88 = .ok (.iconst 0, 1) := by decide +kernel
theorem d_D_sameMarks_89 : decode b_D_sameMarks 89 = .ok (.ireturn, 1) := by decide +kernel
theorem d_D_repeatsMark_0 : decode b_D_repeatsMark 0 = .ok (.iconst 0, 1) := by decide +kernel
theorem d_D_repeatsMark_1 : decode b_D_repeatsMark 1 = .ok (.istore_n 2, 1) := by decide +kernel
theorem d_D_repeatsMark_2 : decode b_D_repeatsMark 2 = .ok (.iload_n 2, 1) := by decide +kernel
theorem d_D_repeatsMark_3 : decode b_D_repeatsMark 3 = .ok (.iload_n 1, 1) := by decide +kernel
theorem d_D_repeatsMark_4 : decode b_D_repeatsMark 4 = .ok (.if_icmp .ge 20, 3) := by decide +kernel
theorem d_D_repeatsMark_7 : decode b_D_repeatsMark 7 = .ok (.aload_n 0, 1) := by decide +kernel
theorem d_D_repeatsMark_8 : decode b_D_repeatsMark 8 = .ok (.iload_n 2, 1) := by decide +kernel
theorem d_D_repeatsMark_9 : decode b_D_repeatsMark 9 = .ok (.iload_n 1, 1) := by decide +kernel
theorem d_D_repeatsMark_10 : decode b_D_repeatsMark 10 = .ok (.invokevirtual 66, 3) := by decide +kernel
theorem d_D_repeatsMark_13 : decode b_D_repeatsMark 13 = .ok (.ifCond .eq 5, 3) := by decide +kernel
theorem d_D_repeatsMark_16 : decode b_D_repeatsMark 16 = .ok (.iconst 1, 1) := by decide +kernel
theorem d_D_repeatsMark_17 : decode b_D_repeatsMark 17 = .ok (.ireturn, 1) := by decide +kernel
theorem d_D_repeatsMark_18 : decode b_D_repeatsMark 18 = .ok (.iinc 2 1, 3) := by decide +kernel
theorem d_D_repeatsMark_21 : decode b_D_repeatsMark 21 = .ok (.goto (-19), 3) := by decide +kernel
theorem d_D_repeatsMark_24 : decode b_D_repeatsMark 24 = .ok (.iconst 0, 1) := by decide +kernel
theorem d_D_repeatsMark_25 : decode b_D_repeatsMark 25 = .ok (.ireturn, 1) := by decide +kernel
theorem d_D_goesOn_0 : decode b_D_goesOn 0 = .ok (.iload_n 1, 1) := by decide +kernel
theorem d_D_goesOn_1 : decode b_D_goesOn 1 = .ok (.iconst 1, 1) := by decide +kernel
theorem d_D_goesOn_2 : decode b_D_goesOn 2 = .ok (.isub, 1) := by decide +kernel
theorem d_D_goesOn_3 : decode b_D_goesOn 3 = .ok (.istore_n 2, 1) := by decide +kernel
theorem d_D_goesOn_4 : decode b_D_goesOn 4 = .ok (.iload_n 2, 1) := by decide +kernel
theorem d_D_goesOn_5 : decode b_D_goesOn 5 = .ok (.ifCond .lt 102, 3) := by decide +kernel
theorem d_D_goesOn_8 : decode b_D_goesOn 8 = .ok (.aload_n 0, 1) := by decide +kernel
theorem d_D_goesOn_9 : decode b_D_goesOn 9 = .ok (.getfield 33, 3) := by decide +kernel
theorem d_D_goesOn_12 : decode b_D_goesOn 12 = .ok (.iload_n 2, 1) := by decide +kernel
theorem d_D_goesOn_13 : decode b_D_goesOn 13 = .ok (.iconst 0, 1) := by decide +kernel
theorem d_D_goesOn_14 : decode b_D_goesOn 14 = .ok (.invokevirtual 69, 3) := by decide +kernel
theorem d_D_goesOn_17 : decode b_D_goesOn 17 = .ok (.aload_n 0, 1) := by decide +kernel
theorem d_D_goesOn_18 : decode b_D_goesOn 18 = .ok (.getfield 33, 3) := by decide +kernel
theorem d_D_goesOn_21 : decode b_D_goesOn 21 = .ok (.iload_n 1, 1) := by decide +kernel
theorem d_D_goesOn_22 : decode b_D_goesOn 22 = .ok (.iconst 0, 1) := by decide +kernel
theorem d_D_goesOn_23 : decode b_D_goesOn 23 = .ok (.invokevirtual 69, 3) := by decide +kernel
theorem d_D_goesOn_26 : decode b_D_goesOn 26 = .ok (.if_icmp .ne 81, 3) := by decide +kernel
theorem d_D_goesOn_29 : decode b_D_goesOn 29 = .ok (.aload_n 0, 1) := by decide +kernel
theorem d_D_goesOn_30 : decode b_D_goesOn 30 = .ok (.getfield 33, 3) := by decide +kernel
theorem d_D_goesOn_33 : decode b_D_goesOn 33 = .ok (.iload_n 2, 1) := by decide +kernel
theorem d_D_goesOn_34 : decode b_D_goesOn 34 = .ok (.iconst 3, 1) := by decide +kernel
theorem d_D_goesOn_35 : decode b_D_goesOn 35 = .ok (.invokevirtual 69, 3) := by decide +kernel
theorem d_D_goesOn_38 : decode b_D_goesOn 38 = .ok (.aload_n 0, 1) := by decide +kernel
theorem d_D_goesOn_39 : decode b_D_goesOn 39 = .ok (.getfield 33, 3) := by decide +kernel
theorem d_D_goesOn_42 : decode b_D_goesOn 42 = .ok (.iload_n 1, 1) := by decide +kernel
theorem d_D_goesOn_43 : decode b_D_goesOn 43 = .ok (.iconst 3, 1) := by decide +kernel
theorem d_D_goesOn_44 : decode b_D_goesOn 44 = .ok (.invokevirtual 69, 3) := by decide +kernel
theorem d_D_goesOn_47 : decode b_D_goesOn 47 = .ok (.if_icmp .ne 60, 3) := by decide +kernel
theorem d_D_goesOn_50 : decode b_D_goesOn 50 = .ok (.aload_n 0, 1) := by decide +kernel
theorem d_D_goesOn_51 : decode b_D_goesOn 51 = .ok (.getfield 20, 3) := by decide +kernel
theorem d_D_goesOn_54 : decode b_D_goesOn 54 = .ok (.aload_n 0, 1) := by decide +kernel
theorem d_D_goesOn_55 : decode b_D_goesOn 55 = .ok (.getfield 33, 3) := by decide +kernel
theorem d_D_goesOn_58 : decode b_D_goesOn 58 = .ok (.iload_n 2, 1) := by decide +kernel
theorem d_D_goesOn_59 : decode b_D_goesOn 59 = .ok (.iconst 1, 1) := by decide +kernel
theorem d_D_goesOn_60 : decode b_D_goesOn 60 = .ok (.invokevirtual 69, 3) := by decide +kernel
theorem d_D_goesOn_63 : decode b_D_goesOn 63 = .ok (.aload_n 0, 1) := by decide +kernel
theorem d_D_goesOn_64 : decode b_D_goesOn 64 = .ok (.getfield 33, 3) := by decide +kernel
theorem d_D_goesOn_67 : decode b_D_goesOn 67 = .ok (.iload_n 1, 1) := by decide +kernel
theorem d_D_goesOn_68 : decode b_D_goesOn 68 = .ok (.iconst 1, 1) := by decide +kernel
theorem d_D_goesOn_69 : decode b_D_goesOn 69 = .ok (.invokevirtual 69, 3) := by decide +kernel
theorem d_D_goesOn_72 : decode b_D_goesOn 72 = .ok (.invokevirtual 62, 3) := by decide +kernel
theorem d_D_goesOn_75 : decode b_D_goesOn 75 = .ok (.ifCond .eq 32, 3) := by decide +kernel
theorem d_D_goesOn_78 : decode b_D_goesOn 78 = .ok (.aload_n 0, 1) := by decide +kernel
theorem d_D_goesOn_79 : decode b_D_goesOn 79 = .ok (.aload_n 0, 1) := by decide +kernel
theorem d_D_goesOn_80 : decode b_D_goesOn 80 = .ok (.getfield 33, 3) := by decide +kernel
theorem d_D_goesOn_83 : decode b_D_goesOn 83 = .ok (.iload_n 2, 1) := by decide +kernel
theorem d_D_goesOn_84 : decode b_D_goesOn 84 = .ok (.iconst 2, 1) := by decide +kernel
theorem d_D_goesOn_85 : decode b_D_goesOn 85 = .ok (.invokevirtual 69, 3) := by decide +kernel
theorem d_D_goesOn_88 : decode b_D_goesOn 88 = .ok (.aload_n 0, 1) := by decide +kernel
theorem d_D_goesOn_89 : decode b_D_goesOn 89 = .ok (.getfield 33, 3) := by decide +kernel
theorem d_D_goesOn_92 : decode b_D_goesOn 92 = .ok (.iload_n 1, 1) := by decide +kernel
theorem d_D_goesOn_93 : decode b_D_goesOn 93 = .ok (.iconst 2, 1) := by decide +kernel
theorem d_D_goesOn_94 : decode b_D_goesOn 94 = .ok (.invokevirtual 69, 3) := by decide +kernel
theorem d_D_goesOn_97 : decode b_D_goesOn 97 = .ok (.invokevirtual 66, 3) := by decide +kernel
theorem d_D_goesOn_100 : decode b_D_goesOn 100 = .ok (.ifCond .eq 7, 3) := by decide +kernel
theorem d_D_goesOn_103 : decode b_D_goesOn 103 = .ok (.iconst 1, 1) := by decide +kernel
theorem d_D_goesOn_104 : decode b_D_goesOn 104 = .ok (.goto 4, 3) := by decide +kernel
theorem d_D_goesOn_107 : decode b_D_goesOn 107 = .ok (.iconst 0, 1) := by decide +kernel
theorem d_D_goesOn_108 : decode b_D_goesOn 108 = .ok (.ireturn, 1) := by decide +kernel
