theorem d_R_init_0 : decode b_R_init 0 = .ok (.aload_n 0, 1) := by decide +kernel
theorem d_R_init_1 : decode b_R_init 1 = .ok (.invokespecial 3, 3) := by decide +kernel
theorem d_R_init_4 : decode b_R_init 4 = .ok (.aload_n 0, 1) := by decide +kernel
theorem d_R_init_5 : decode b_R_init 5 = .ok (.aload_n 1, 1) := by decide +kernel
theorem d_R_init_6 : decode b_R_init 6 = .ok (.putfield 9, 3) := by decide +kernel
theorem d_R_init_9 : decode b_R_init 9 = .ok (.aload_n 0, 1) := by decide +kernel
theorem d_R_init_10 : decode b_R_init 10 = .ok (.iconst 0, 1) := by decide +kernel
theorem d_R_init_11 : decode b_R_init 11 = .ok (.putfield 15, 3) := by decide +kernel
theorem d_R_init_14 : decode b_R_init 14 = .ok (.aload_n 0, 1) := by decide +kernel
theorem d_R_init_15 : decode b_R_init 15 = .ok (.iconst 0, 1) := by decide +kernel
theorem d_R_init_16 : decode b_R_init 16 = .ok (.putfield 19, 3) := by decide +kernel
theorem d_R_init_19 : decode b_R_init 19 = .ok (.aload_n 0, 1) := by decide +kernel
theorem d_R_init_20 : decode b_R_init 20 = .ok (.iconst (-1), 1) := by decide +kernel
theorem d_R_init_21 : decode b_R_init 21 = .ok (.putfield 22, 3) := by decide +kernel
theorem d_R_init_24 : decode b_R_init 24 = .ok (.return_, 1) := by decide +kernel
theorem d_R_read_0 : decode b_R_read 0 = .ok (.aload_n 0, 1) := by decide +kernel
theorem d_R_read_1 : decode b_R_read 1 = .ok (.iconst 0, 1) := by decide +kernel
theorem d_R_read_2 : decode b_R_read 2 = .ok (.putfield 15, 3) := by decide +kernel
theorem d_R_read_5 : decode b_R_read 5 = .ok (.aload_n 0, 1) := by decide +kernel
theorem d_R_read_6 : decode b_R_read 6 = .ok (.iconst (-1), 1) := by decide +kernel
theorem d_R_read_7 : decode b_R_read 7 = .ok (.putfield 22, 3) := by decide +kernel
theorem d_R_read_10 : decode b_R_read 10 = .ok (.aload_n 1, 1) := by decide +kernel
theorem d_R_read_11 : decode b_R_read 11 = .ok (.invokevirtual 25, 3) := by decide +kernel
theorem d_R_read_14 : decode b_R_read 14 = .ok (.aload_n 0, 1) := by decide +kernel
theorem d_R_read_15 : decode b_R_read 15 = .ok (.invokevirtual 30, 3) := by decide +kernel
theorem d_R_read_18 : decode b_R_read 18 = .ok (.aload_n 0, 1) := by decide +kernel
theorem d_R_read_19 : decode b_R_read 19 = .ok (.aload_n 1, 1) := by decide +kernel
theorem d_R_read_20 : decode b_R_read 20 = .ok (.invokevirtual 33, 3) := by decide +kernel
theorem d_R_read_23 : decode b_R_read 23 = .ok (.aload_n 0, 1) := by decide +kernel
theorem d_R_read_24 : decode b_R_read 24 = .ok (.iconst 0, 1) := by decide +kernel
theorem d_R_read_25 : decode b_R_read 25 = .ok (.bipush 40, 2) := by decide +kernel
theorem d_R_read_27 : decode b_R_read 27 = .ok (.invokevirtual 37, 3) := by decide +kernel
theorem d_R_read_30 : decode b_R_read 30 = .ok (.istore_n 2, 1) := by decide +kernel
theorem d_R_read_31 : decode b_R_read 31 = .ok (.iconst 0, 1) := by decide +kernel
theorem d_R_read_32 : decode b_R_read 32 = .ok (.istore_n 3, 1) := by decide +kernel
theorem d_R_read_33 : decode b_R_read 33 = .ok (.iload_n 3, 1) := by decide +kernel
theorem d_R_read_34 : decode b_R_read 34 = .ok (.iload_n 2, 1) := by decide +kernel
theorem d_R_read_35 : decode b_R_read 35 = .ok (.if_icmp .ge 21, 3) := by decide +kernel
theorem d_R_read_38 : decode b_R_read 38 = .ok (.aload_n 0, 1) := by decide +kernel
theorem d_R_read_39 : decode b_R_read 39 = .ok (.invokevirtual 41, 3) := by decide +kernel
theorem d_R_read_42 : decode b_R_read 42 = .ok (.ifCond .ne 14, 3) := by decide +kernel
theorem d_R_read_45 : decode b_R_read 45 = .ok (.aload_n 0, 1) := by decide +kernel
theorem d_R_read_46 : decode b_R_read 46 = .ok (.aload_n 1, 1) := by decide +kernel
theorem d_R_read_47 : decode b_R_read 47 = .ok (.invokevirtual 45, 3) := by decide +kernel
theorem d_R_read_50 : decode b_R_read 50 = .ok (.iinc 3 1, 3) := by decide +kernel
theorem d_R_read_53 : decode b_R_read 53 = .ok (.goto (-20), 3) := by decide +kernel
theorem d_R_read_56 : decode b_R_read 56 = .ok (.aload_n 0, 1) := by decide +kernel
theorem d_R_read_57 : decode b_R_read 57 = .ok (.invokevirtual 41, 3) := by decide +kernel
theorem d_R_read_60 : decode b_R_read 60 = .ok (.ifCond .ne 26, 3) := by decide +kernel
theorem d_R_read_63 : decode b_R_read 63 = .ok (.aload_n 0, 1) := by decide +kernel
theorem d_R_read_64 : decode b_R_read 64 = .ok (.getfield 15, 3) := by decide +kernel
theorem d_R_read_67 : decode b_R_read 67 = .ok (.aload_n 0, 1) := by decide +kernel
theorem d_R_read_68 : decode b_R_read 68 = .ok (.getfield 9, 3) := by decide +kernel
theorem d_R_read_71 : decode b_R_read 71 = .ok (.invokevirtual 48, 3) := by decide +kernel
theorem d_R_read_74 : decode b_R_read 74 = .ok (.if_icmp .ge 12, 3) := by decide +kernel
theorem d_R_read_77 : decode b_R_read 77 = .ok (.aload_n 0, 1) := by decide +kernel
theorem d_R_read_78 : decode b_R_read 78 = .ok (.aload_n 0, 1) := by decide +kernel
theorem d_R_read_79 : decode b_R_read 79 = .ok (.getfield 15, 3) := by decide +kernel
theorem d_R_read_82 : decode b_R_read 82 = .ok (.invokevirtual 54, 3) := by decide +kernel
theorem d_R_read_85 : decode b_R_read 85 = .ok (.pop, 1) := by decide +kernel
theorem d_R_read_86 : decode b_R_read 86 = .ok (.aload_n 0, 1) := by decide +kernel
theorem d_R_read_87 : decode b_R_read 87 = .ok (.getfield 22, 3) := by decide +kernel
theorem d_R_read_90 : decode b_R_read 90 = .ok (.ireturn, 1) := by decide +kernel
theorem d_R_failed_0 : decode b_R_failed 0 = .ok (.aload_n 0, 1) := by decide +kernel
theorem d_R_failed_1 : decode b_R_failed 1 = .ok (.getfield 22, 3) := by decide +kernel
theorem d_R_failed_4 : decode b_R_failed 4 = .ok (.iconst (-1), 1) := by decide +kernel
theorem d_R_failed_5 : decode b_R_failed 5 = .ok (.if_icmp .eq 7, 3) := by decide +kernel
theorem d_R_failed_8 : decode b_R_failed 8 = .ok (.iconst 1, 1) := by decide +kernel
theorem d_R_failed_9 : decode b_R_failed 9 = .ok (.goto 4, 3) := by decide +kernel
theorem d_R_failed_12 : decode b_R_failed 12 = .ok (.iconst 0, 1) := by decide +kernel
theorem d_R_failed_13 : decode b_R_failed 13 = .ok (.ireturn, 1) := by decide +kernel
theorem d_R_refuse_0 : decode b_R_refuse 0 = .ok (.aload_n 0, 1) := by decide +kernel
theorem d_R_refuse_1 : decode b_R_refuse 1 = .ok (.iload_n 1, 1) := by decide +kernel
theorem d_R_refuse_2 : decode b_R_refuse 2 = .ok (.putfield 22, 3) := by decide +kernel
theorem d_R_refuse_5 : decode b_R_refuse 5 = .ok (.iconst (-1), 1) := by decide +kernel
theorem d_R_refuse_6 : decode b_R_refuse 6 = .ok (.ireturn, 1) := by decide +kernel
theorem d_R_readHead_0 : decode b_R_readHead 0 = .ok (.iconst 0, 1) := by decide +kernel
theorem d_R_readHead_1 : decode b_R_readHead 1 = .ok (.istore_n 1, 1) := by decide +kernel
theorem d_R_readHead_2 : decode b_R_readHead 2 = .ok (.iload_n 1, 1) := by decide +kernel
theorem d_R_readHead_3 : decode b_R_readHead 3 = .ok (.getstatic 58, 3) := by decide +kernel
theorem d_R_readHead_6 : decode b_R_readHead 6 = .ok (.arraylength, 1) := by decide +kernel
theorem d_R_readHead_7 : decode b_R_readHead 7 = .ok (.if_icmp .ge 48, 3) := by decide +kernel
theorem d_R_readHead_10 : decode b_R_readHead 10 = .ok (.aload_n 0, 1) := by decide +kernel
theorem d_R_readHead_11 : decode b_R_readHead 11 = .ok (.invokevirtual 41, 3) := by decide +kernel
theorem d_R_readHead_14 : decode b_R_readHead 14 = .ok (.ifCond .ne 41, 3) := by decide +kernel
theorem d_R_readHead_17 : decode b_R_readHead 17 = .ok (.aload_n 0, 1) := by decide +kernel
theorem d_R_readHead_18 : decode b_R_readHead 18 = .ok (.getfield 9, 3) := by decide +kernel
theorem d_R_readHead_21 : decode b_R_readHead 21 = .ok (.iload_n 1, 1) := by decide +kernel
theorem d_R_readHead_22 : decode b_R_readHead 22 = .ok (.invokevirtual 62, 3) := by decide +kernel
theorem d_R_readHead_25 : decode b_R_readHead 25 = .ok (.getstatic 58, 3) := by decide +kernel
theorem d_R_readHead_28 : decode b_R_readHead 28 = .ok (.iload_n 1, 1) := by decide +kernel
theorem d_R_readHead_29 : decode b_R_readHead 29 = .ok (.iaload, 1) := by decide +kernel
theorem d_R_readHead_30 : decode b_R_readHead 30 = .ok (.if_icmp .ne 13, 3) := by decide +kernel
theorem d_R_readHead_33 : decode b_R_readHead 33 = .ok (.aload_n 0, 1) := by decide +kernel
theorem d_R_readHead_34 : decode b_R_readHead 34 = .ok (.iload_n 1, 1) := by decide +kernel
theorem d_R_readHead_35 : decode b_R_readHead 35 = .ok (.iconst 1, 1) := by decide +kernel
theorem d_R_readHead_36 : decode b_R_readHead 36 = .ok (.iadd, 1) := by decide +kernel
theorem d_R_readHead_37 : decode b_R_readHead 37 = .ok (.putfield 15, 3) := by decide +kernel
theorem d_R_readHead_40 : decode b_R_readHead 40 = .ok (.goto 9, 3) := by decide +kernel
theorem d_R_readHead_43 : decode b_R_readHead 43 = .ok (.aload_n 0, 1) := by decide +kernel
theorem d_R_readHead_44 : decode b_R_readHead 44 = .ok (.iload_n 1, 1) := by decide +kernel
theorem d_R_readHead_45 : decode b_R_readHead 45 = .ok (.invokevirtual 54, 3) := by decide +kernel
theorem d_R_readHead_48 : decode b_R_readHead 48 = .ok (.pop, 1) := by decide +kernel
theorem d_R_readHead_49 : decode b_R_readHead 49 = .ok (.iinc 1 1, 3) := by decide +kernel
theorem d_R_readHead_52 : decode b_R_readHead 52 = .ok (.goto (-50), 3) := by decide +kernel
theorem d_R_readHead_55 : decode b_R_readHead 55 = .ok (.return_, 1) := by decide +kernel
theorem d_R_readNumber_0 : decode b_R_readNumber 0 = .ok (.aload_n 0, 1) := by decide +kernel
theorem d_R_readNumber_1 : decode b_R_readNumber 1 = .ok (.invokevirtual 41, 3) := by decide +kernel
theorem d_R_readNumber_4 : decode b_R_readNumber 4 = .ok (.ifCond .eq 5, 3) := by decide +kernel
theorem d_R_readNumber_7 : decode b_R_readNumber 7 = .ok (.iconst (-1), 1) := by decide +kernel
theorem d_R_readNumber_8 : decode b_R_readNumber 8 = .ok (.ireturn, 1) := by decide +kernel
theorem d_R_readNumber_9 : decode b_R_readNumber 9 = .ok (.aload_n 0, 1) := by decide +kernel
theorem d_R_readNumber_10 : decode b_R_readNumber 10 = .ok (.aload_n 0, 1) := by decide +kernel
theorem d_R_readNumber_11 : decode b_R_readNumber 11 = .ok (.getfield 15, 3) := by decide +kernel
theorem d_R_readNumber_14 : decode b_R_readNumber 14 = .ok (.putfield 19, 3) := by decide +kernel
theorem d_R_readNumber_17 : decode b_R_readNumber 17 = .ok (.iconst 0, 1) := by decide +kernel
theorem d_R_readNumber_18 : decode b_R_readNumber 18 = .ok (.istore_n 3, 1) := by decide +kernel
theorem d_R_readNumber_19 : decode b_R_readNumber 19 = .ok (.iconst 0, 1) := by decide +kernel
theorem d_R_readNumber_20 : decode b_R_readNumber 20 = .ok (.istore 4, 2) := by decide +kernel
theorem d_R_readNumber_22 : decode b_R_readNumber 22 = .ok (.iload 4, 2) := by decide +kernel
theorem d_R_readNumber_24 : decode b_R_readNumber 24 = .ok (.iconst 3, 1) := by decide +kernel
theorem d_R_readNumber_25 : decode b_R_readNumber 25 = .ok (.if_icmp .ge 102, 3) := by decide +kernel
theorem d_R_readNumber_28 : decode b_R_readNumber 28 = .ok (.aload_n 0, 1) := by decide +kernel
theorem d_R_readNumber_29 : decode b_R_readNumber 29 = .ok (.getfield 9, 3) := by decide +kernel
theorem d_R_readNumber_32 : decode b_R_readNumber 32 = .ok (.aload_n 0, 1) := by decide +kernel
theorem d_R_readNumber_33 : decode b_R_readNumber 33 = .ok (.getfield 15, 3) := by decide +kernel
theorem d_R_readNumber_36 : decode b_R_readNumber 36 = .ok (.invokevirtual 62, 3) := by decide +kernel
theorem d_R_readNumber_39 : decode b_R_readNumber 39 = .ok (.istore 5, 2) := by decide +kernel
theorem d_R_readNumber_41 : decode b_R_readNumber 41 = .ok (.iload 5, 2) := by decide +kernel
theorem d_R_readNumber_43 : decode b_R_readNumber 43 = .ok (.ifCond .lt 16, 3) := by decide +kernel
theorem d_R_readNumber_46 : decode b_R_readNumber 46 = .ok (.iload 4, 2) := by decide +kernel
theorem d_R_readNumber_48 : decode b_R_readNumber 48 = .ok (.ifCond .ne 20, 3) := by decide +kernel
theorem d_R_readNumber_51 : decode b_R_readNumber 51 = .ok (.iload 5, 2) := by decide +kernel
theorem d_R_readNumber_53 : decode b_R_readNumber 53 = .ok (.sipush 128, 3) := by decide +kernel
theorem d_R_readNumber_56 : decode b_R_readNumber 56 = .ok (.if_icmp .ne 12, 3) := by decide +kernel
theorem d_R_readNumber_59 : decode b_R_readNumber 59 = .ok (.aload_n 0, 1) := by decide +kernel
theorem d_R_readNumber_60 : decode b_R_readNumber 60 = .ok (.aload_n 0, 1) := by decide +kernel
theorem d_R_readNumber_61 : decode b_R_readNumber 61 = .ok (.getfield 19, 3) := by decide +kernel
theorem d_R_readNumber_64 : decode b_R_readNumber 64 = .ok (.invokevirtual 54, 3) := by decide +kernel
theorem d_R_readNumber_67 : decode b_R_readNumber 67 = .ok (.ireturn, 1) := by decide +kernel
theorem d_R_readNumber_68 : decode b_R_readNumber 68 = .ok (.aload_n 0, 1) := by decide +kernel
theorem d_R_readNumber_69 : decode b_R_readNumber 69 = .ok (.dup, 1) := by decide +kernel
theorem d_R_readNumber_70 : decode b_R_readNumber 70 = .ok (.getfield 15, 3) := by decide +kernel
theorem d_R_readNumber_73 : decode b_R_readNumber 73 = .ok (.iconst 1, 1) := by decide +kernel
theorem d_R_readNumber_74 : decode b_R_readNumber 74 = .ok (.iadd, 1) := by decide +kernel
theorem d_R_readNumber_75 : decode b_R_readNumber 75 = .ok (.putfield 15, 3) := by decide +kernel
theorem d_R_readNumber_78 : decode b_R_readNumber 78 = .ok (.iload_n 3, 1) := by decide +kernel
theorem d_R_readNumber_79 : decode b_R_readNumber 79 = .ok (.sipush 128, 3) := by decide +kernel
theorem d_R_readNumber_82 : decode b_R_readNumber 82 = .ok (.imul, 1) := by decide +kernel
theorem d_R_readNumber_83 : decode b_R_readNumber 83 = .ok (.iload 5, 2) := by decide +kernel
theorem d_R_readNumber_85 : decode b_R_readNumber 85 = .ok (.bipush 127, 2) := by decide +kernel
theorem d_R_readNumber_87 : decode b_R_readNumber 87 = .ok (.iand, 1) := by decide +kernel
theorem d_R_readNumber_88 : decode b_R_readNumber 88 = .ok (.iadd, 1) := by decide +kernel
theorem d_R_readNumber_89 : decode b_R_readNumber 89 = .ok (.istore_n 3, 1) := by decide +kernel
theorem d_R_readNumber_90 : decode b_R_readNumber 90 = .ok (.iload 5, 2) := by decide +kernel
theorem d_R_readNumber_92 : decode b_R_readNumber 92 = .ok (.sipush 128, 3) := by decide +kernel
theorem d_R_readNumber_95 : decode b_R_readNumber 95 = .ok (.if_icmp .ge 26, 3) := by decide +kernel
theorem d_R_readNumber_98 : decode b_R_readNumber 98 = .ok (.iload_n 3, 1) := by decide +kernel
theorem d_R_readNumber_99 : decode b_R_readNumber 99 = .ok (.iload_n 1, 1) := by decide +kernel
theorem d_R_readNumber_100 : decode b_R_readNumber 100 = .ok (.if_icmp .lt 8, 3) := by decide +kernel
theorem d_R_readNumber_103 : decode b_R_readNumber 103 = .ok (.iload_n 3, 1) := by decide +kernel
theorem d_R_readNumber_104 : decode b_R_readNumber 104 = .ok (.iload_n 2, 1) := by decide +kernel
theorem d_R_readNumber_105 : decode b_R_readNumber 105 = .ok (.if_icmp .le 14, 3) := by decide +kernel
theorem d_R_readNumber_108 : decode b_R_readNumber 108 = .ok (.aload_n 0, 1) := by decide +kernel
theorem d_R_readNumber_109 : decode b_R_readNumber 109 = .ok (.aload_n 0, 1) := by decide +kernel
theorem d_R_readNumber_110 : decode b_R_readNumber 110 = .ok (.getfield 19, 3) := by decide +kernel
theorem d_R_readNumber_113 : decode b_R_readNumber 113 = .ok (.invokevirtual 54, 3) := by decide +kernel
theorem d_R_readNumber_116 : decode b_R_readNumber 116 = .ok (.goto 4, 3) := by decide +kernel
theorem d_R_readNumber_119 : decode b_R_readNumber 119 = .ok (.iload_n 3, 1) := by decide +kernel
theorem d_R_readNumber_120 : decode b_R_readNumber 120 = .ok (.ireturn, 1) := by decide +kernel
theorem d_R_readNumber_121 : decode b_R_readNumber 121 = .ok (.iinc 4 1, 3) := by decide +kernel
theorem d_R_readNumber_124 : decode b_R_readNumber 124 = .ok (.goto (-102), 3) := by decide +kernel
theorem d_R_readNumber_127 : decode b_R_readNumber 127 = .ok (.aload_n 0, 1) := by decide +kernel
theorem d_R_readNumber_128 : decode b_R_readNumber 128 = .ok (.aload_n 0, 1) := by decide +kernel
theorem d_R_readNumber_129 : decode b_R_readNumber 129 = .ok (.getfield 19, 3) := by decide +kernel
theorem d_R_readNumber_132 : decode b_R_readNumber 132 = .ok (.invokevirtual 54, 3) := by decide +kernel
theorem d_R_readNumber_135 : decode b_R_readNumber 135 = .ok (.ireturn, 1) := by decide +kernel
theorem d_R_readStyles_0 : decode b_R_readStyles 0 = .ok (.aload_n 0, 1) := by decide +kernel
theorem d_R_readStyles_1 : decode b_R_readStyles 1 = .ok (.iconst 0, 1) := by decide +kernel
theorem d_R_readStyles_2 : decode b_R_readStyles 2 = .ok (.bipush 16, 2) := by decide +kernel
theorem d_R_readStyles_4 : decode b_R_readStyles 4 = .ok (.invokevirtual 37, 3) := by decide +kernel
theorem d_R_readStyles_7 : decode b_R_readStyles 7 = .ok (.istore_n 2, 1) := by decide +kernel
theorem d_R_readStyles_8 : decode b_R_readStyles 8 = .ok (.iconst 0, 1) := by decide +kernel
theorem d_R_readStyles_9 : decode b_R_readStyles 9 = .ok (.istore_n 3, 1) := by decide +kernel
theorem d_R_readStyles_10 : decode b_R_readStyles 10 = .ok (.iload_n 3, 1) := by decide +kernel
theorem d_R_readStyles_11 : decode b_R_readStyles 11 = .ok (.iload_n 2, 1) := by decide +kernel
theorem d_R_readStyles_12 : decode b_R_readStyles 12 = .ok (.if_icmp .ge 15, 3) := by decide +kernel
theorem d_R_readStyles_15 : decode b_R_readStyles 15 = .ok (.aload_n 1, 1) := by decide +kernel
theorem d_R_readStyles_16 : decode b_R_readStyles 16 = .ok (.iconst (-1), 1) := by decide +kernel
theorem d_R_readStyles_17 : decode b_R_readStyles 17 = .ok (.invokevirtual 65, 3) := by decide +kernel
theorem d_R_readStyles_20 : decode b_R_readStyles 20 = .ok (.pop, 1) := by decide +kernel
theorem d_R_readStyles_21 : decode b_R_readStyles 21 = .ok (.iinc 3 1, 3) := by decide +kernel
theorem d_R_readStyles_24 : decode b_R_readStyles 24 = .ok (.goto (-14), 3) := by decide +kernel
theorem d_R_readStyles_27 : decode b_R_readStyles 27 = .ok (.iconst 0, 1) := by decide +kernel
theorem d_R_readStyles_28 : decode b_R_readStyles 28 = .ok (.istore_n 3, 1) := by decide +kernel
theorem d_R_readStyles_29 : decode b_R_readStyles 29 = .ok (.iload_n 3, 1) := by decide +kernel
theorem d_R_readStyles_30 : decode b_R_readStyles 30 = .ok (.iload_n 2, 1) := by decide +kernel
theorem d_R_readStyles_31 : decode b_R_readStyles 31 = .ok (.if_icmp .ge 31, 3) := by decide +kernel
theorem d_R_readStyles_34 : decode b_R_readStyles 34 = .ok (.aload_n 0, 1) := by decide +kernel
theorem d_R_readStyles_35 : decode b_R_readStyles 35 = .ok (.invokevirtual 41, 3) := by decide +kernel
theorem d_R_readStyles_38 : decode b_R_readStyles 38 = .ok (.ifCond .ne 24, 3) := by decide +kernel
theorem d_R_readStyles_41 : decode b_R_readStyles 41 = .ok (.aload_n 0, 1) := by decide +kernel
theorem d_R_readStyles_42 : decode b_R_readStyles 42 = .ok (.aload_n 1, 1) := by decide +kernel
theorem d_R_readStyles_43 : decode b_R_readStyles 43 = .ok (.iload_n 3, 1) := by decide +kernel
theorem d_R_readStyles_44 : decode b_R_readStyles 44 = .ok (.invokevirtual 68, 3) := by decide +kernel
theorem d_R_readStyles_47 : decode b_R_readStyles 47 = .ok (.aload_n 0, 1) := by decide +kernel
theorem d_R_readStyles_48 : decode b_R_readStyles 48 = .ok (.aload_n 1, 1) := by decide +kernel
theorem d_R_readStyles_49 : decode b_R_readStyles 49 = .ok (.getfield 72, 3) := by decide +kernel
theorem d_R_readStyles_52 : decode b_R_readStyles 52 = .ok (.iload_n 3, 1) := by decide +kernel
theorem d_R_readStyles_53 : decode b_R_readStyles 53 = .ok (.invokevirtual 76, 3) := by decide +kernel
theorem d_R_readStyles_56 : decode b_R_readStyles 56 = .ok (.iinc 3 1, 3) := by decide +kernel
theorem d_R_readStyles_59 : decode b_R_readStyles 59 = .ok (.goto (-30), 3) := by decide +kernel
theorem d_R_readStyles_62 : decode b_R_readStyles 62 = .ok (.return_, 1) := by decide +kernel
theorem d_R_readBase_0 : decode b_R_readBase 0 = .ok (.aload_n 0, 1) := by decide +kernel
theorem d_R_readBase_1 : decode b_R_readBase 1 = .ok (.iconst 0, 1) := by decide +kernel
theorem d_R_readBase_2 : decode b_R_readBase 2 = .ok (.aload_n 1, 1) := by decide +kernel
theorem d_R_readBase_3 : decode b_R_readBase 3 = .ok (.getfield 72, 3) := by decide +kernel
theorem d_R_readBase_6 : decode b_R_readBase 6 = .ok (.invokevirtual 80, 3) := by decide +kernel
theorem d_R_readBase_9 : decode b_R_readBase 9 = .ok (.invokevirtual 37, 3) := by decide +kernel
theorem d_R_readBase_12 : decode b_R_readBase 12 = .ok (.istore_n 3, 1) := by decide +kernel
theorem d_R_readBase_13 : decode b_R_readBase 13 = .ok (.aload_n 0, 1) := by decide +kernel
theorem d_R_readBase_14 : decode b_R_readBase 14 = .ok (.invokevirtual 41, 3) := by decide +kernel
theorem d_R_readBase_17 : decode b_R_readBase 17 = .ok (.ifCond .ne 23, 3) := by decide +kernel
theorem d_R_readBase_20 : decode b_R_readBase 20 = .ok (.aload_n 1, 1) := by decide +kernel
theorem d_R_readBase_21 : decode b_R_readBase 21 = .ok (.iload_n 2, 1) := by decide +kernel
theorem d_R_readBase_22 : decode b_R_readBase 22 = .ok (.iload_n 3, 1) := by decide +kernel
theorem d_R_readBase_23 : decode b_R_readBase 23 = .ok (.iconst 1, 1) := by decide +kernel
theorem d_R_readBase_24 : decode b_R_readBase 24 = .ok (.isub, 1) := by decide +kernel
theorem d_R_readBase_25 : decode b_R_readBase 25 = .ok (.invokevirtual 85, 3) := by decide +kernel
theorem d_R_readBase_28 : decode b_R_readBase 28 = .ok (.ifCond .ne 12, 3) := by decide +kernel
theorem d_R_readBase_31 : decode b_R_readBase 31 = .ok (.aload_n 0, 1) := by decide +kernel
theorem d_R_readBase_32 : decode b_R_readBase 32 = .ok (.aload_n 0, 1) := by decide +kernel
theorem d_R_readBase_33 : decode b_R_readBase 33 = .ok (.getfield 19, 3) := by decide +kernel
theorem d_R_readBase_36 : decode b_R_readBase 36 = .ok (.invokevirtual 54, 3) := by decide +kernel
theorem d_R_readBase_39 : decode b_R_readBase 39 = .ok (.pop, 1) := by decide +kernel
theorem d_R_readBase_40 : decode b_R_readBase 40 = .ok (.return_, 1) := by decide +kernel
theorem d_R_readProperties_0 : decode b_R_readProperties 0 = .ok (.aload_n 0, 1) := by decide +kernel
theorem d_R_readProperties_1 : decode b_R_readProperties 1 = .ok (.iconst 0, 1) := by decide +kernel
theorem d_R_readProperties_2 : decode b_R_readProperties 2 = .ok (.bipush 24, 2) := by decide +kernel
theorem d_R_readProperties_4 : decode b_R_readProperties 4 = .ok (.invokevirtual 37, 3) := by decide +kernel
theorem d_R_readProperties_7 : decode b_R_readProperties 7 = .ok (.istore_n 3, 1) := by decide +kernel
theorem d_R_readProperties_8 : decode b_R_readProperties 8 = .ok (.iconst (-1), 1) := by decide +kernel
theorem d_R_readProperties_9 : decode b_R_readProperties 9 = .ok (.istore 4, 2) := by decide +kernel
theorem d_R_readProperties_11 : decode b_R_readProperties 11 = .ok (.iconst 0, 1) := by decide +kernel
theorem d_R_readProperties_12 : decode b_R_readProperties 12 = .ok (.istore 5, 2) := by decide +kernel
theorem d_R_readProperties_14 : decode b_R_readProperties 14 = .ok (.iload 5, 2) := by decide +kernel
theorem d_R_readProperties_16 : decode b_R_readProperties 16 = .ok (.iload_n 3, 1) := by decide +kernel
theorem d_R_readProperties_17 : decode b_R_readProperties 17 = .ok (.if_icmp .ge 57, 3) := by decide +kernel
theorem d_R_readProperties_20 : decode b_R_readProperties 20 = .ok (.aload_n 0, 1) := by decide +kernel
theorem d_R_readProperties_21 : decode b_R_readProperties 21 = .ok (.invokevirtual 41, 3) := by decide +kernel
theorem d_R_readProperties_24 : decode b_R_readProperties 24 = .ok (.ifCond .ne 50, 3) := by decide +kernel
theorem d_R_readProperties_27 : decode b_R_readProperties 27 = .ok (.aload_n 0, 1) := by decide +kernel
theorem d_R_readProperties_28 : decode b_R_readProperties 28 = .ok (.iload 4, 2) := by decide +kernel
theorem d_R_readProperties_30 : decode b_R_readProperties 30 = .ok (.iconst 1, 1) := by decide +kernel
theorem d_R_readProperties_31 : decode b_R_readProperties 31 = .ok (.iadd, 1) := by decide +kernel
theorem d_R_readProperties_32 : decode b_R_readProperties 32 = .ok (.bipush 23, 2) := by decide +kernel
theorem d_R_readProperties_34 : decode b_R_readProperties 34 = .ok (.invokevirtual 37, 3) := by decide +kernel
theorem d_R_readProperties_37 : decode b_R_readProperties 37 = .ok (.istore 4, 2) := by decide +kernel
theorem d_R_readProperties_39 : decode b_R_readProperties 39 = .ok (.aload_n 0, 1) := by decide +kernel
theorem d_R_readProperties_40 : decode b_R_readProperties 40 = .ok (.iconst 0, 1) := by decide +kernel
theorem d_R_readProperties_41 : decode b_R_readProperties 41 = .ok (.iload 4, 2) := by decide +kernel
theorem d_R_readProperties_43 : decode b_R_readProperties 43 = .ok (.invokestatic 89, 3) := by decide +kernel
theorem d_R_readProperties_46 : decode b_R_readProperties 46 = .ok (.invokevirtual 37, 3) := by decide +kernel
theorem d_R_readProperties_49 : decode b_R_readProperties 49 = .ok (.istore 6, 2) := by decide +kernel
theorem d_R_readProperties_51 : decode b_R_readProperties 51 = .ok (.aload_n 0, 1) := by decide +kernel
theorem d_R_readProperties_52 : decode b_R_readProperties 52 = .ok (.invokevirtual 41, 3) := by decide +kernel
theorem d_R_readProperties_55 : decode b_R_readProperties 55 = .ok (.ifCond .ne 13, 3) := by decide +kernel
theorem d_R_readProperties_58 : decode b_R_readProperties 58 = .ok (.aload_n 1, 1) := by decide +kernel
theorem d_R_readProperties_59 : decode b_R_readProperties 59 = .ok (.iload_n 2, 1) := by decide +kernel
theorem d_R_readProperties_60 : decode b_R_readProperties 60 = .ok (.iload 4, 2) := by decide +kernel
theorem d_R_readProperties_62 : decode b_R_readProperties 62 = .ok (.iload 6, 2) := by decide +kernel
theorem d_R_readProperties_64 : decode b_R_readProperties 64 = .ok (.invokevirtual 92, 3) := by decide +kernel
theorem d_R_readProperties_67 : decode b_R_readProperties 67 = .ok (.pop, 1) := by decide +kernel
theorem d_R_readProperties_68 : decode b_R_readProperties 68 = .ok (.iinc 5 1, 3) := by decide +kernel
theorem d_R_readProperties_71 : decode b_R_readProperties 71 = .ok (.goto (-57), 3) := by decide +kernel
theorem d_R_readProperties_74 : decode b_R_readProperties 74 = .ok (.return_, 1) := by decide +kernel
theorem d_R_readRun_0 : decode b_R_readRun 0 = .ok (.aload_n 0, 1) := by decide +kernel
theorem d_R_readRun_1 : decode b_R_readRun 1 = .ok (.getfield 15, 3) := by decide +kernel
theorem d_R_readRun_4 : decode b_R_readRun 4 = .ok (.istore_n 2, 1) := by decide +kernel
theorem d_R_readRun_5 : decode b_R_readRun 5 = .ok (.aload_n 0, 1) := by decide +kernel
theorem d_R_readRun_6 : decode b_R_readRun 6 = .ok (.iconst 0, 1) := by decide +kernel
theorem d_R_readRun_7 : decode b_R_readRun 7 = .ok (.iconst 1, 1) := by decide +kernel
theorem d_R_readRun_8 : decode b_R_readRun 8 = .ok (.invokevirtual 37, 3) := by decide +kernel
theorem d_R_readRun_11 : decode b_R_readRun 11 = .ok (.istore_n 3, 1) := by decide +kernel
theorem d_R_readRun_12 : decode b_R_readRun 12 = .ok (.iload_n 3, 1) := by decide +kernel
theorem d_R_readRun_13 : decode b_R_readRun 13 = .ok (.iconst 1, 1) := by decide +kernel
theorem d_R_readRun_14 : decode b_R_readRun 14 = .ok (.if_icmp .ne 20, 3) := by decide +kernel
theorem d_R_readRun_17 : decode b_R_readRun 17 = .ok (.aload_n 0, 1) := by decide +kernel
theorem d_R_readRun_18 : decode b_R_readRun 18 = .ok (.iconst 0, 1) := by decide +kernel
theorem d_R_readRun_19 : decode b_R_readRun 19 = .ok (.aload_n 1, 1) := by decide +kernel
theorem d_R_readRun_20 : decode b_R_readRun 20 = .ok (.getfield 72, 3) := by decide +kernel
theorem d_R_readRun_23 : decode b_R_readRun 23 = .ok (.invokevirtual 80, 3) := by decide +kernel
theorem d_R_readRun_26 : decode b_R_readRun 26 = .ok (.invokevirtual 37, 3) := by decide +kernel
theorem d_R_readRun_29 : decode b_R_readRun 29 = .ok (.iconst 1, 1) := by decide +kernel
theorem d_R_readRun_30 : decode b_R_readRun 30 = .ok (.isub, 1) := by decide +kernel
theorem d_R_readRun_31 : decode b_R_readRun 31 = .ok (.goto 4, 3) := by decide +kernel
theorem d_R_readRun_34 : decode b_R_readRun 34 = .ok (.iconst (-1), 1) := by decide +kernel
theorem d_R_readRun_35 : decode b_R_readRun 35 = .ok (.istore 4, 2) := by decide +kernel
theorem d_R_readRun_37 : decode b_R_readRun 37 = .ok (.aload_n 0, 1) := by decide +kernel
theorem d_R_readRun_38 : decode b_R_readRun 38 = .ok (.aload_n 1, 1) := by decide +kernel
theorem d_R_readRun_39 : decode b_R_readRun 39 = .ok (.iconst 0, 1) := by decide +kernel
theorem d_R_readRun_40 : decode b_R_readRun 40 = .ok (.invokevirtual 96, 3) := by decide +kernel
theorem d_R_readRun_43 : decode b_R_readRun 43 = .ok (.istore 5, 2) := by decide +kernel
theorem d_R_readRun_45 : decode b_R_readRun 45 = .ok (.aload_n 0, 1) := by decide +kernel
theorem d_R_readRun_46 : decode b_R_readRun 46 = .ok (.aload_n 1, 1) := by decide +kernel
theorem d_R_readRun_47 : decode b_R_readRun 47 = .ok (.invokevirtual 100, 3) := by decide +kernel
theorem d_R_readRun_50 : decode b_R_readRun 50 = .ok (.istore 6, 2) := by decide +kernel
theorem d_R_readRun_52 : decode b_R_readRun 52 = .ok (.aload_n 0, 1) := by decide +kernel
theorem d_R_readRun_53 : decode b_R_readRun 53 = .ok (.invokevirtual 41, 3) := by decide +kernel
theorem d_R_readRun_56 : decode b_R_readRun 56 = .ok (.ifCond .eq 4, 3) := by decide +kernel
theorem d_R_readRun_59 : decode b_R_readRun 59 = .ok (.return_, 1) := by decide +kernel
theorem d_R_readRun_60 : decode b_R_readRun 60 = .ok (.aload_n 1, 1) := by decide +kernel
theorem d_R_readRun_61 : decode b_R_readRun 61 = .ok (.getfield 104, 3) := by decide +kernel
theorem d_R_readRun_64 : decode b_R_readRun 64 = .ok (.iload_n 3, 1) := by decide +kernel
theorem d_R_readRun_65 : decode b_R_readRun 65 = .ok (.iload 5, 2) := by decide +kernel
theorem d_R_readRun_67 : decode b_R_readRun 67 = .ok (.iload 6, 2) := by decide +kernel
theorem d_R_readRun_69 : decode b_R_readRun 69 = .ok (.iload 4, 2) := by decide +kernel
theorem d_R_readRun_71 : decode b_R_readRun 71 = .ok (.invokevirtual 108, 3) := by decide +kernel
theorem d_R_readRun_74 : decode b_R_readRun 74 = .ok (.istore 7, 2) := by decide +kernel
theorem d_R_readRun_76 : decode b_R_readRun 76 = .ok (.aload_n 1, 1) := by decide +kernel
theorem d_R_readRun_77 : decode b_R_readRun 77 = .ok (.iload 7, 2) := by decide +kernel
theorem d_R_readRun_79 : decode b_R_readRun 79 = .ok (.invokevirtual 114, 3) := by decide +kernel
theorem d_R_readRun_82 : decode b_R_readRun 82 = .ok (.ifCond .eq 9, 3) := by decide +kernel
theorem d_R_readRun_85 : decode b_R_readRun 85 = .ok (.aload_n 0, 1) := by decide +kernel
theorem d_R_readRun_86 : decode b_R_readRun 86 = .ok (.iload_n 2, 1) := by decide +kernel
theorem d_R_readRun_87 : decode b_R_readRun 87 = .ok (.invokevirtual 54, 3) := by decide +kernel
theorem d_R_readRun_90 : decode b_R_readRun 90 = .ok (.pop, 1) := by decide +kernel
theorem d_R_readRun_91 : decode b_R_readRun 91 = .ok (.aload_n 0, 1) := by decide +kernel
theorem d_R_readRun_92 : decode b_R_readRun 92 = .ok (.aload_n 1, 1) := by decide +kernel
theorem d_R_readRun_93 : decode b_R_readRun 93 = .ok (.getfield 104, 3) := by decide +kernel
theorem d_R_readRun_96 : decode b_R_readRun 96 = .ok (.iload_n 3, 1) := by decide +kernel
theorem d_R_readRun_97 : decode b_R_readRun 97 = .ok (.invokevirtual 118, 3) := by decide +kernel
theorem d_R_readRun_100 : decode b_R_readRun 100 = .ok (.return_, 1) := by decide +kernel
theorem d_R_readSet_0 : decode b_R_readSet 0 = .ok (.aload_n 0, 1) := by decide +kernel
theorem d_R_readSet_1 : decode b_R_readSet 1 = .ok (.iconst 0, 1) := by decide +kernel
theorem d_R_readSet_2 : decode b_R_readSet 2 = .ok (.aload_n 1, 1) := by decide +kernel
theorem d_R_readSet_3 : decode b_R_readSet 3 = .ok (.getfield 122, 3) := by decide +kernel
theorem d_R_readSet_6 : decode b_R_readSet 6 = .ok (.invokevirtual 80, 3) := by decide +kernel
theorem d_R_readSet_9 : decode b_R_readSet 9 = .ok (.iload_n 2, 1) := by decide +kernel
theorem d_R_readSet_10 : decode b_R_readSet 10 = .ok (.iadd, 1) := by decide +kernel
theorem d_R_readSet_11 : decode b_R_readSet 11 = .ok (.invokevirtual 37, 3) := by decide +kernel
theorem d_R_readSet_14 : decode b_R_readSet 14 = .ok (.istore_n 3, 1) := by decide +kernel
theorem d_R_readSet_15 : decode b_R_readSet 15 = .ok (.iload_n 3, 1) := by decide +kernel
theorem d_R_readSet_16 : decode b_R_readSet 16 = .ok (.iload_n 2, 1) := by decide +kernel
theorem d_R_readSet_17 : decode b_R_readSet 17 = .ok (.if_icmp .ge 5, 3) := by decide +kernel
theorem d_R_readSet_20 : decode b_R_readSet 20 = .ok (.iconst (-1), 1) := by decide +kernel
theorem d_R_readSet_21 : decode b_R_readSet 21 = .ok (.ireturn, 1) := by decide +kernel
theorem d_R_readSet_22 : decode b_R_readSet 22 = .ok (.iload_n 3, 1) := by decide +kernel
theorem d_R_readSet_23 : decode b_R_readSet 23 = .ok (.iload_n 2, 1) := by decide +kernel
theorem d_R_readSet_24 : decode b_R_readSet 24 = .ok (.if_icmp .le 9, 3) := by decide +kernel
theorem d_R_readSet_27 : decode b_R_readSet 27 = .ok (.iload_n 3, 1) := by decide +kernel
theorem d_R_readSet_28 : decode b_R_readSet 28 = .ok (.iload_n 2, 1) := by decide +kernel
theorem d_R_readSet_29 : decode b_R_readSet 29 = .ok (.isub, 1) := by decide +kernel
theorem d_R_readSet_30 : decode b_R_readSet 30 = .ok (.iconst 1, 1) := by decide +kernel
theorem d_R_readSet_31 : decode b_R_readSet 31 = .ok (.isub, 1) := by decide +kernel
theorem d_R_readSet_32 : decode b_R_readSet 32 = .ok (.ireturn, 1) := by decide +kernel
theorem d_R_readSet_33 : decode b_R_readSet 33 = .ok (.aload_n 0, 1) := by decide +kernel
theorem d_R_readSet_34 : decode b_R_readSet 34 = .ok (.getfield 19, 3) := by decide +kernel
theorem d_R_readSet_37 : decode b_R_readSet 37 = .ok (.istore 4, 2) := by decide +kernel
theorem d_R_readSet_39 : decode b_R_readSet 39 = .ok (.aload_n 1, 1) := by decide +kernel
theorem d_R_readSet_40 : decode b_R_readSet 40 = .ok (.getfield 122, 3) := by decide +kernel
theorem d_R_readSet_43 : decode b_R_readSet 43 = .ok (.invokevirtual 125, 3) := by decide +kernel
theorem d_R_readSet_46 : decode b_R_readSet 46 = .ok (.istore 5, 2) := by decide +kernel
theorem d_R_readSet_48 : decode b_R_readSet 48 = .ok (.iload 5, 2) := by decide +kernel
theorem d_R_readSet_50 : decode b_R_readSet 50 = .ok (.iconst (-1), 1) := by decide +kernel
theorem d_R_readSet_51 : decode b_R_readSet 51 = .ok (.if_icmp .ne 10, 3) := by decide +kernel
theorem d_R_readSet_54 : decode b_R_readSet 54 = .ok (.aload_n 0, 1) := by decide +kernel
theorem d_R_readSet_55 : decode b_R_readSet 55 = .ok (.iload 4, 2) := by decide +kernel
theorem d_R_readSet_57 : decode b_R_readSet 57 = .ok (.invokevirtual 54, 3) := by decide +kernel
theorem d_R_readSet_60 : decode b_R_readSet 60 = .ok (.ireturn, 1) := by decide +kernel
theorem d_R_readSet_61 : decode b_R_readSet 61 = .ok (.aload_n 0, 1) := by decide +kernel
theorem d_R_readSet_62 : decode b_R_readSet 62 = .ok (.aload_n 1, 1) := by decide +kernel
theorem d_R_readSet_63 : decode b_R_readSet 63 = .ok (.getfield 122, 3) := by decide +kernel
theorem d_R_readSet_66 : decode b_R_readSet 66 = .ok (.iload 5, 2) := by decide +kernel
theorem d_R_readSet_68 : decode b_R_readSet 68 = .ok (.invokevirtual 76, 3) := by decide +kernel
theorem d_R_readSet_71 : decode b_R_readSet 71 = .ok (.aload_n 0, 1) := by decide +kernel
theorem d_R_readSet_72 : decode b_R_readSet 72 = .ok (.invokevirtual 41, 3) := by decide +kernel
theorem d_R_readSet_75 : decode b_R_readSet 75 = .ok (.ifCond .ne 22, 3) := by decide +kernel
theorem d_R_readSet_78 : decode b_R_readSet 78 = .ok (.aload_n 1, 1) := by decide +kernel
theorem d_R_readSet_79 : decode b_R_readSet 79 = .ok (.getfield 122, 3) := by decide +kernel
theorem d_R_readSet_82 : decode b_R_readSet 82 = .ok (.iload 5, 2) := by decide +kernel
theorem d_R_readSet_84 : decode b_R_readSet 84 = .ok (.invokevirtual 128, 3) := by decide +kernel
theorem d_R_readSet_87 : decode b_R_readSet 87 = .ok (.ifCond .eq 10, 3) := by decide +kernel
theorem d_R_readSet_90 : decode b_R_readSet 90 = .ok (.aload_n 0, 1) := by decide +kernel
theorem d_R_readSet_91 : decode b_R_readSet 91 = .ok (.iload 4, 2) := by decide +kernel
theorem d_R_readSet_93 : decode b_R_readSet 93 = .ok (.invokevirtual 54, 3) := by decide +kernel
theorem d_R_readSet_96 : decode b_R_readSet 96 = .ok (.pop, 1) := by decide +kernel
theorem d_R_readSet_97 : decode b_R_readSet 97 = .ok (.aload_n 0, 1) := by decide +kernel
theorem d_R_readSet_98 : decode b_R_readSet 98 = .ok (.invokevirtual 41, 3) := by decide +kernel
theorem d_R_readSet_101 : decode b_R_readSet 101 = .ok (.ifCond .eq 7, 3) := by decide +kernel
theorem d_R_readSet_104 : decode b_R_readSet 104 = .ok (.iconst (-1), 1) := by decide +kernel
theorem d_R_readSet_105 : decode b_R_readSet 105 = .ok (.goto 5, 3) := by decide +kernel
theorem d_R_readSet_108 : decode b_R_readSet 108 = .ok (.iload 5, 2) := by decide +kernel
theorem d_R_readSet_110 : decode b_R_readSet 110 = .ok (.ireturn, 1) := by decide +kernel
theorem d_R_readMark_0 : decode b_R_readMark 0 = .ok (.aload_n 0, 1) := by decide +kernel
theorem d_R_readMark_1 : decode b_R_readMark 1 = .ok (.iconst 0, 1) := by decide +kernel
theorem d_R_readMark_2 : decode b_R_readMark 2 = .ok (.aload_n 1, 1) := by decide +kernel
theorem d_R_readMark_3 : decode b_R_readMark 3 = .ok (.getfield 131, 3) := by decide +kernel
theorem d_R_readMark_6 : decode b_R_readMark 6 = .ok (.invokevirtual 135, 3) := by decide +kernel
theorem d_R_readMark_9 : decode b_R_readMark 9 = .ok (.invokevirtual 37, 3) := by decide +kernel
theorem d_R_readMark_12 : decode b_R_readMark 12 = .ok (.istore_n 2, 1) := by decide +kernel
theorem d_R_readMark_13 : decode b_R_readMark 13 = .ok (.iload_n 2, 1) := by decide +kernel
theorem d_R_readMark_14 : decode b_R_readMark 14 = .ok (.ifCond .eq 7, 3) := by decide +kernel
theorem d_R_readMark_17 : decode b_R_readMark 17 = .ok (.iload_n 2, 1) := by decide +kernel
theorem d_R_readMark_18 : decode b_R_readMark 18 = .ok (.iconst 1, 1) := by decide +kernel
theorem d_R_readMark_19 : decode b_R_readMark 19 = .ok (.isub, 1) := by decide +kernel
theorem d_R_readMark_20 : decode b_R_readMark 20 = .ok (.ireturn, 1) := by decide +kernel
theorem d_R_readMark_21 : decode b_R_readMark 21 = .ok (.aload_n 0, 1) := by decide +kernel
theorem d_R_readMark_22 : decode b_R_readMark 22 = .ok (.getfield 19, 3) := by decide +kernel
theorem d_R_readMark_25 : decode b_R_readMark 25 = .ok (.istore_n 3, 1) := by decide +kernel
theorem d_R_readMark_26 : decode b_R_readMark 26 = .ok (.aload_n 1, 1) := by decide +kernel
theorem d_R_readMark_27 : decode b_R_readMark 27 = .ok (.getfield 131, 3) := by decide +kernel
theorem d_R_readMark_30 : decode b_R_readMark 30 = .ok (.invokevirtual 138, 3) := by decide +kernel
theorem d_R_readMark_33 : decode b_R_readMark 33 = .ok (.ifCond .eq 9, 3) := by decide +kernel
theorem d_R_readMark_36 : decode b_R_readMark 36 = .ok (.aload_n 0, 1) := by decide +kernel
theorem d_R_readMark_37 : decode b_R_readMark 37 = .ok (.iload_n 3, 1) := by decide +kernel
theorem d_R_readMark_38 : decode b_R_readMark 38 = .ok (.invokevirtual 54, 3) := by decide +kernel
theorem d_R_readMark_41 : decode b_R_readMark 41 = .ok (.ireturn, 1) := by decide +kernel
theorem d_R_readMark_42 : decode b_R_readMark 42 = .ok (.aload_n 0, 1) := by decide +kernel
theorem d_R_readMark_43 : decode b_R_readMark 43 = .ok (.iconst 0, 1) := by decide +kernel
theorem d_R_readMark_44 : decode b_R_readMark 44 = .ok (.sipush 255, 3) := by decide +kernel
theorem d_R_readMark_47 : decode b_R_readMark 47 = .ok (.invokevirtual 37, 3) := by decide +kernel
theorem d_R_readMark_50 : decode b_R_readMark 50 = .ok (.istore 4, 2) := by decide +kernel
theorem d_R_readMark_52 : decode b_R_readMark 52 = .ok (.aload_n 0, 1) := by decide +kernel
theorem d_R_readMark_53 : decode b_R_readMark 53 = .ok (.iconst 0, 1) := by decide +kernel
theorem d_R_readMark_54 : decode b_R_readMark 54 = .ok (.sipush 255, 3) := by decide +kernel
theorem d_R_readMark_57 : decode b_R_readMark 57 = .ok (.invokevirtual 37, 3) := by decide +kernel
theorem d_R_readMark_60 : decode b_R_readMark 60 = .ok (.istore 5, 2) := by decide +kernel
theorem d_R_readMark_62 : decode b_R_readMark 62 = .ok (.aload_n 0, 1) := by decide +kernel
theorem d_R_readMark_63 : decode b_R_readMark 63 = .ok (.aload_n 1, 1) := by decide +kernel
theorem d_R_readMark_64 : decode b_R_readMark 64 = .ok (.iconst 1, 1) := by decide +kernel
theorem d_R_readMark_65 : decode b_R_readMark 65 = .ok (.invokevirtual 96, 3) := by decide +kernel
theorem d_R_readMark_68 : decode b_R_readMark 68 = .ok (.istore 6, 2) := by decide +kernel
theorem d_R_readMark_70 : decode b_R_readMark 70 = .ok (.aload_n 0, 1) := by decide +kernel
theorem d_R_readMark_71 : decode b_R_readMark 71 = .ok (.invokevirtual 41, 3) := by decide +kernel
theorem d_R_readMark_74 : decode b_R_readMark 74 = .ok (.ifCond .eq 5, 3) := by decide +kernel
theorem d_R_readMark_77 : decode b_R_readMark 77 = .ok (.iconst (-1), 1) := by decide +kernel
theorem d_R_readMark_78 : decode b_R_readMark 78 = .ok (.ireturn, 1) := by decide +kernel
theorem d_R_readMark_79 : decode b_R_readMark 79 = .ok (.aload_n 1, 1) := by decide +kernel
theorem d_R_readMark_80 : decode b_R_readMark 80 = .ok (.getfield 131, 3) := by decide +kernel
theorem d_R_readMark_83 : decode b_R_readMark 83 = .ok (.iload 4, 2) := by decide +kernel
theorem d_R_readMark_85 : decode b_R_readMark 85 = .ok (.iload 5, 2) := by decide +kernel
theorem d_R_readMark_87 : decode b_R_readMark 87 = .ok (.iload 6, 2) := by decide +kernel
theorem d_R_readMark_89 : decode b_R_readMark 89 = .ok (.invokevirtual 141, 3) := by decide +kernel
theorem d_R_readMark_92 : decode b_R_readMark 92 = .ok (.istore 7, 2) := by decide +kernel
theorem d_R_readMark_94 : decode b_R_readMark 94 = .ok (.aload_n 1, 1) := by decide +kernel
theorem d_R_readMark_95 : decode b_R_readMark 95 = .ok (.iload 7, 2) := by decide +kernel
theorem d_R_readMark_97 : decode b_R_readMark 97 = .ok (.invokevirtual 144, 3) := by decide +kernel
theorem d_R_readMark_100 : decode b_R_readMark 100 = .ok (.ifCond .eq 11, 3) := by decide +kernel
theorem d_R_readMark_103 : decode b_R_readMark 103 = .ok (.aload_n 0, 1) := by decide +kernel
theorem d_R_readMark_104 : decode b_R_readMark 104 = .ok (.iload_n 3, 1) := by decide +kernel
theorem d_R_readMark_105 : decode b_R_readMark 105 = .ok (.invokevirtual 54, 3) := by decide +kernel
theorem d_R_readMark_108 : decode b_R_readMark 108 = .ok (.goto 5, 3) := by decide +kernel
theorem d_R_readMark_111 : decode b_R_readMark 111 = .ok (.iload 7, 2) := by decide +kernel
theorem d_R_readMark_113 : decode b_R_readMark 113 = .ok (.ireturn, 1) := by decide +kernel
theorem d_R_readCharacters_0 : decode b_R_readCharacters 0 = .ok (.aload_n 0, 1) := by decide +kernel
theorem d_R_readCharacters_1 : decode b_R_readCharacters 1 = .ok (.iconst 1, 1) := by decide +kernel
theorem d_R_readCharacters_2 : decode b_R_readCharacters 2 = .ok (.sipush 512, 3) := by decide +kernel
theorem d_R_readCharacters_5 : decode b_R_readCharacters 5 = .ok (.aload_n 1, 1) := by decide +kernel
theorem d_R_readCharacters_6 : decode b_R_readCharacters 6 = .ok (.invokevirtual 147, 3) := by decide +kernel
theorem d_R_readCharacters_9 : decode b_R_readCharacters 9 = .ok (.isub, 1) := by decide +kernel
theorem d_R_readCharacters_10 : decode b_R_readCharacters 10 = .ok (.invokevirtual 37, 3) := by decide +kernel
theorem d_R_readCharacters_13 : decode b_R_readCharacters 13 = .ok (.istore_n 3, 1) := by decide +kernel
theorem d_R_readCharacters_14 : decode b_R_readCharacters 14 = .ok (.iconst 0, 1) := by decide +kernel
theorem d_R_readCharacters_15 : decode b_R_readCharacters 15 = .ok (.istore 4, 2) := by decide +kernel
theorem d_R_readCharacters_17 : decode b_R_readCharacters 17 = .ok (.iload 4, 2) := by decide +kernel
theorem d_R_readCharacters_19 : decode b_R_readCharacters 19 = .ok (.iload_n 3, 1) := by decide +kernel
theorem d_R_readCharacters_20 : decode b_R_readCharacters 20 = .ok (.if_icmp .ge 45, 3) := by decide +kernel
theorem d_R_readCharacters_23 : decode b_R_readCharacters 23 = .ok (.aload_n 0, 1) := by decide +kernel
theorem d_R_readCharacters_24 : decode b_R_readCharacters 24 = .ok (.invokevirtual 41, 3) := by decide +kernel
theorem d_R_readCharacters_27 : decode b_R_readCharacters 27 = .ok (.ifCond .ne 38, 3) := by decide +kernel
theorem d_R_readCharacters_30 : decode b_R_readCharacters 30 = .ok (.iload_n 2, 1) := by decide +kernel
theorem d_R_readCharacters_31 : decode b_R_readCharacters 31 = .ok (.iconst 1, 1) := by decide +kernel
theorem d_R_readCharacters_32 : decode b_R_readCharacters 32 = .ok (.if_icmp .ne 8, 3) := by decide +kernel
theorem d_R_readCharacters_35 : decode b_R_readCharacters 35 = .ok (.bipush 10, 2) := by decide +kernel
theorem d_R_readCharacters_37 : decode b_R_readCharacters 37 = .ok (.goto 7, 3) := by decide +kernel
theorem d_R_readCharacters_40 : decode b_R_readCharacters 40 = .ok (.aload_n 0, 1) := by decide +kernel
theorem d_R_readCharacters_41 : decode b_R_readCharacters 41 = .ok (.invokevirtual 150, 3) := by decide +kernel
theorem d_R_readCharacters_44 : decode b_R_readCharacters 44 = .ok (.istore 5, 2) := by decide +kernel
theorem d_R_readCharacters_46 : decode b_R_readCharacters 46 = .ok (.aload_n 0, 1) := by decide +kernel
theorem d_R_readCharacters_47 : decode b_R_readCharacters 47 = .ok (.invokevirtual 41, 3) := by decide +kernel
theorem d_R_readCharacters_50 : decode b_R_readCharacters 50 = .ok (.ifCond .ne 9, 3) := by decide +kernel
theorem d_R_readCharacters_53 : decode b_R_readCharacters 53 = .ok (.aload_n 1, 1) := by decide +kernel
theorem d_R_readCharacters_54 : decode b_R_readCharacters 54 = .ok (.iload 5, 2) := by decide +kernel
theorem d_R_readCharacters_56 : decode b_R_readCharacters 56 = .ok (.invokevirtual 153, 3) := by decide +kernel
theorem d_R_readCharacters_59 : decode b_R_readCharacters 59 = .ok (.iinc 4 1, 3) := by decide +kernel
theorem d_R_readCharacters_62 : decode b_R_readCharacters 62 = .ok (.goto (-45), 3) := by decide +kernel
theorem d_R_readCharacters_65 : decode b_R_readCharacters 65 = .ok (.return_, 1) := by decide +kernel
theorem d_R_readCharacter_0 : decode b_R_readCharacter 0 = .ok (.aload_n 0, 1) := by decide +kernel
theorem d_R_readCharacter_1 : decode b_R_readCharacter 1 = .ok (.getfield 9, 3) := by decide +kernel
theorem d_R_readCharacter_4 : decode b_R_readCharacter 4 = .ok (.aload_n 0, 1) := by decide +kernel
theorem d_R_readCharacter_5 : decode b_R_readCharacter 5 = .ok (.getfield 15, 3) := by decide +kernel
theorem d_R_readCharacter_8 : decode b_R_readCharacter 8 = .ok (.invokevirtual 62, 3) := by decide +kernel
theorem d_R_readCharacter_11 : decode b_R_readCharacter 11 = .ok (.istore_n 1, 1) := by decide +kernel
theorem d_R_readCharacter_12 : decode b_R_readCharacter 12 = .ok (.iload_n 1, 1) := by decide +kernel
theorem d_R_readCharacter_13 : decode b_R_readCharacter 13 = .ok (.invokestatic 157, 3) := by decide +kernel
theorem d_R_readCharacter_16 : decode b_R_readCharacter 16 = .ok (.ifCond .ne 12, 3) := by decide +kernel
theorem d_R_readCharacter_19 : decode b_R_readCharacter 19 = .ok (.aload_n 0, 1) := by decide +kernel
theorem d_R_readCharacter_20 : decode b_R_readCharacter 20 = .ok (.aload_n 0, 1) := by decide +kernel
theorem d_R_readCharacter_21 : decode b_R_readCharacter 21 = .ok (.getfield 15, 3) := by decide +kernel
theorem d_R_readCharacter_24 : decode b_R_readCharacter 24 = .ok (.invokevirtual 54, 3) := by decide +kernel
theorem d_R_readCharacter_27 : decode b_R_readCharacter 27 = .ok (.ireturn, 1) := by decide +kernel
theorem d_R_readCharacter_28 : decode b_R_readCharacter 28 = .ok (.aload_n 0, 1) := by decide +kernel
theorem d_R_readCharacter_29 : decode b_R_readCharacter 29 = .ok (.dup, 1) := by decide +kernel
theorem d_R_readCharacter_30 : decode b_R_readCharacter 30 = .ok (.getfield 15, 3) := by decide +kernel
theorem d_R_readCharacter_33 : decode b_R_readCharacter 33 = .ok (.iconst 1, 1) := by decide +kernel
theorem d_R_readCharacter_34 : decode b_R_readCharacter 34 = .ok (.iadd, 1) := by decide +kernel
theorem d_R_readCharacter_35 : decode b_R_readCharacter 35 = .ok (.putfield 15, 3) := by decide +kernel
theorem d_R_readCharacter_38 : decode b_R_readCharacter 38 = .ok (.iload_n 1, 1) := by decide +kernel
theorem d_R_readCharacter_39 : decode b_R_readCharacter 39 = .ok (.ireturn, 1) := by decide +kernel
