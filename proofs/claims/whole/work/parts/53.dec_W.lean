theorem d_W_init_0 : decode b_W_init 0 = .ok (.aload_n 0, 1) := by decide +kernel
theorem d_W_init_1 : decode b_W_init 1 = .ok (.invokespecial 3, 3) := by decide +kernel
theorem d_W_init_4 : decode b_W_init 4 = .ok (.aload_n 0, 1) := by decide +kernel
theorem d_W_init_5 : decode b_W_init 5 = .ok (.aload_n 1, 1) := by decide +kernel
theorem d_W_init_6 : decode b_W_init 6 = .ok (.putfield 9, 3) := by decide +kernel
theorem d_W_init_9 : decode b_W_init 9 = .ok (.aload_n 0, 1) := by decide +kernel
theorem d_W_init_10 : decode b_W_init 10 = .ok (.bipush 24, 2) := by decide +kernel
theorem d_W_init_12 : decode b_W_init 12 = .ok (.newarray .int, 2) := by decide +kernel
theorem d_W_init_14 : decode b_W_init 14 = .ok (.putfield 15, 3) := by decide +kernel
theorem d_W_init_17 : decode b_W_init 17 = .ok (.aload_n 0, 1) := by decide +kernel
theorem d_W_init_18 : decode b_W_init 18 = .ok (.bipush 24, 2) := by decide +kernel
theorem d_W_init_20 : decode b_W_init 20 = .ok (.newarray .int, 2) := by decide +kernel
theorem d_W_init_22 : decode b_W_init 22 = .ok (.putfield 19, 3) := by decide +kernel
theorem d_W_init_25 : decode b_W_init 25 = .ok (.aload_n 0, 1) := by decide +kernel
theorem d_W_init_26 : decode b_W_init 26 = .ok (.iconst 0, 1) := by decide +kernel
theorem d_W_init_27 : decode b_W_init 27 = .ok (.putfield 22, 3) := by decide +kernel
theorem d_W_init_30 : decode b_W_init 30 = .ok (.aload_n 0, 1) := by decide +kernel
theorem d_W_init_31 : decode b_W_init 31 = .ok (.iconst 0, 1) := by decide +kernel
theorem d_W_init_32 : decode b_W_init 32 = .ok (.putfield 26, 3) := by decide +kernel
theorem d_W_init_35 : decode b_W_init 35 = .ok (.return_, 1) := by decide +kernel
theorem d_W_write_0 : decode b_W_write 0 = .ok (.aload_n 0, 1) := by decide +kernel
theorem d_W_write_1 : decode b_W_write 1 = .ok (.iconst 0, 1) := by decide +kernel
theorem d_W_write_2 : decode b_W_write 2 = .ok (.putfield 22, 3) := by decide +kernel
theorem d_W_write_5 : decode b_W_write 5 = .ok (.aload_n 0, 1) := by decide +kernel
theorem d_W_write_6 : decode b_W_write 6 = .ok (.iconst 0, 1) := by decide +kernel
theorem d_W_write_7 : decode b_W_write 7 = .ok (.putfield 26, 3) := by decide +kernel
theorem d_W_write_10 : decode b_W_write 10 = .ok (.aload_n 0, 1) := by decide +kernel
theorem d_W_write_11 : decode b_W_write 11 = .ok (.getfield 9, 3) := by decide +kernel
theorem d_W_write_14 : decode b_W_write 14 = .ok (.iconst 0, 1) := by decide +kernel
theorem d_W_write_15 : decode b_W_write 15 = .ok (.invokevirtual 29, 3) := by decide +kernel
theorem d_W_write_18 : decode b_W_write 18 = .ok (.pop, 1) := by decide +kernel
theorem d_W_write_19 : decode b_W_write 19 = .ok (.iconst 0, 1) := by decide +kernel
theorem d_W_write_20 : decode b_W_write 20 = .ok (.istore_n 2, 1) := by decide +kernel
theorem d_W_write_21 : decode b_W_write 21 = .ok (.iload_n 2, 1) := by decide +kernel
theorem d_W_write_22 : decode b_W_write 22 = .ok (.getstatic 35, 3) := by decide +kernel
theorem d_W_write_25 : decode b_W_write 25 = .ok (.arraylength, 1) := by decide +kernel
theorem d_W_write_26 : decode b_W_write 26 = .ok (.if_icmp .ge 22, 3) := by decide +kernel
theorem d_W_write_29 : decode b_W_write 29 = .ok (.aload_n 0, 1) := by decide +kernel
theorem d_W_write_30 : decode b_W_write 30 = .ok (.getfield 9, 3) := by decide +kernel
theorem d_W_write_33 : decode b_W_write 33 = .ok (.getstatic 35, 3) := by decide +kernel
theorem d_W_write_36 : decode b_W_write 36 = .ok (.iload_n 2, 1) := by decide +kernel
theorem d_W_write_37 : decode b_W_write 37 = .ok (.iaload, 1) := by decide +kernel
theorem d_W_write_38 : decode b_W_write 38 = .ok (.invokevirtual 38, 3) := by decide +kernel
theorem d_W_write_41 : decode b_W_write 41 = .ok (.pop, 1) := by decide +kernel
theorem d_W_write_42 : decode b_W_write 42 = .ok (.iinc 2 1, 3) := by decide +kernel
theorem d_W_write_45 : decode b_W_write 45 = .ok (.goto (-24), 3) := by decide +kernel
theorem d_W_write_48 : decode b_W_write 48 = .ok (.aload_n 0, 1) := by decide +kernel
theorem d_W_write_49 : decode b_W_write 49 = .ok (.aload_n 1, 1) := by decide +kernel
theorem d_W_write_50 : decode b_W_write 50 = .ok (.invokevirtual 41, 3) := by decide +kernel
theorem d_W_write_53 : decode b_W_write 53 = .ok (.aload_n 0, 1) := by decide +kernel
theorem d_W_write_54 : decode b_W_write 54 = .ok (.aload_n 0, 1) := by decide +kernel
theorem d_W_write_55 : decode b_W_write 55 = .ok (.aload_n 1, 1) := by decide +kernel
theorem d_W_write_56 : decode b_W_write 56 = .ok (.invokevirtual 45, 3) := by decide +kernel
theorem d_W_write_59 : decode b_W_write 59 = .ok (.invokevirtual 49, 3) := by decide +kernel
theorem d_W_write_62 : decode b_W_write 62 = .ok (.iconst 0, 1) := by decide +kernel
theorem d_W_write_63 : decode b_W_write 63 = .ok (.istore_n 2, 1) := by decide +kernel
theorem d_W_write_64 : decode b_W_write 64 = .ok (.iload_n 2, 1) := by decide +kernel
theorem d_W_write_65 : decode b_W_write 65 = .ok (.aload_n 1, 1) := by decide +kernel
theorem d_W_write_66 : decode b_W_write 66 = .ok (.getfield 53, 3) := by decide +kernel
theorem d_W_write_69 : decode b_W_write 69 = .ok (.invokevirtual 59, 3) := by decide +kernel
theorem d_W_write_72 : decode b_W_write 72 = .ok (.if_icmp .ge 23, 3) := by decide +kernel
theorem d_W_write_75 : decode b_W_write 75 = .ok (.aload_n 1, 1) := by decide +kernel
theorem d_W_write_76 : decode b_W_write 76 = .ok (.iload_n 2, 1) := by decide +kernel
theorem d_W_write_77 : decode b_W_write 77 = .ok (.invokevirtual 65, 3) := by decide +kernel
theorem d_W_write_80 : decode b_W_write 80 = .ok (.ifCond .ne 9, 3) := by decide +kernel
theorem d_W_write_83 : decode b_W_write 83 = .ok (.aload_n 0, 1) := by decide +kernel
theorem d_W_write_84 : decode b_W_write 84 = .ok (.aload_n 1, 1) := by decide +kernel
theorem d_W_write_85 : decode b_W_write 85 = .ok (.iload_n 2, 1) := by decide +kernel
theorem d_W_write_86 : decode b_W_write 86 = .ok (.invokevirtual 68, 3) := by decide +kernel
theorem d_W_write_89 : decode b_W_write 89 = .ok (.iinc 2 1, 3) := by decide +kernel
theorem d_W_write_92 : decode b_W_write 92 = .ok (.goto (-28), 3) := by decide +kernel
theorem d_W_write_95 : decode b_W_write 95 = .ok (.return_, 1) := by decide +kernel
theorem d_W_writeNumber_0 : decode b_W_writeNumber 0 = .ok (.iload_n 1, 1) := by decide +kernel
theorem d_W_writeNumber_1 : decode b_W_writeNumber 1 = .ok (.sipush 16384, 3) := by decide +kernel
theorem d_W_writeNumber_4 : decode b_W_writeNumber 4 = .ok (.if_icmp .lt 19, 3) := by decide +kernel
theorem d_W_writeNumber_7 : decode b_W_writeNumber 7 = .ok (.aload_n 0, 1) := by decide +kernel
theorem d_W_writeNumber_8 : decode b_W_writeNumber 8 = .ok (.getfield 9, 3) := by decide +kernel
theorem d_W_writeNumber_11 : decode b_W_writeNumber 11 = .ok (.sipush 128, 3) := by decide +kernel
theorem d_W_writeNumber_14 : decode b_W_writeNumber 14 = .ok (.iload_n 1, 1) := by decide +kernel
theorem d_W_writeNumber_15 : decode b_W_writeNumber 15 = .ok (.bipush 14, 2) := by decide +kernel
theorem d_W_writeNumber_17 : decode b_W_writeNumber 17 = .ok (.ishr, 1) := by decide +kernel
theorem d_W_writeNumber_18 : decode b_W_writeNumber 18 = .ok (.iadd, 1) := by decide +kernel
theorem d_W_writeNumber_19 : decode b_W_writeNumber 19 = .ok (.invokevirtual 38, 3) := by decide +kernel
theorem d_W_writeNumber_22 : decode b_W_writeNumber 22 = .ok (.pop, 1) := by decide +kernel
theorem d_W_writeNumber_23 : decode b_W_writeNumber 23 = .ok (.iload_n 1, 1) := by decide +kernel
theorem d_W_writeNumber_24 : decode b_W_writeNumber 24 = .ok (.sipush 128, 3) := by decide +kernel
theorem d_W_writeNumber_27 : decode b_W_writeNumber 27 = .ok (.if_icmp .lt 22, 3) := by decide +kernel
theorem d_W_writeNumber_30 : decode b_W_writeNumber 30 = .ok (.aload_n 0, 1) := by decide +kernel
theorem d_W_writeNumber_31 : decode b_W_writeNumber 31 = .ok (.getfield 9, 3) := by decide +kernel
theorem d_W_writeNumber_34 : decode b_W_writeNumber 34 = .ok (.sipush 128, 3) := by decide +kernel
theorem d_W_writeNumber_37 : decode b_W_writeNumber 37 = .ok (.iload_n 1, 1) := by decide +kernel
theorem d_W_writeNumber_38 : decode b_W_writeNumber 38 = .ok (.bipush 7, 2) := by decide +kernel
theorem d_W_writeNumber_40 : decode b_W_writeNumber 40 = .ok (.ishr, 1) := by decide +kernel
theorem d_W_writeNumber_41 : decode b_W_writeNumber 41 = .ok (.bipush 127, 2) := by decide +kernel
theorem d_W_writeNumber_43 : decode b_W_writeNumber 43 = .ok (.iand, 1) := by decide +kernel
theorem d_W_writeNumber_44 : decode b_W_writeNumber 44 = .ok (.iadd, 1) := by decide +kernel
theorem d_W_writeNumber_45 : decode b_W_writeNumber 45 = .ok (.invokevirtual 38, 3) := by decide +kernel
theorem d_W_writeNumber_48 : decode b_W_writeNumber 48 = .ok (.pop, 1) := by decide +kernel
theorem d_W_writeNumber_49 : decode b_W_writeNumber 49 = .ok (.aload_n 0, 1) := by decide +kernel
theorem d_W_writeNumber_50 : decode b_W_writeNumber 50 = .ok (.getfield 9, 3) := by decide +kernel
theorem d_W_writeNumber_53 : decode b_W_writeNumber 53 = .ok (.iload_n 1, 1) := by decide +kernel
theorem d_W_writeNumber_54 : decode b_W_writeNumber 54 = .ok (.bipush 127, 2) := by decide +kernel
theorem d_W_writeNumber_56 : decode b_W_writeNumber 56 = .ok (.iand, 1) := by decide +kernel
theorem d_W_writeNumber_57 : decode b_W_writeNumber 57 = .ok (.invokevirtual 38, 3) := by decide +kernel
theorem d_W_writeNumber_60 : decode b_W_writeNumber 60 = .ok (.pop, 1) := by decide +kernel
theorem d_W_writeNumber_61 : decode b_W_writeNumber 61 = .ok (.return_, 1) := by decide +kernel
theorem d_W_writeStyles_0 : decode b_W_writeStyles 0 = .ok (.aload_n 0, 1) := by decide +kernel
theorem d_W_writeStyles_1 : decode b_W_writeStyles 1 = .ok (.aload_n 1, 1) := by decide +kernel
theorem d_W_writeStyles_2 : decode b_W_writeStyles 2 = .ok (.getfield 72, 3) := by decide +kernel
theorem d_W_writeStyles_5 : decode b_W_writeStyles 5 = .ok (.invokevirtual 76, 3) := by decide +kernel
theorem d_W_writeStyles_8 : decode b_W_writeStyles 8 = .ok (.invokevirtual 49, 3) := by decide +kernel
theorem d_W_writeStyles_11 : decode b_W_writeStyles 11 = .ok (.iconst 0, 1) := by decide +kernel
theorem d_W_writeStyles_12 : decode b_W_writeStyles 12 = .ok (.istore_n 2, 1) := by decide +kernel
theorem d_W_writeStyles_13 : decode b_W_writeStyles 13 = .ok (.iload_n 2, 1) := by decide +kernel
theorem d_W_writeStyles_14 : decode b_W_writeStyles 14 = .ok (.aload_n 1, 1) := by decide +kernel
theorem d_W_writeStyles_15 : decode b_W_writeStyles 15 = .ok (.getfield 72, 3) := by decide +kernel
theorem d_W_writeStyles_18 : decode b_W_writeStyles 18 = .ok (.invokevirtual 76, 3) := by decide +kernel
theorem d_W_writeStyles_21 : decode b_W_writeStyles 21 = .ok (.if_icmp .ge 29, 3) := by decide +kernel
theorem d_W_writeStyles_24 : decode b_W_writeStyles 24 = .ok (.aload_n 0, 1) := by decide +kernel
theorem d_W_writeStyles_25 : decode b_W_writeStyles 25 = .ok (.aload_n 1, 1) := by decide +kernel
theorem d_W_writeStyles_26 : decode b_W_writeStyles 26 = .ok (.iload_n 2, 1) := by decide +kernel
theorem d_W_writeStyles_27 : decode b_W_writeStyles 27 = .ok (.invokevirtual 79, 3) := by decide +kernel
theorem d_W_writeStyles_30 : decode b_W_writeStyles 30 = .ok (.iconst 1, 1) := by decide +kernel
theorem d_W_writeStyles_31 : decode b_W_writeStyles 31 = .ok (.iadd, 1) := by decide +kernel
theorem d_W_writeStyles_32 : decode b_W_writeStyles 32 = .ok (.invokevirtual 49, 3) := by decide +kernel
theorem d_W_writeStyles_35 : decode b_W_writeStyles 35 = .ok (.aload_n 0, 1) := by decide +kernel
theorem d_W_writeStyles_36 : decode b_W_writeStyles 36 = .ok (.aload_n 1, 1) := by decide +kernel
theorem d_W_writeStyles_37 : decode b_W_writeStyles 37 = .ok (.getfield 72, 3) := by decide +kernel
theorem d_W_writeStyles_40 : decode b_W_writeStyles 40 = .ok (.iload_n 2, 1) := by decide +kernel
theorem d_W_writeStyles_41 : decode b_W_writeStyles 41 = .ok (.invokevirtual 83, 3) := by decide +kernel
theorem d_W_writeStyles_44 : decode b_W_writeStyles 44 = .ok (.iinc 2 1, 3) := by decide +kernel
theorem d_W_writeStyles_47 : decode b_W_writeStyles 47 = .ok (.goto (-34), 3) := by decide +kernel
theorem d_W_writeStyles_50 : decode b_W_writeStyles 50 = .ok (.return_, 1) := by decide +kernel
theorem d_W_writeProperties_0 : decode b_W_writeProperties 0 = .ok (.aload_n 0, 1) := by decide +kernel
theorem d_W_writeProperties_1 : decode b_W_writeProperties 1 = .ok (.aload_n 1, 1) := by decide +kernel
theorem d_W_writeProperties_2 : decode b_W_writeProperties 2 = .ok (.iload_n 2, 1) := by decide +kernel
theorem d_W_writeProperties_3 : decode b_W_writeProperties 3 = .ok (.invokevirtual 87, 3) := by decide +kernel
theorem d_W_writeProperties_6 : decode b_W_writeProperties 6 = .ok (.invokevirtual 49, 3) := by decide +kernel
theorem d_W_writeProperties_9 : decode b_W_writeProperties 9 = .ok (.iconst 0, 1) := by decide +kernel
theorem d_W_writeProperties_10 : decode b_W_writeProperties 10 = .ok (.istore_n 3, 1) := by decide +kernel
theorem d_W_writeProperties_11 : decode b_W_writeProperties 11 = .ok (.iload_n 3, 1) := by decide +kernel
theorem d_W_writeProperties_12 : decode b_W_writeProperties 12 = .ok (.bipush 24, 2) := by decide +kernel
theorem d_W_writeProperties_14 : decode b_W_writeProperties 14 = .ok (.if_icmp .ge 33, 3) := by decide +kernel
theorem d_W_writeProperties_17 : decode b_W_writeProperties 17 = .ok (.aload_n 1, 1) := by decide +kernel
theorem d_W_writeProperties_18 : decode b_W_writeProperties 18 = .ok (.iload_n 2, 1) := by decide +kernel
theorem d_W_writeProperties_19 : decode b_W_writeProperties 19 = .ok (.iload_n 3, 1) := by decide +kernel
theorem d_W_writeProperties_20 : decode b_W_writeProperties 20 = .ok (.invokevirtual 90, 3) := by decide +kernel
theorem d_W_writeProperties_23 : decode b_W_writeProperties 23 = .ok (.istore 4, 2) := by decide +kernel
theorem d_W_writeProperties_25 : decode b_W_writeProperties 25 = .ok (.iload 4, 2) := by decide +kernel
theorem d_W_writeProperties_27 : decode b_W_writeProperties 27 = .ok (.ifCond .lt 14, 3) := by decide +kernel
theorem d_W_writeProperties_30 : decode b_W_writeProperties 30 = .ok (.aload_n 0, 1) := by decide +kernel
theorem d_W_writeProperties_31 : decode b_W_writeProperties 31 = .ok (.iload_n 3, 1) := by decide +kernel
theorem d_W_writeProperties_32 : decode b_W_writeProperties 32 = .ok (.invokevirtual 49, 3) := by decide +kernel
theorem d_W_writeProperties_35 : decode b_W_writeProperties 35 = .ok (.aload_n 0, 1) := by decide +kernel
theorem d_W_writeProperties_36 : decode b_W_writeProperties 36 = .ok (.iload 4, 2) := by decide +kernel
theorem d_W_writeProperties_38 : decode b_W_writeProperties 38 = .ok (.invokevirtual 49, 3) := by decide +kernel
theorem d_W_writeProperties_41 : decode b_W_writeProperties 41 = .ok (.iinc 3 1, 3) := by decide +kernel
theorem d_W_writeProperties_44 : decode b_W_writeProperties 44 = .ok (.goto (-33), 3) := by decide +kernel
theorem d_W_writeProperties_47 : decode b_W_writeProperties 47 = .ok (.return_, 1) := by decide +kernel
theorem d_W_joinedRuns_0 : decode b_W_joinedRuns 0 = .ok (.iconst 0, 1) := by decide +kernel
theorem d_W_joinedRuns_1 : decode b_W_joinedRuns 1 = .ok (.istore_n 2, 1) := by decide +kernel
theorem d_W_joinedRuns_2 : decode b_W_joinedRuns 2 = .ok (.iconst 0, 1) := by decide +kernel
theorem d_W_joinedRuns_3 : decode b_W_joinedRuns 3 = .ok (.istore_n 3, 1) := by decide +kernel
theorem d_W_joinedRuns_4 : decode b_W_joinedRuns 4 = .ok (.iload_n 3, 1) := by decide +kernel
theorem d_W_joinedRuns_5 : decode b_W_joinedRuns 5 = .ok (.aload_n 1, 1) := by decide +kernel
theorem d_W_joinedRuns_6 : decode b_W_joinedRuns 6 = .ok (.getfield 53, 3) := by decide +kernel
theorem d_W_joinedRuns_9 : decode b_W_joinedRuns 9 = .ok (.invokevirtual 59, 3) := by decide +kernel
theorem d_W_joinedRuns_12 : decode b_W_joinedRuns 12 = .ok (.if_icmp .ge 20, 3) := by decide +kernel
theorem d_W_joinedRuns_15 : decode b_W_joinedRuns 15 = .ok (.aload_n 1, 1) := by decide +kernel
theorem d_W_joinedRuns_16 : decode b_W_joinedRuns 16 = .ok (.iload_n 3, 1) := by decide +kernel
theorem d_W_joinedRuns_17 : decode b_W_joinedRuns 17 = .ok (.invokevirtual 65, 3) := by decide +kernel
theorem d_W_joinedRuns_20 : decode b_W_joinedRuns 20 = .ok (.ifCond .ne 6, 3) := by decide +kernel
theorem d_W_joinedRuns_23 : decode b_W_joinedRuns 23 = .ok (.iinc 2 1, 3) := by decide +kernel
theorem d_W_joinedRuns_26 : decode b_W_joinedRuns 26 = .ok (.iinc 3 1, 3) := by decide +kernel
theorem d_W_joinedRuns_29 : decode b_W_joinedRuns 29 = .ok (.goto (-25), 3) := by decide +kernel
theorem d_W_joinedRuns_32 : decode b_W_joinedRuns 32 = .ok (.iload_n 2, 1) := by decide +kernel
theorem d_W_joinedRuns_33 : decode b_W_joinedRuns 33 = .ok (.ireturn, 1) := by decide +kernel
theorem d_W_writeRun_0 : decode b_W_writeRun 0 = .ok (.aload_n 1, 1) := by decide +kernel
theorem d_W_writeRun_1 : decode b_W_writeRun 1 = .ok (.getfield 53, 3) := by decide +kernel
theorem d_W_writeRun_4 : decode b_W_writeRun 4 = .ok (.iload_n 2, 1) := by decide +kernel
theorem d_W_writeRun_5 : decode b_W_writeRun 5 = .ok (.iconst 0, 1) := by decide +kernel
theorem d_W_writeRun_6 : decode b_W_writeRun 6 = .ok (.invokevirtual 94, 3) := by decide +kernel
theorem d_W_writeRun_9 : decode b_W_writeRun 9 = .ok (.istore_n 3, 1) := by decide +kernel
theorem d_W_writeRun_10 : decode b_W_writeRun 10 = .ok (.aload_n 0, 1) := by decide +kernel
theorem d_W_writeRun_11 : decode b_W_writeRun 11 = .ok (.iload_n 3, 1) := by decide +kernel
theorem d_W_writeRun_12 : decode b_W_writeRun 12 = .ok (.invokevirtual 49, 3) := by decide +kernel
theorem d_W_writeRun_15 : decode b_W_writeRun 15 = .ok (.iload_n 3, 1) := by decide +kernel
theorem d_W_writeRun_16 : decode b_W_writeRun 16 = .ok (.iconst 1, 1) := by decide +kernel
theorem d_W_writeRun_17 : decode b_W_writeRun 17 = .ok (.if_icmp .ne 18, 3) := by decide +kernel
theorem d_W_writeRun_20 : decode b_W_writeRun 20 = .ok (.aload_n 0, 1) := by decide +kernel
theorem d_W_writeRun_21 : decode b_W_writeRun 21 = .ok (.aload_n 1, 1) := by decide +kernel
theorem d_W_writeRun_22 : decode b_W_writeRun 22 = .ok (.getfield 53, 3) := by decide +kernel
theorem d_W_writeRun_25 : decode b_W_writeRun 25 = .ok (.iload_n 2, 1) := by decide +kernel
theorem d_W_writeRun_26 : decode b_W_writeRun 26 = .ok (.iconst 3, 1) := by decide +kernel
theorem d_W_writeRun_27 : decode b_W_writeRun 27 = .ok (.invokevirtual 94, 3) := by decide +kernel
theorem d_W_writeRun_30 : decode b_W_writeRun 30 = .ok (.iconst 1, 1) := by decide +kernel
theorem d_W_writeRun_31 : decode b_W_writeRun 31 = .ok (.iadd, 1) := by decide +kernel
theorem d_W_writeRun_32 : decode b_W_writeRun 32 = .ok (.invokevirtual 49, 3) := by decide +kernel
theorem d_W_writeRun_35 : decode b_W_writeRun 35 = .ok (.aload_n 0, 1) := by decide +kernel
theorem d_W_writeRun_36 : decode b_W_writeRun 36 = .ok (.aload_n 1, 1) := by decide +kernel
theorem d_W_writeRun_37 : decode b_W_writeRun 37 = .ok (.aload_n 1, 1) := by decide +kernel
theorem d_W_writeRun_38 : decode b_W_writeRun 38 = .ok (.getfield 53, 3) := by decide +kernel
theorem d_W_writeRun_41 : decode b_W_writeRun 41 = .ok (.iload_n 2, 1) := by decide +kernel
theorem d_W_writeRun_42 : decode b_W_writeRun 42 = .ok (.iconst 1, 1) := by decide +kernel
theorem d_W_writeRun_43 : decode b_W_writeRun 43 = .ok (.invokevirtual 94, 3) := by decide +kernel
theorem d_W_writeRun_46 : decode b_W_writeRun 46 = .ok (.iconst 0, 1) := by decide +kernel
theorem d_W_writeRun_47 : decode b_W_writeRun 47 = .ok (.invokevirtual 97, 3) := by decide +kernel
theorem d_W_writeRun_50 : decode b_W_writeRun 50 = .ok (.aload_n 0, 1) := by decide +kernel
theorem d_W_writeRun_51 : decode b_W_writeRun 51 = .ok (.aload_n 1, 1) := by decide +kernel
theorem d_W_writeRun_52 : decode b_W_writeRun 52 = .ok (.aload_n 1, 1) := by decide +kernel
theorem d_W_writeRun_53 : decode b_W_writeRun 53 = .ok (.getfield 53, 3) := by decide +kernel
theorem d_W_writeRun_56 : decode b_W_writeRun 56 = .ok (.iload_n 2, 1) := by decide +kernel
theorem d_W_writeRun_57 : decode b_W_writeRun 57 = .ok (.iconst 2, 1) := by decide +kernel
theorem d_W_writeRun_58 : decode b_W_writeRun 58 = .ok (.invokevirtual 94, 3) := by decide +kernel
theorem d_W_writeRun_61 : decode b_W_writeRun 61 = .ok (.invokevirtual 101, 3) := by decide +kernel
theorem d_W_writeRun_64 : decode b_W_writeRun 64 = .ok (.aload_n 0, 1) := by decide +kernel
theorem d_W_writeRun_65 : decode b_W_writeRun 65 = .ok (.aload_n 1, 1) := by decide +kernel
theorem d_W_writeRun_66 : decode b_W_writeRun 66 = .ok (.iload_n 2, 1) := by decide +kernel
theorem d_W_writeRun_67 : decode b_W_writeRun 67 = .ok (.invokevirtual 104, 3) := by decide +kernel
theorem d_W_writeRun_70 : decode b_W_writeRun 70 = .ok (.istore 4, 2) := by decide +kernel
theorem d_W_writeRun_72 : decode b_W_writeRun 72 = .ok (.aload_n 0, 1) := by decide +kernel
theorem d_W_writeRun_73 : decode b_W_writeRun 73 = .ok (.iload 4, 2) := by decide +kernel
theorem d_W_writeRun_75 : decode b_W_writeRun 75 = .ok (.invokevirtual 49, 3) := by decide +kernel
theorem d_W_writeRun_78 : decode b_W_writeRun 78 = .ok (.aload_n 1, 1) := by decide +kernel
theorem d_W_writeRun_79 : decode b_W_writeRun 79 = .ok (.getfield 53, 3) := by decide +kernel
theorem d_W_writeRun_82 : decode b_W_writeRun 82 = .ok (.iload_n 2, 1) := by decide +kernel
theorem d_W_writeRun_83 : decode b_W_writeRun 83 = .ok (.iconst 4, 1) := by decide +kernel
theorem d_W_writeRun_84 : decode b_W_writeRun 84 = .ok (.invokevirtual 94, 3) := by decide +kernel
theorem d_W_writeRun_87 : decode b_W_writeRun 87 = .ok (.istore 5, 2) := by decide +kernel
theorem d_W_writeRun_89 : decode b_W_writeRun 89 = .ok (.iconst 0, 1) := by decide +kernel
theorem d_W_writeRun_90 : decode b_W_writeRun 90 = .ok (.istore 6, 2) := by decide +kernel
theorem d_W_writeRun_92 : decode b_W_writeRun 92 = .ok (.iload_n 3, 1) := by decide +kernel
theorem d_W_writeRun_93 : decode b_W_writeRun 93 = .ok (.ifCond .ne 36, 3) := by decide +kernel
theorem d_W_writeRun_96 : decode b_W_writeRun 96 = .ok (.iload 6, 2) := by decide +kernel
theorem d_W_writeRun_98 : decode b_W_writeRun 98 = .ok (.iload 4, 2) := by decide +kernel
theorem d_W_writeRun_100 : decode b_W_writeRun 100 = .ok (.if_icmp .ge 29, 3) := by decide +kernel
theorem d_W_writeRun_103 : decode b_W_writeRun 103 = .ok (.aload_n 0, 1) := by decide +kernel
theorem d_W_writeRun_104 : decode b_W_writeRun 104 = .ok (.getfield 9, 3) := by decide +kernel
theorem d_W_writeRun_107 : decode b_W_writeRun 107 = .ok (.aload_n 1, 1) := by decide +kernel
theorem d_W_writeRun_108 : decode b_W_writeRun 108 = .ok (.getfield 53, 3) := by decide +kernel
theorem d_W_writeRun_111 : decode b_W_writeRun 111 = .ok (.iload 5, 2) := by decide +kernel
theorem d_W_writeRun_113 : decode b_W_writeRun 113 = .ok (.iload 6, 2) := by decide +kernel
theorem d_W_writeRun_115 : decode b_W_writeRun 115 = .ok (.iadd, 1) := by decide +kernel
theorem d_W_writeRun_116 : decode b_W_writeRun 116 = .ok (.invokevirtual 108, 3) := by decide +kernel
theorem d_W_writeRun_119 : decode b_W_writeRun 119 = .ok (.invokevirtual 38, 3) := by decide +kernel
theorem d_W_writeRun_122 : decode b_W_writeRun 122 = .ok (.pop, 1) := by decide +kernel
theorem d_W_writeRun_123 : decode b_W_writeRun 123 = .ok (.iinc 6 1, 3) := by decide +kernel
theorem d_W_writeRun_126 : decode b_W_writeRun 126 = .ok (.goto (-34), 3) := by decide +kernel
theorem d_W_writeRun_129 : decode b_W_writeRun 129 = .ok (.return_, 1) := by decide +kernel
theorem d_W_joinedLength_0 : decode b_W_joinedLength 0 = .ok (.aload_n 1, 1) := by decide +kernel
theorem d_W_joinedLength_1 : decode b_W_joinedLength 1 = .ok (.getfield 53, 3) := by decide +kernel
theorem d_W_joinedLength_4 : decode b_W_joinedLength 4 = .ok (.iload_n 2, 1) := by decide +kernel
theorem d_W_joinedLength_5 : decode b_W_joinedLength 5 = .ok (.iconst 5, 1) := by decide +kernel
theorem d_W_joinedLength_6 : decode b_W_joinedLength 6 = .ok (.invokevirtual 94, 3) := by decide +kernel
theorem d_W_joinedLength_9 : decode b_W_joinedLength 9 = .ok (.istore_n 3, 1) := by decide +kernel
theorem d_W_joinedLength_10 : decode b_W_joinedLength 10 = .ok (.iload_n 2, 1) := by decide +kernel
theorem d_W_joinedLength_11 : decode b_W_joinedLength 11 = .ok (.iconst 1, 1) := by decide +kernel
theorem d_W_joinedLength_12 : decode b_W_joinedLength 12 = .ok (.iadd, 1) := by decide +kernel
theorem d_W_joinedLength_13 : decode b_W_joinedLength 13 = .ok (.istore 4, 2) := by decide +kernel
theorem d_W_joinedLength_15 : decode b_W_joinedLength 15 = .ok (.iload 4, 2) := by decide +kernel
theorem d_W_joinedLength_17 : decode b_W_joinedLength 17 = .ok (.aload_n 1, 1) := by decide +kernel
theorem d_W_joinedLength_18 : decode b_W_joinedLength 18 = .ok (.getfield 53, 3) := by decide +kernel
theorem d_W_joinedLength_21 : decode b_W_joinedLength 21 = .ok (.invokevirtual 59, 3) := by decide +kernel
theorem d_W_joinedLength_24 : decode b_W_joinedLength 24 = .ok (.if_icmp .ge 31, 3) := by decide +kernel
theorem d_W_joinedLength_27 : decode b_W_joinedLength 27 = .ok (.aload_n 1, 1) := by decide +kernel
theorem d_W_joinedLength_28 : decode b_W_joinedLength 28 = .ok (.iload 4, 2) := by decide +kernel
theorem d_W_joinedLength_30 : decode b_W_joinedLength 30 = .ok (.invokevirtual 65, 3) := by decide +kernel
theorem d_W_joinedLength_33 : decode b_W_joinedLength 33 = .ok (.ifCond .eq 22, 3) := by decide +kernel
theorem d_W_joinedLength_36 : decode b_W_joinedLength 36 = .ok (.iload_n 3, 1) := by decide +kernel
theorem d_W_joinedLength_37 : decode b_W_joinedLength 37 = .ok (.aload_n 1, 1) := by decide +kernel
theorem d_W_joinedLength_38 : decode b_W_joinedLength 38 = .ok (.getfield 53, 3) := by decide +kernel
theorem d_W_joinedLength_41 : decode b_W_joinedLength 41 = .ok (.iload 4, 2) := by decide +kernel
theorem d_W_joinedLength_43 : decode b_W_joinedLength 43 = .ok (.iconst 5, 1) := by decide +kernel
theorem d_W_joinedLength_44 : decode b_W_joinedLength 44 = .ok (.invokevirtual 94, 3) := by decide +kernel
theorem d_W_joinedLength_47 : decode b_W_joinedLength 47 = .ok (.iadd, 1) := by decide +kernel
theorem d_W_joinedLength_48 : decode b_W_joinedLength 48 = .ok (.istore_n 3, 1) := by decide +kernel
theorem d_W_joinedLength_49 : decode b_W_joinedLength 49 = .ok (.iinc 4 1, 3) := by decide +kernel
theorem d_W_joinedLength_52 : decode b_W_joinedLength 52 = .ok (.goto (-37), 3) := by decide +kernel
theorem d_W_joinedLength_55 : decode b_W_joinedLength 55 = .ok (.iload_n 3, 1) := by decide +kernel
theorem d_W_joinedLength_56 : decode b_W_joinedLength 56 = .ok (.ireturn, 1) := by decide +kernel
theorem d_W_writeSet_0 : decode b_W_writeSet 0 = .ok (.aload_n 0, 1) := by decide +kernel
theorem d_W_writeSet_1 : decode b_W_writeSet 1 = .ok (.aload_n 1, 1) := by decide +kernel
theorem d_W_writeSet_2 : decode b_W_writeSet 2 = .ok (.iload_n 2, 1) := by decide +kernel
theorem d_W_writeSet_3 : decode b_W_writeSet 3 = .ok (.invokevirtual 111, 3) := by decide +kernel
theorem d_W_writeSet_6 : decode b_W_writeSet 6 = .ok (.istore 4, 2) := by decide +kernel
theorem d_W_writeSet_8 : decode b_W_writeSet 8 = .ok (.aload_n 0, 1) := by decide +kernel
theorem d_W_writeSet_9 : decode b_W_writeSet 9 = .ok (.iload 4, 2) := by decide +kernel
theorem d_W_writeSet_11 : decode b_W_writeSet 11 = .ok (.iload_n 3, 1) := by decide +kernel
theorem d_W_writeSet_12 : decode b_W_writeSet 12 = .ok (.iadd, 1) := by decide +kernel
theorem d_W_writeSet_13 : decode b_W_writeSet 13 = .ok (.invokevirtual 49, 3) := by decide +kernel
theorem d_W_writeSet_16 : decode b_W_writeSet 16 = .ok (.iload 4, 2) := by decide +kernel
theorem d_W_writeSet_18 : decode b_W_writeSet 18 = .ok (.ifCond .ne 41, 3) := by decide +kernel
theorem d_W_writeSet_21 : decode b_W_writeSet 21 = .ok (.aload_n 0, 1) := by decide +kernel
theorem d_W_writeSet_22 : decode b_W_writeSet 22 = .ok (.getfield 22, 3) := by decide +kernel
theorem d_W_writeSet_25 : decode b_W_writeSet 25 = .ok (.bipush 24, 2) := by decide +kernel
theorem d_W_writeSet_27 : decode b_W_writeSet 27 = .ok (.if_icmp .ge 32, 3) := by decide +kernel
theorem d_W_writeSet_30 : decode b_W_writeSet 30 = .ok (.aload_n 0, 1) := by decide +kernel
theorem d_W_writeSet_31 : decode b_W_writeSet 31 = .ok (.getfield 15, 3) := by decide +kernel
theorem d_W_writeSet_34 : decode b_W_writeSet 34 = .ok (.aload_n 0, 1) := by decide +kernel
theorem d_W_writeSet_35 : decode b_W_writeSet 35 = .ok (.getfield 22, 3) := by decide +kernel
theorem d_W_writeSet_38 : decode b_W_writeSet 38 = .ok (.iload_n 2, 1) := by decide +kernel
theorem d_W_writeSet_39 : decode b_W_writeSet 39 = .ok (.iastore, 1) := by decide +kernel
theorem d_W_writeSet_40 : decode b_W_writeSet 40 = .ok (.aload_n 0, 1) := by decide +kernel
theorem d_W_writeSet_41 : decode b_W_writeSet 41 = .ok (.dup, 1) := by decide +kernel
theorem d_W_writeSet_42 : decode b_W_writeSet 42 = .ok (.getfield 22, 3) := by decide +kernel
theorem d_W_writeSet_45 : decode b_W_writeSet 45 = .ok (.iconst 1, 1) := by decide +kernel
theorem d_W_writeSet_46 : decode b_W_writeSet 46 = .ok (.iadd, 1) := by decide +kernel
theorem d_W_writeSet_47 : decode b_W_writeSet 47 = .ok (.putfield 22, 3) := by decide +kernel
theorem d_W_writeSet_50 : decode b_W_writeSet 50 = .ok (.aload_n 0, 1) := by decide +kernel
theorem d_W_writeSet_51 : decode b_W_writeSet 51 = .ok (.aload_n 1, 1) := by decide +kernel
theorem d_W_writeSet_52 : decode b_W_writeSet 52 = .ok (.getfield 114, 3) := by decide +kernel
theorem d_W_writeSet_55 : decode b_W_writeSet 55 = .ok (.iload_n 2, 1) := by decide +kernel
theorem d_W_writeSet_56 : decode b_W_writeSet 56 = .ok (.invokevirtual 83, 3) := by decide +kernel
theorem d_W_writeSet_59 : decode b_W_writeSet 59 = .ok (.return_, 1) := by decide +kernel
theorem d_W_numberOfSet_0 : decode b_W_numberOfSet 0 = .ok (.iconst 0, 1) := by decide +kernel
theorem d_W_numberOfSet_1 : decode b_W_numberOfSet 1 = .ok (.istore_n 3, 1) := by decide +kernel
theorem d_W_numberOfSet_2 : decode b_W_numberOfSet 2 = .ok (.iload_n 3, 1) := by decide +kernel
theorem d_W_numberOfSet_3 : decode b_W_numberOfSet 3 = .ok (.aload_n 0, 1) := by decide +kernel
theorem d_W_numberOfSet_4 : decode b_W_numberOfSet 4 = .ok (.getfield 22, 3) := by decide +kernel
theorem d_W_numberOfSet_7 : decode b_W_numberOfSet 7 = .ok (.if_icmp .ge 30, 3) := by decide +kernel
theorem d_W_numberOfSet_10 : decode b_W_numberOfSet 10 = .ok (.aload_n 1, 1) := by decide +kernel
theorem d_W_numberOfSet_11 : decode b_W_numberOfSet 11 = .ok (.getfield 114, 3) := by decide +kernel
theorem d_W_numberOfSet_14 : decode b_W_numberOfSet 14 = .ok (.aload_n 0, 1) := by decide +kernel
theorem d_W_numberOfSet_15 : decode b_W_numberOfSet 15 = .ok (.getfield 15, 3) := by decide +kernel
theorem d_W_numberOfSet_18 : decode b_W_numberOfSet 18 = .ok (.iload_n 3, 1) := by decide +kernel
theorem d_W_numberOfSet_19 : decode b_W_numberOfSet 19 = .ok (.iaload, 1) := by decide +kernel
theorem d_W_numberOfSet_20 : decode b_W_numberOfSet 20 = .ok (.iload_n 2, 1) := by decide +kernel
theorem d_W_numberOfSet_21 : decode b_W_numberOfSet 21 = .ok (.invokevirtual 117, 3) := by decide +kernel
theorem d_W_numberOfSet_24 : decode b_W_numberOfSet 24 = .ok (.ifCond .eq 7, 3) := by decide +kernel
theorem d_W_numberOfSet_27 : decode b_W_numberOfSet 27 = .ok (.iload_n 3, 1) := by decide +kernel
theorem d_W_numberOfSet_28 : decode b_W_numberOfSet 28 = .ok (.iconst 1, 1) := by decide +kernel
theorem d_W_numberOfSet_29 : decode b_W_numberOfSet 29 = .ok (.iadd, 1) := by decide +kernel
theorem d_W_numberOfSet_30 : decode b_W_numberOfSet 30 = .ok (.ireturn, 1) := by decide +kernel
theorem d_W_numberOfSet_31 : decode b_W_numberOfSet 31 = .ok (.iinc 3 1, 3) := by decide +kernel
theorem d_W_numberOfSet_34 : decode b_W_numberOfSet 34 = .ok (.goto (-32), 3) := by decide +kernel
theorem d_W_numberOfSet_37 : decode b_W_numberOfSet 37 = .ok (.iconst 0, 1) := by decide +kernel
theorem d_W_numberOfSet_38 : decode b_W_numberOfSet 38 = .ok (.ireturn, 1) := by decide +kernel
theorem d_W_writeMark_0 : decode b_W_writeMark 0 = .ok (.aload_n 0, 1) := by decide +kernel
theorem d_W_writeMark_1 : decode b_W_writeMark 1 = .ok (.aload_n 1, 1) := by decide +kernel
theorem d_W_writeMark_2 : decode b_W_writeMark 2 = .ok (.iload_n 2, 1) := by decide +kernel
theorem d_W_writeMark_3 : decode b_W_writeMark 3 = .ok (.invokevirtual 121, 3) := by decide +kernel
theorem d_W_writeMark_6 : decode b_W_writeMark 6 = .ok (.istore_n 3, 1) := by decide +kernel
theorem d_W_writeMark_7 : decode b_W_writeMark 7 = .ok (.aload_n 0, 1) := by decide +kernel
theorem d_W_writeMark_8 : decode b_W_writeMark 8 = .ok (.iload_n 3, 1) := by decide +kernel
theorem d_W_writeMark_9 : decode b_W_writeMark 9 = .ok (.invokevirtual 49, 3) := by decide +kernel
theorem d_W_writeMark_12 : decode b_W_writeMark 12 = .ok (.iload_n 3, 1) := by decide +kernel
theorem d_W_writeMark_13 : decode b_W_writeMark 13 = .ok (.ifCond .ne 91, 3) := by decide +kernel
theorem d_W_writeMark_16 : decode b_W_writeMark 16 = .ok (.aload_n 0, 1) := by decide +kernel
theorem d_W_writeMark_17 : decode b_W_writeMark 17 = .ok (.getfield 26, 3) := by decide +kernel
theorem d_W_writeMark_20 : decode b_W_writeMark 20 = .ok (.bipush 24, 2) := by decide +kernel
theorem d_W_writeMark_22 : decode b_W_writeMark 22 = .ok (.if_icmp .ge 82, 3) := by decide +kernel
theorem d_W_writeMark_25 : decode b_W_writeMark 25 = .ok (.aload_n 0, 1) := by decide +kernel
theorem d_W_writeMark_26 : decode b_W_writeMark 26 = .ok (.getfield 19, 3) := by decide +kernel
theorem d_W_writeMark_29 : decode b_W_writeMark 29 = .ok (.aload_n 0, 1) := by decide +kernel
theorem d_W_writeMark_30 : decode b_W_writeMark 30 = .ok (.getfield 26, 3) := by decide +kernel
theorem d_W_writeMark_33 : decode b_W_writeMark 33 = .ok (.iload_n 2, 1) := by decide +kernel
theorem d_W_writeMark_34 : decode b_W_writeMark 34 = .ok (.iastore, 1) := by decide +kernel
theorem d_W_writeMark_35 : decode b_W_writeMark 35 = .ok (.aload_n 0, 1) := by decide +kernel
theorem d_W_writeMark_36 : decode b_W_writeMark 36 = .ok (.dup, 1) := by decide +kernel
theorem d_W_writeMark_37 : decode b_W_writeMark 37 = .ok (.getfield 26, 3) := by decide +kernel
theorem d_W_writeMark_40 : decode b_W_writeMark 40 = .ok (.iconst 1, 1) := by decide +kernel
theorem d_W_writeMark_41 : decode b_W_writeMark 41 = .ok (.iadd, 1) := by decide +kernel
theorem d_W_writeMark_42 : decode b_W_writeMark 42 = .ok (.putfield 26, 3) := by decide +kernel
theorem d_W_writeMark_45 : decode b_W_writeMark 45 = .ok (.aload_n 0, 1) := by decide +kernel
theorem d_W_writeMark_46 : decode b_W_writeMark 46 = .ok (.aload_n 1, 1) := by decide +kernel
theorem d_W_writeMark_47 : decode b_W_writeMark 47 = .ok (.getfield 124, 3) := by decide +kernel
theorem d_W_writeMark_50 : decode b_W_writeMark 50 = .ok (.iload_n 2, 1) := by decide +kernel
theorem d_W_writeMark_51 : decode b_W_writeMark 51 = .ok (.iconst 0, 1) := by decide +kernel
theorem d_W_writeMark_52 : decode b_W_writeMark 52 = .ok (.invokevirtual 128, 3) := by decide +kernel
theorem d_W_writeMark_55 : decode b_W_writeMark 55 = .ok (.invokevirtual 49, 3) := by decide +kernel
theorem d_W_writeMark_58 : decode b_W_writeMark 58 = .ok (.aload_n 0, 1) := by decide +kernel
theorem d_W_writeMark_59 : decode b_W_writeMark 59 = .ok (.aload_n 1, 1) := by decide +kernel
theorem d_W_writeMark_60 : decode b_W_writeMark 60 = .ok (.getfield 124, 3) := by decide +kernel
theorem d_W_writeMark_63 : decode b_W_writeMark 63 = .ok (.iload_n 2, 1) := by decide +kernel
theorem d_W_writeMark_64 : decode b_W_writeMark 64 = .ok (.iconst 1, 1) := by decide +kernel
theorem d_W_writeMark_65 : decode b_W_writeMark 65 = .ok (.invokevirtual 128, 3) := by decide +kernel
theorem d_W_writeMark_68 : decode b_W_writeMark 68 = .ok (.invokevirtual 49, 3) := by decide +kernel
theorem d_W_writeMark_71 : decode b_W_writeMark 71 = .ok (.aload_n 1, 1) := by decide +kernel
theorem d_W_writeMark_72 : decode b_W_writeMark 72 = .ok (.getfield 124, 3) := by decide +kernel
theorem d_W_writeMark_75 : decode b_W_writeMark 75 = .ok (.iload_n 2, 1) := by decide +kernel
theorem d_W_writeMark_76 : decode b_W_writeMark 76 = .ok (.iconst 2, 1) := by decide +kernel
theorem d_W_writeMark_77 : decode b_W_writeMark 77 = .ok (.invokevirtual 128, 3) := by decide +kernel
theorem d_W_writeMark_80 : decode b_W_writeMark 80 = .ok (.istore 4, 2) := by decide +kernel
theorem d_W_writeMark_82 : decode b_W_writeMark 82 = .ok (.iload 4, 2) := by decide +kernel
theorem d_W_writeMark_84 : decode b_W_writeMark 84 = .ok (.iconst (-1), 1) := by decide +kernel
theorem d_W_writeMark_85 : decode b_W_writeMark 85 = .ok (.if_icmp .ne 11, 3) := by decide +kernel
theorem d_W_writeMark_88 : decode b_W_writeMark 88 = .ok (.aload_n 0, 1) := by decide +kernel
theorem d_W_writeMark_89 : decode b_W_writeMark 89 = .ok (.iconst 0, 1) := by decide +kernel
theorem d_W_writeMark_90 : decode b_W_writeMark 90 = .ok (.invokevirtual 49, 3) := by decide +kernel
theorem d_W_writeMark_93 : decode b_W_writeMark 93 = .ok (.goto 11, 3) := by decide +kernel
theorem d_W_writeMark_96 : decode b_W_writeMark 96 = .ok (.aload_n 0, 1) := by decide +kernel
theorem d_W_writeMark_97 : decode b_W_writeMark 97 = .ok (.aload_n 1, 1) := by decide +kernel
theorem d_W_writeMark_98 : decode b_W_writeMark 98 = .ok (.iload 4, 2) := by decide +kernel
theorem d_W_writeMark_100 : decode b_W_writeMark 100 = .ok (.iconst 1, 1) := by decide +kernel
theorem d_W_writeMark_101 : decode b_W_writeMark 101 = .ok (.invokevirtual 97, 3) := by decide +kernel
theorem d_W_writeMark_104 : decode b_W_writeMark 104 = .ok (.return_, 1) := by decide +kernel
theorem d_W_numberOfMark_0 : decode b_W_numberOfMark 0 = .ok (.iconst 0, 1) := by decide +kernel
theorem d_W_numberOfMark_1 : decode b_W_numberOfMark 1 = .ok (.istore_n 3, 1) := by decide +kernel
theorem d_W_numberOfMark_2 : decode b_W_numberOfMark 2 = .ok (.iload_n 3, 1) := by decide +kernel
theorem d_W_numberOfMark_3 : decode b_W_numberOfMark 3 = .ok (.aload_n 0, 1) := by decide +kernel
theorem d_W_numberOfMark_4 : decode b_W_numberOfMark 4 = .ok (.getfield 26, 3) := by decide +kernel
theorem d_W_numberOfMark_7 : decode b_W_numberOfMark 7 = .ok (.if_icmp .ge 27, 3) := by decide +kernel
theorem d_W_numberOfMark_10 : decode b_W_numberOfMark 10 = .ok (.aload_n 1, 1) := by decide +kernel
theorem d_W_numberOfMark_11 : decode b_W_numberOfMark 11 = .ok (.aload_n 0, 1) := by decide +kernel
theorem d_W_numberOfMark_12 : decode b_W_numberOfMark 12 = .ok (.getfield 19, 3) := by decide +kernel
theorem d_W_numberOfMark_15 : decode b_W_numberOfMark 15 = .ok (.iload_n 3, 1) := by decide +kernel
theorem d_W_numberOfMark_16 : decode b_W_numberOfMark 16 = .ok (.iaload, 1) := by decide +kernel
theorem d_W_numberOfMark_17 : decode b_W_numberOfMark 17 = .ok (.iload_n 2, 1) := by decide +kernel
theorem d_W_numberOfMark_18 : decode b_W_numberOfMark 18 = .ok (.invokevirtual 131, 3) := by decide +kernel
theorem d_W_numberOfMark_21 : decode b_W_numberOfMark 21 = .ok (.ifCond .eq 7, 3) := by decide +kernel
theorem d_W_numberOfMark_24 : decode b_W_numberOfMark 24 = .ok (.iload_n 3, 1) := by decide +kernel
theorem d_W_numberOfMark_25 : decode b_W_numberOfMark 25 = .ok (.iconst 1, 1) := by decide +kernel
theorem d_W_numberOfMark_26 : decode b_W_numberOfMark 26 = .ok (.iadd, 1) := by decide +kernel
theorem d_W_numberOfMark_27 : decode b_W_numberOfMark 27 = .ok (.ireturn, 1) := by decide +kernel
theorem d_W_numberOfMark_28 : decode b_W_numberOfMark 28 = .ok (.iinc 3 1, 3) := by decide +kernel
theorem d_W_numberOfMark_31 : decode b_W_numberOfMark 31 = .ok (.goto (-29), 3) := by decide +kernel
theorem d_W_numberOfMark_34 : decode b_W_numberOfMark 34 = .ok (.iconst 0, 1) := by decide +kernel
theorem d_W_numberOfMark_35 : decode b_W_numberOfMark 35 = .ok (.ireturn, 1) := by decide +kernel
