theorem d_Z_at_0 : decode b_Z_at 0 = .ok (.iload_n 1, 1) := by decide +kernel
theorem d_Z_at_1 : decode b_Z_at 1 = .ok (.iconst 0, 1) := by decide +kernel
theorem d_Z_at_2 : decode b_Z_at 2 = .ok (.aload_n 0, 1) := by decide +kernel
theorem d_Z_at_3 : decode b_Z_at 3 = .ok (.getfield 26, 3) := by decide +kernel
theorem d_Z_at_6 : decode b_Z_at 6 = .ok (.aload_n 0, 1) := by decide +kernel
theorem d_Z_at_7 : decode b_Z_at 7 = .ok (.getfield 74, 3) := by decide +kernel
theorem d_Z_at_10 : decode b_Z_at 10 = .ok (.iaload, 1) := by decide +kernel
theorem d_Z_at_11 : decode b_Z_at 11 = .ok (.iconst 1, 1) := by decide +kernel
theorem d_Z_at_12 : decode b_Z_at 12 = .ok (.isub, 1) := by decide +kernel
theorem d_Z_at_13 : decode b_Z_at 13 = .ok (.invokestatic 70, 3) := by decide +kernel
theorem d_Z_at_16 : decode b_Z_at 16 = .ok (.ifCond .eq 21, 3) := by decide +kernel
theorem d_Z_at_19 : decode b_Z_at 19 = .ok (.aload_n 0, 1) := by decide +kernel
theorem d_Z_at_20 : decode b_Z_at 20 = .ok (.getfield 60, 3) := by decide +kernel
theorem d_Z_at_23 : decode b_Z_at 23 = .ok (.sipush 512, 3) := by decide +kernel
theorem d_Z_at_26 : decode b_Z_at 26 = .ok (.aload_n 0, 1) := by decide +kernel
theorem d_Z_at_27 : decode b_Z_at 27 = .ok (.getfield 74, 3) := by decide +kernel
theorem d_Z_at_30 : decode b_Z_at 30 = .ok (.imul, 1) := by decide +kernel
theorem d_Z_at_31 : decode b_Z_at 31 = .ok (.iload_n 1, 1) := by decide +kernel
theorem d_Z_at_32 : decode b_Z_at 32 = .ok (.iadd, 1) := by decide +kernel
theorem d_Z_at_33 : decode b_Z_at 33 = .ok (.saload, 1) := by decide +kernel
theorem d_Z_at_34 : decode b_Z_at 34 = .ok (.goto 4, 3) := by decide +kernel
theorem d_Z_at_37 : decode b_Z_at 37 = .ok (.iconst (-1), 1) := by decide +kernel
theorem d_Z_at_38 : decode b_Z_at 38 = .ok (.ireturn, 1) := by decide +kernel
theorem d_Z_sameSets_0 : decode b_Z_sameSets 0 = .ok (.iconst 1, 1) := by decide +kernel
theorem d_Z_sameSets_1 : decode b_Z_sameSets 1 = .ok (.istore 4, 2) := by decide +kernel
theorem d_Z_sameSets_3 : decode b_Z_sameSets 3 = .ok (.iconst 0, 1) := by decide +kernel
theorem d_Z_sameSets_4 : decode b_Z_sameSets 4 = .ok (.istore 5, 2) := by decide +kernel
theorem d_Z_sameSets_6 : decode b_Z_sameSets 6 = .ok (.iload 5, 2) := by decide +kernel
theorem d_Z_sameSets_8 : decode b_Z_sameSets 8 = .ok (.bipush 24, 2) := by decide +kernel
theorem d_Z_sameSets_10 : decode b_Z_sameSets 10 = .ok (.if_icmp .ge 52, 3) := by decide +kernel
theorem d_Z_sameSets_13 : decode b_Z_sameSets 13 = .ok (.iload 4, 2) := by decide +kernel
theorem d_Z_sameSets_15 : decode b_Z_sameSets 15 = .ok (.ifCond .eq 38, 3) := by decide +kernel
theorem d_Z_sameSets_18 : decode b_Z_sameSets 18 = .ok (.aload_n 0, 1) := by decide +kernel
theorem d_Z_sameSets_19 : decode b_Z_sameSets 19 = .ok (.getfield 32, 3) := by decide +kernel
theorem d_Z_sameSets_22 : decode b_Z_sameSets 22 = .ok (.iload_n 1, 1) := by decide +kernel
theorem d_Z_sameSets_23 : decode b_Z_sameSets 23 = .ok (.iconst 1, 1) := by decide +kernel
theorem d_Z_sameSets_24 : decode b_Z_sameSets 24 = .ok (.iload_n 2, 1) := by decide +kernel
theorem d_Z_sameSets_25 : decode b_Z_sameSets 25 = .ok (.invokestatic 78, 3) := by decide +kernel
theorem d_Z_sameSets_28 : decode b_Z_sameSets 28 = .ok (.iload 5, 2) := by decide +kernel
theorem d_Z_sameSets_30 : decode b_Z_sameSets 30 = .ok (.iadd, 1) := by decide +kernel
theorem d_Z_sameSets_31 : decode b_Z_sameSets 31 = .ok (.iaload, 1) := by decide +kernel
theorem d_Z_sameSets_32 : decode b_Z_sameSets 32 = .ok (.aload_n 0, 1) := by decide +kernel
theorem d_Z_sameSets_33 : decode b_Z_sameSets 33 = .ok (.getfield 32, 3) := by decide +kernel
theorem d_Z_sameSets_36 : decode b_Z_sameSets 36 = .ok (.iload_n 1, 1) := by decide +kernel
theorem d_Z_sameSets_37 : decode b_Z_sameSets 37 = .ok (.iconst 1, 1) := by decide +kernel
theorem d_Z_sameSets_38 : decode b_Z_sameSets 38 = .ok (.iload_n 3, 1) := by decide +kernel
theorem d_Z_sameSets_39 : decode b_Z_sameSets 39 = .ok (.invokestatic 78, 3) := by decide +kernel
theorem d_Z_sameSets_42 : decode b_Z_sameSets 42 = .ok (.iload 5, 2) := by decide +kernel
theorem d_Z_sameSets_44 : decode b_Z_sameSets 44 = .ok (.iadd, 1) := by decide +kernel
theorem d_Z_sameSets_45 : decode b_Z_sameSets 45 = .ok (.iaload, 1) := by decide +kernel
theorem d_Z_sameSets_46 : decode b_Z_sameSets 46 = .ok (.if_icmp .ne 7, 3) := by decide +kernel
theorem d_Z_sameSets_49 : decode b_Z_sameSets 49 = .ok (.iconst 1, 1) := by decide +kernel
theorem d_Z_sameSets_50 : decode b_Z_sameSets 50 = .ok (.goto 4, 3) := by decide +kernel
theorem d_Z_sameSets_53 : decode b_Z_sameSets 53 = .ok (.iconst 0, 1) := by decide +kernel
theorem d_Z_sameSets_54 : decode b_Z_sameSets 54 = .ok (.istore 4, 2) := by decide +kernel
theorem d_Z_sameSets_56 : decode b_Z_sameSets 56 = .ok (.iinc 5 1, 3) := by decide +kernel
theorem d_Z_sameSets_59 : decode b_Z_sameSets 59 = .ok (.goto (-53), 3) := by decide +kernel
theorem d_Z_sameSets_62 : decode b_Z_sameSets 62 = .ok (.iload 4, 2) := by decide +kernel
theorem d_Z_sameSets_64 : decode b_Z_sameSets 64 = .ok (.ireturn, 1) := by decide +kernel
theorem d_Z_firstSet_0 : decode b_Z_firstSet 0 = .ok (.iconst 0, 1) := by decide +kernel
theorem d_Z_firstSet_1 : decode b_Z_firstSet 1 = .ok (.istore_n 3, 1) := by decide +kernel
theorem d_Z_firstSet_2 : decode b_Z_firstSet 2 = .ok (.iload_n 3, 1) := by decide +kernel
theorem d_Z_firstSet_3 : decode b_Z_firstSet 3 = .ok (.iload_n 2, 1) := by decide +kernel
theorem d_Z_firstSet_4 : decode b_Z_firstSet 4 = .ok (.if_icmp .ge 19, 3) := by decide +kernel
theorem d_Z_firstSet_7 : decode b_Z_firstSet 7 = .ok (.aload_n 0, 1) := by decide +kernel
theorem d_Z_firstSet_8 : decode b_Z_firstSet 8 = .ok (.iload_n 1, 1) := by decide +kernel
theorem d_Z_firstSet_9 : decode b_Z_firstSet 9 = .ok (.iload_n 2, 1) := by decide +kernel
theorem d_Z_firstSet_10 : decode b_Z_firstSet 10 = .ok (.iload_n 3, 1) := by decide +kernel
theorem d_Z_firstSet_11 : decode b_Z_firstSet 11 = .ok (.invokevirtual 117, 3) := by decide +kernel
theorem d_Z_firstSet_14 : decode b_Z_firstSet 14 = .ok (.ifCond .ne 9, 3) := by decide +kernel
theorem d_Z_firstSet_17 : decode b_Z_firstSet 17 = .ok (.iinc 3 1, 3) := by decide +kernel
theorem d_Z_firstSet_20 : decode b_Z_firstSet 20 = .ok (.goto (-18), 3) := by decide +kernel
theorem d_Z_firstSet_23 : decode b_Z_firstSet 23 = .ok (.iload_n 2, 1) := by decide +kernel
theorem d_Z_firstSet_24 : decode b_Z_firstSet 24 = .ok (.ifCond .ge 7, 3) := by decide +kernel
theorem d_Z_firstSet_27 : decode b_Z_firstSet 27 = .ok (.iconst (-1), 1) := by decide +kernel
theorem d_Z_firstSet_28 : decode b_Z_firstSet 28 = .ok (.goto 4, 3) := by decide +kernel
theorem d_Z_firstSet_31 : decode b_Z_firstSet 31 = .ok (.iload_n 3, 1) := by decide +kernel
theorem d_Z_firstSet_32 : decode b_Z_firstSet 32 = .ok (.ireturn, 1) := by decide +kernel
theorem d_Z_firstMark_0 : decode b_Z_firstMark 0 = .ok (.iconst 0, 1) := by decide +kernel
theorem d_Z_firstMark_1 : decode b_Z_firstMark 1 = .ok (.istore_n 3, 1) := by decide +kernel
theorem d_Z_firstMark_2 : decode b_Z_firstMark 2 = .ok (.iload_n 3, 1) := by decide +kernel
theorem d_Z_firstMark_3 : decode b_Z_firstMark 3 = .ok (.iload_n 2, 1) := by decide +kernel
theorem d_Z_firstMark_4 : decode b_Z_firstMark 4 = .ok (.if_icmp .ge 19, 3) := by decide +kernel
theorem d_Z_firstMark_7 : decode b_Z_firstMark 7 = .ok (.aload_n 0, 1) := by decide +kernel
theorem d_Z_firstMark_8 : decode b_Z_firstMark 8 = .ok (.iload_n 1, 1) := by decide +kernel
theorem d_Z_firstMark_9 : decode b_Z_firstMark 9 = .ok (.iload_n 2, 1) := by decide +kernel
theorem d_Z_firstMark_10 : decode b_Z_firstMark 10 = .ok (.iload_n 3, 1) := by decide +kernel
theorem d_Z_firstMark_11 : decode b_Z_firstMark 11 = .ok (.invokevirtual 120, 3) := by decide +kernel
theorem d_Z_firstMark_14 : decode b_Z_firstMark 14 = .ok (.ifCond .ne 9, 3) := by decide +kernel
theorem d_Z_firstMark_17 : decode b_Z_firstMark 17 = .ok (.iinc 3 1, 3) := by decide +kernel
theorem d_Z_firstMark_20 : decode b_Z_firstMark 20 = .ok (.goto (-18), 3) := by decide +kernel
theorem d_Z_firstMark_23 : decode b_Z_firstMark 23 = .ok (.iload_n 3, 1) := by decide +kernel
theorem d_Z_firstMark_24 : decode b_Z_firstMark 24 = .ok (.ireturn, 1) := by decide +kernel
theorem d_Z_sameMarks_0 : decode b_Z_sameMarks 0 = .ok (.bipush 24, 2) := by decide +kernel
theorem d_Z_sameMarks_2 : decode b_Z_sameMarks 2 = .ok (.iload_n 1, 1) := by decide +kernel
theorem d_Z_sameMarks_3 : decode b_Z_sameMarks 3 = .ok (.imul, 1) := by decide +kernel
theorem d_Z_sameMarks_4 : decode b_Z_sameMarks 4 = .ok (.iload_n 2, 1) := by decide +kernel
theorem d_Z_sameMarks_5 : decode b_Z_sameMarks 5 = .ok (.iadd, 1) := by decide +kernel
theorem d_Z_sameMarks_6 : decode b_Z_sameMarks 6 = .ok (.istore 4, 2) := by decide +kernel
theorem d_Z_sameMarks_8 : decode b_Z_sameMarks 8 = .ok (.bipush 24, 2) := by decide +kernel
theorem d_Z_sameMarks_10 : decode b_Z_sameMarks 10 = .ok (.iload_n 1, 1) := by decide +kernel
theorem d_Z_sameMarks_11 : decode b_Z_sameMarks 11 = .ok (.imul, 1) := by decide +kernel
theorem d_Z_sameMarks_12 : decode b_Z_sameMarks 12 = .ok (.iload_n 3, 1) := by decide +kernel
theorem d_Z_sameMarks_13 : decode b_Z_sameMarks 13 = .ok (.iadd, 1) := by decide +kernel
theorem d_Z_sameMarks_14 : decode b_Z_sameMarks 14 = .ok (.istore 5, 2) := by decide +kernel
theorem d_Z_sameMarks_16 : decode b_Z_sameMarks 16 = .ok (.aload_n 0, 1) := by decide +kernel
theorem d_Z_sameMarks_17 : decode b_Z_sameMarks 17 = .ok (.getfield 35, 3) := by decide +kernel
theorem d_Z_sameMarks_20 : decode b_Z_sameMarks 20 = .ok (.iload 4, 2) := by decide +kernel
theorem d_Z_sameMarks_22 : decode b_Z_sameMarks 22 = .ok (.saload, 1) := by decide +kernel
theorem d_Z_sameMarks_23 : decode b_Z_sameMarks 23 = .ok (.aload_n 0, 1) := by decide +kernel
theorem d_Z_sameMarks_24 : decode b_Z_sameMarks 24 = .ok (.getfield 35, 3) := by decide +kernel
theorem d_Z_sameMarks_27 : decode b_Z_sameMarks 27 = .ok (.iload 5, 2) := by decide +kernel
theorem d_Z_sameMarks_29 : decode b_Z_sameMarks 29 = .ok (.saload, 1) := by decide +kernel
theorem d_Z_sameMarks_30 : decode b_Z_sameMarks 30 = .ok (.if_icmp .ne 51, 3) := by decide +kernel
theorem d_Z_sameMarks_33 : decode b_Z_sameMarks 33 = .ok (.aload_n 0, 1) := by decide +kernel
theorem d_Z_sameMarks_34 : decode b_Z_sameMarks 34 = .ok (.getfield 39, 3) := by decide +kernel
theorem d_Z_sameMarks_37 : decode b_Z_sameMarks 37 = .ok (.iload 4, 2) := by decide +kernel
theorem d_Z_sameMarks_39 : decode b_Z_sameMarks 39 = .ok (.saload, 1) := by decide +kernel
theorem d_Z_sameMarks_40 : decode b_Z_sameMarks 40 = .ok (.aload_n 0, 1) := by decide +kernel
theorem d_Z_sameMarks_41 : decode b_Z_sameMarks 41 = .ok (.getfield 39, 3) := by decide +kernel
theorem d_Z_sameMarks_44 : decode b_Z_sameMarks 44 = .ok (.iload 5, 2) := by decide +kernel
theorem d_Z_sameMarks_46 : decode b_Z_sameMarks 46 = .ok (.saload, 1) := by decide +kernel
theorem d_Z_sameMarks_47 : decode b_Z_sameMarks 47 = .ok (.if_icmp .ne 34, 3) := by decide +kernel
theorem d_Z_sameMarks_50 : decode b_Z_sameMarks 50 = .ok (.aload_n 0, 1) := by decide +kernel
theorem d_Z_sameMarks_51 : decode b_Z_sameMarks 51 = .ok (.iload_n 1, 1) := by decide +kernel
theorem d_Z_sameMarks_52 : decode b_Z_sameMarks 52 = .ok (.aload_n 0, 1) := by decide +kernel
theorem d_Z_sameMarks_53 : decode b_Z_sameMarks 53 = .ok (.getfield 42, 3) := by decide +kernel
theorem d_Z_sameMarks_56 : decode b_Z_sameMarks 56 = .ok (.iload 4, 2) := by decide +kernel
theorem d_Z_sameMarks_58 : decode b_Z_sameMarks 58 = .ok (.saload, 1) := by decide +kernel
theorem d_Z_sameMarks_59 : decode b_Z_sameMarks 59 = .ok (.invokevirtual 123, 3) := by decide +kernel
theorem d_Z_sameMarks_62 : decode b_Z_sameMarks 62 = .ok (.aload_n 0, 1) := by decide +kernel
theorem d_Z_sameMarks_63 : decode b_Z_sameMarks 63 = .ok (.iload_n 1, 1) := by decide +kernel
theorem d_Z_sameMarks_64 : decode b_Z_sameMarks 64 = .ok (.aload_n 0, 1) := by decide +kernel
theorem d_Z_sameMarks_65 : decode b_Z_sameMarks 65 = .ok (.getfield 42, 3) := by decide +kernel
theorem d_Z_sameMarks_68 : decode b_Z_sameMarks 68 = .ok (.iload 5, 2) := by decide +kernel
theorem d_Z_sameMarks_70 : decode b_Z_sameMarks 70 = .ok (.saload, 1) := by decide +kernel
theorem d_Z_sameMarks_71 : decode b_Z_sameMarks 71 = .ok (.invokevirtual 123, 3) := by decide +kernel
theorem d_Z_sameMarks_74 : decode b_Z_sameMarks 74 = .ok (.if_icmp .ne 7, 3) := by decide +kernel
theorem d_Z_sameMarks_77 : decode b_Z_sameMarks 77 = .ok (.iconst 1, 1) := by decide +kernel
theorem d_Z_sameMarks_78 : decode b_Z_sameMarks 78 = .ok (.goto 4, 3) := by decide +kernel
theorem d_Z_sameMarks_81 : decode b_Z_sameMarks 81 = .ok (.iconst 0, 1) := by decide +kernel
theorem d_Z_sameMarks_82 : decode b_Z_sameMarks 82 = .ok (.ireturn, 1) := by decide +kernel
theorem d_Z_sameRuns_0 : decode b_Z_sameRuns 0 = .ok (.bipush 40, 2) := by decide +kernel
theorem d_Z_sameRuns_2 : decode b_Z_sameRuns 2 = .ok (.iload_n 1, 1) := by decide +kernel
theorem d_Z_sameRuns_3 : decode b_Z_sameRuns 3 = .ok (.imul, 1) := by decide +kernel
theorem d_Z_sameRuns_4 : decode b_Z_sameRuns 4 = .ok (.iload_n 2, 1) := by decide +kernel
theorem d_Z_sameRuns_5 : decode b_Z_sameRuns 5 = .ok (.iadd, 1) := by decide +kernel
theorem d_Z_sameRuns_6 : decode b_Z_sameRuns 6 = .ok (.istore 4, 2) := by decide +kernel
theorem d_Z_sameRuns_8 : decode b_Z_sameRuns 8 = .ok (.bipush 40, 2) := by decide +kernel
theorem d_Z_sameRuns_10 : decode b_Z_sameRuns 10 = .ok (.iload_n 1, 1) := by decide +kernel
theorem d_Z_sameRuns_11 : decode b_Z_sameRuns 11 = .ok (.imul, 1) := by decide +kernel
theorem d_Z_sameRuns_12 : decode b_Z_sameRuns 12 = .ok (.iload_n 3, 1) := by decide +kernel
theorem d_Z_sameRuns_13 : decode b_Z_sameRuns 13 = .ok (.iadd, 1) := by decide +kernel
theorem d_Z_sameRuns_14 : decode b_Z_sameRuns 14 = .ok (.istore 5, 2) := by decide +kernel
theorem d_Z_sameRuns_16 : decode b_Z_sameRuns 16 = .ok (.aload_n 0, 1) := by decide +kernel
theorem d_Z_sameRuns_17 : decode b_Z_sameRuns 17 = .ok (.getfield 45, 3) := by decide +kernel
theorem d_Z_sameRuns_20 : decode b_Z_sameRuns 20 = .ok (.iload 4, 2) := by decide +kernel
theorem d_Z_sameRuns_22 : decode b_Z_sameRuns 22 = .ok (.saload, 1) := by decide +kernel
theorem d_Z_sameRuns_23 : decode b_Z_sameRuns 23 = .ok (.aload_n 0, 1) := by decide +kernel
theorem d_Z_sameRuns_24 : decode b_Z_sameRuns 24 = .ok (.getfield 45, 3) := by decide +kernel
theorem d_Z_sameRuns_27 : decode b_Z_sameRuns 27 = .ok (.iload 5, 2) := by decide +kernel
theorem d_Z_sameRuns_29 : decode b_Z_sameRuns 29 = .ok (.saload, 1) := by decide +kernel
theorem d_Z_sameRuns_30 : decode b_Z_sameRuns 30 = .ok (.if_icmp .ne 78, 3) := by decide +kernel
theorem d_Z_sameRuns_33 : decode b_Z_sameRuns 33 = .ok (.aload_n 0, 1) := by decide +kernel
theorem d_Z_sameRuns_34 : decode b_Z_sameRuns 34 = .ok (.getfield 54, 3) := by decide +kernel
theorem d_Z_sameRuns_37 : decode b_Z_sameRuns 37 = .ok (.iload 4, 2) := by decide +kernel
theorem d_Z_sameRuns_39 : decode b_Z_sameRuns 39 = .ok (.saload, 1) := by decide +kernel
theorem d_Z_sameRuns_40 : decode b_Z_sameRuns 40 = .ok (.aload_n 0, 1) := by decide +kernel
theorem d_Z_sameRuns_41 : decode b_Z_sameRuns 41 = .ok (.getfield 54, 3) := by decide +kernel
theorem d_Z_sameRuns_44 : decode b_Z_sameRuns 44 = .ok (.iload 5, 2) := by decide +kernel
theorem d_Z_sameRuns_46 : decode b_Z_sameRuns 46 = .ok (.saload, 1) := by decide +kernel
theorem d_Z_sameRuns_47 : decode b_Z_sameRuns 47 = .ok (.if_icmp .ne 61, 3) := by decide +kernel
theorem d_Z_sameRuns_50 : decode b_Z_sameRuns 50 = .ok (.aload_n 0, 1) := by decide +kernel
theorem d_Z_sameRuns_51 : decode b_Z_sameRuns 51 = .ok (.iload_n 1, 1) := by decide +kernel
theorem d_Z_sameRuns_52 : decode b_Z_sameRuns 52 = .ok (.aload_n 0, 1) := by decide +kernel
theorem d_Z_sameRuns_53 : decode b_Z_sameRuns 53 = .ok (.getfield 48, 3) := by decide +kernel
theorem d_Z_sameRuns_56 : decode b_Z_sameRuns 56 = .ok (.iload 4, 2) := by decide +kernel
theorem d_Z_sameRuns_58 : decode b_Z_sameRuns 58 = .ok (.saload, 1) := by decide +kernel
theorem d_Z_sameRuns_59 : decode b_Z_sameRuns 59 = .ok (.invokevirtual 123, 3) := by decide +kernel
theorem d_Z_sameRuns_62 : decode b_Z_sameRuns 62 = .ok (.aload_n 0, 1) := by decide +kernel
theorem d_Z_sameRuns_63 : decode b_Z_sameRuns 63 = .ok (.iload_n 1, 1) := by decide +kernel
theorem d_Z_sameRuns_64 : decode b_Z_sameRuns 64 = .ok (.aload_n 0, 1) := by decide +kernel
theorem d_Z_sameRuns_65 : decode b_Z_sameRuns 65 = .ok (.getfield 48, 3) := by decide +kernel
theorem d_Z_sameRuns_68 : decode b_Z_sameRuns 68 = .ok (.iload 5, 2) := by decide +kernel
theorem d_Z_sameRuns_70 : decode b_Z_sameRuns 70 = .ok (.saload, 1) := by decide +kernel
theorem d_Z_sameRuns_71 : decode b_Z_sameRuns 71 = .ok (.invokevirtual 123, 3) := by decide +kernel
theorem d_Z_sameRuns_74 : decode b_Z_sameRuns 74 = .ok (.if_icmp .ne 34, 3) := by decide +kernel
theorem d_Z_sameRuns_77 : decode b_Z_sameRuns 77 = .ok (.aload_n 0, 1) := by decide +kernel
theorem d_Z_sameRuns_78 : decode b_Z_sameRuns 78 = .ok (.iload_n 1, 1) := by decide +kernel
theorem d_Z_sameRuns_79 : decode b_Z_sameRuns 79 = .ok (.aload_n 0, 1) := by decide +kernel
theorem d_Z_sameRuns_80 : decode b_Z_sameRuns 80 = .ok (.getfield 51, 3) := by decide +kernel
theorem d_Z_sameRuns_83 : decode b_Z_sameRuns 83 = .ok (.iload 4, 2) := by decide +kernel
theorem d_Z_sameRuns_85 : decode b_Z_sameRuns 85 = .ok (.saload, 1) := by decide +kernel
theorem d_Z_sameRuns_86 : decode b_Z_sameRuns 86 = .ok (.invokevirtual 127, 3) := by decide +kernel
theorem d_Z_sameRuns_89 : decode b_Z_sameRuns 89 = .ok (.aload_n 0, 1) := by decide +kernel
theorem d_Z_sameRuns_90 : decode b_Z_sameRuns 90 = .ok (.iload_n 1, 1) := by decide +kernel
theorem d_Z_sameRuns_91 : decode b_Z_sameRuns 91 = .ok (.aload_n 0, 1) := by decide +kernel
theorem d_Z_sameRuns_92 : decode b_Z_sameRuns 92 = .ok (.getfield 51, 3) := by decide +kernel
theorem d_Z_sameRuns_95 : decode b_Z_sameRuns 95 = .ok (.iload 5, 2) := by decide +kernel
theorem d_Z_sameRuns_97 : decode b_Z_sameRuns 97 = .ok (.saload, 1) := by decide +kernel
theorem d_Z_sameRuns_98 : decode b_Z_sameRuns 98 = .ok (.invokevirtual 127, 3) := by decide +kernel
theorem d_Z_sameRuns_101 : decode b_Z_sameRuns 101 = .ok (.if_icmp .ne 7, 3) := by decide +kernel
theorem d_Z_sameRuns_104 : decode b_Z_sameRuns 104 = .ok (.iconst 1, 1) := by decide +kernel
theorem d_Z_sameRuns_105 : decode b_Z_sameRuns 105 = .ok (.goto 4, 3) := by decide +kernel
theorem d_Z_sameRuns_108 : decode b_Z_sameRuns 108 = .ok (.iconst 0, 1) := by decide +kernel
theorem d_Z_sameRuns_109 : decode b_Z_sameRuns 109 = .ok (.ireturn, 1) := by decide +kernel
theorem d_Z_octetOut_0 : decode b_Z_octetOut 0 = .ok (.aload_n 0, 1) := by decide +kernel
theorem d_Z_octetOut_1 : decode b_Z_octetOut 1 = .ok (.getfield 7, 3) := by decide +kernel
theorem d_Z_octetOut_4 : decode b_Z_octetOut 4 = .ok (.aload_n 0, 1) := by decide +kernel
theorem d_Z_octetOut_5 : decode b_Z_octetOut 5 = .ok (.getfield 114, 3) := by decide +kernel
theorem d_Z_octetOut_8 : decode b_Z_octetOut 8 = .ok (.iload_n 1, 1) := by decide +kernel
theorem d_Z_octetOut_9 : decode b_Z_octetOut 9 = .ok (.i2b, 1) := by decide +kernel
theorem d_Z_octetOut_10 : decode b_Z_octetOut 10 = .ok (.bastore, 1) := by decide +kernel
theorem d_Z_octetOut_11 : decode b_Z_octetOut 11 = .ok (.aload_n 0, 1) := by decide +kernel
theorem d_Z_octetOut_12 : decode b_Z_octetOut 12 = .ok (.dup, 1) := by decide +kernel
theorem d_Z_octetOut_13 : decode b_Z_octetOut 13 = .ok (.getfield 114, 3) := by decide +kernel
theorem d_Z_octetOut_16 : decode b_Z_octetOut 16 = .ok (.iconst 1, 1) := by decide +kernel
theorem d_Z_octetOut_17 : decode b_Z_octetOut 17 = .ok (.iadd, 1) := by decide +kernel
theorem d_Z_octetOut_18 : decode b_Z_octetOut 18 = .ok (.putfield 114, 3) := by decide +kernel
theorem d_Z_octetOut_21 : decode b_Z_octetOut 21 = .ok (.return_, 1) := by decide +kernel
theorem d_Z_number_0 : decode b_Z_number 0 = .ok (.iload_n 1, 1) := by decide +kernel
theorem d_Z_number_1 : decode b_Z_number 1 = .ok (.sipush 16384, 3) := by decide +kernel
theorem d_Z_number_4 : decode b_Z_number 4 = .ok (.if_icmp .lt 15, 3) := by decide +kernel
theorem d_Z_number_7 : decode b_Z_number 7 = .ok (.aload_n 0, 1) := by decide +kernel
theorem d_Z_number_8 : decode b_Z_number 8 = .ok (.iload_n 1, 1) := by decide +kernel
theorem d_Z_number_9 : decode b_Z_number 9 = .ok (.bipush 14, 2) := by decide +kernel
theorem d_Z_number_11 : decode b_Z_number 11 = .ok (.ishr, 1) := by decide +kernel
theorem d_Z_number_12 : decode b_Z_number 12 = .ok (.sipush 128, 3) := by decide +kernel
theorem d_Z_number_15 : decode b_Z_number 15 = .ok (.ior, 1) := by decide +kernel
theorem d_Z_number_16 : decode b_Z_number 16 = .ok (.invokevirtual 130, 3) := by decide +kernel
theorem d_Z_number_19 : decode b_Z_number 19 = .ok (.iload_n 1, 1) := by decide +kernel
theorem d_Z_number_20 : decode b_Z_number 20 = .ok (.sipush 128, 3) := by decide +kernel
theorem d_Z_number_23 : decode b_Z_number 23 = .ok (.if_icmp .lt 18, 3) := by decide +kernel
theorem d_Z_number_26 : decode b_Z_number 26 = .ok (.aload_n 0, 1) := by decide +kernel
theorem d_Z_number_27 : decode b_Z_number 27 = .ok (.iload_n 1, 1) := by decide +kernel
theorem d_Z_number_28 : decode b_Z_number 28 = .ok (.bipush 7, 2) := by decide +kernel
theorem d_Z_number_30 : decode b_Z_number 30 = .ok (.ishr, 1) := by decide +kernel
theorem d_Z_number_31 : decode b_Z_number 31 = .ok (.bipush 127, 2) := by decide +kernel
theorem d_Z_number_33 : decode b_Z_number 33 = .ok (.iand, 1) := by decide +kernel
theorem d_Z_number_34 : decode b_Z_number 34 = .ok (.sipush 128, 3) := by decide +kernel
theorem d_Z_number_37 : decode b_Z_number 37 = .ok (.ior, 1) := by decide +kernel
theorem d_Z_number_38 : decode b_Z_number 38 = .ok (.invokevirtual 130, 3) := by decide +kernel
theorem d_Z_number_41 : decode b_Z_number 41 = .ok (.aload_n 0, 1) := by decide +kernel
theorem d_Z_number_42 : decode b_Z_number 42 = .ok (.iload_n 1, 1) := by decide +kernel
theorem d_Z_number_43 : decode b_Z_number 43 = .ok (.bipush 127, 2) := by decide +kernel
theorem d_Z_number_45 : decode b_Z_number 45 = .ok (.iand, 1) := by decide +kernel
theorem d_Z_number_46 : decode b_Z_number 46 = .ok (.invokevirtual 130, 3) := by decide +kernel
theorem d_Z_number_49 : decode b_Z_number 49 = .ok (.return_, 1) := by decide +kernel
theorem d_Z_properties_0 : decode b_Z_properties 0 = .ok (.iconst 0, 1) := by decide +kernel
theorem d_Z_properties_1 : decode b_Z_properties 1 = .ok (.istore_n 2, 1) := by decide +kernel
theorem d_Z_properties_2 : decode b_Z_properties 2 = .ok (.iconst 0, 1) := by decide +kernel
theorem d_Z_properties_3 : decode b_Z_properties 3 = .ok (.istore_n 3, 1) := by decide +kernel
theorem d_Z_properties_4 : decode b_Z_properties 4 = .ok (.iload_n 3, 1) := by decide +kernel
theorem d_Z_properties_5 : decode b_Z_properties 5 = .ok (.bipush 24, 2) := by decide +kernel
theorem d_Z_properties_7 : decode b_Z_properties 7 = .ok (.if_icmp .ge 28, 3) := by decide +kernel
theorem d_Z_properties_10 : decode b_Z_properties 10 = .ok (.iload_n 2, 1) := by decide +kernel
theorem d_Z_properties_11 : decode b_Z_properties 11 = .ok (.aload_n 0, 1) := by decide +kernel
theorem d_Z_properties_12 : decode b_Z_properties 12 = .ok (.getfield 32, 3) := by decide +kernel
theorem d_Z_properties_15 : decode b_Z_properties 15 = .ok (.iload_n 1, 1) := by decide +kernel
theorem d_Z_properties_16 : decode b_Z_properties 16 = .ok (.iload_n 3, 1) := by decide +kernel
theorem d_Z_properties_17 : decode b_Z_properties 17 = .ok (.iadd, 1) := by decide +kernel
theorem d_Z_properties_18 : decode b_Z_properties 18 = .ok (.iaload, 1) := by decide +kernel
theorem d_Z_properties_19 : decode b_Z_properties 19 = .ok (.ifCond .le 7, 3) := by decide +kernel
theorem d_Z_properties_22 : decode b_Z_properties 22 = .ok (.iconst 1, 1) := by decide +kernel
theorem d_Z_properties_23 : decode b_Z_properties 23 = .ok (.goto 4, 3) := by decide +kernel
theorem d_Z_properties_26 : decode b_Z_properties 26 = .ok (.iconst 0, 1) := by decide +kernel
theorem d_Z_properties_27 : decode b_Z_properties 27 = .ok (.iadd, 1) := by decide +kernel
theorem d_Z_properties_28 : decode b_Z_properties 28 = .ok (.istore_n 2, 1) := by decide +kernel
theorem d_Z_properties_29 : decode b_Z_properties 29 = .ok (.iinc 3 1, 3) := by decide +kernel
theorem d_Z_properties_32 : decode b_Z_properties 32 = .ok (.goto (-28), 3) := by decide +kernel
theorem d_Z_properties_35 : decode b_Z_properties 35 = .ok (.aload_n 0, 1) := by decide +kernel
theorem d_Z_properties_36 : decode b_Z_properties 36 = .ok (.iload_n 2, 1) := by decide +kernel
theorem d_Z_properties_37 : decode b_Z_properties 37 = .ok (.invokevirtual 133, 3) := by decide +kernel
theorem d_Z_properties_40 : decode b_Z_properties 40 = .ok (.iconst 0, 1) := by decide +kernel
theorem d_Z_properties_41 : decode b_Z_properties 41 = .ok (.istore_n 3, 1) := by decide +kernel
theorem d_Z_properties_42 : decode b_Z_properties 42 = .ok (.iload_n 3, 1) := by decide +kernel
theorem d_Z_properties_43 : decode b_Z_properties 43 = .ok (.bipush 24, 2) := by decide +kernel
theorem d_Z_properties_45 : decode b_Z_properties 45 = .ok (.if_icmp .ge 42, 3) := by decide +kernel
theorem d_Z_properties_48 : decode b_Z_properties 48 = .ok (.aload_n 0, 1) := by decide +kernel
theorem d_Z_properties_49 : decode b_Z_properties 49 = .ok (.getfield 32, 3) := by decide +kernel
theorem d_Z_properties_52 : decode b_Z_properties 52 = .ok (.iload_n 1, 1) := by decide +kernel
theorem d_Z_properties_53 : decode b_Z_properties 53 = .ok (.iload_n 3, 1) := by decide +kernel
theorem d_Z_properties_54 : decode b_Z_properties 54 = .ok (.iadd, 1) := by decide +kernel
theorem d_Z_properties_55 : decode b_Z_properties 55 = .ok (.iaload, 1) := by decide +kernel
theorem d_Z_properties_56 : decode b_Z_properties 56 = .ok (.ifCond .ne 6, 3) := by decide +kernel
theorem d_Z_properties_59 : decode b_Z_properties 59 = .ok (.goto 22, 3) := by decide +kernel
theorem d_Z_properties_62 : decode b_Z_properties 62 = .ok (.aload_n 0, 1) := by decide +kernel
theorem d_Z_properties_63 : decode b_Z_properties 63 = .ok (.iload_n 3, 1) := by decide +kernel
theorem d_Z_properties_64 : decode b_Z_properties 64 = .ok (.invokevirtual 133, 3) := by decide +kernel
theorem d_Z_properties_67 : decode b_Z_properties 67 = .ok (.aload_n 0, 1) := by decide +kernel
theorem d_Z_properties_68 : decode b_Z_properties 68 = .ok (.aload_n 0, 1) := by decide +kernel
theorem d_Z_properties_69 : decode b_Z_properties 69 = .ok (.getfield 32, 3) := by decide +kernel
theorem d_Z_properties_72 : decode b_Z_properties 72 = .ok (.iload_n 1, 1) := by decide +kernel
theorem d_Z_properties_73 : decode b_Z_properties 73 = .ok (.iload_n 3, 1) := by decide +kernel
theorem d_Z_properties_74 : decode b_Z_properties 74 = .ok (.iadd, 1) := by decide +kernel
theorem d_Z_properties_75 : decode b_Z_properties 75 = .ok (.iaload, 1) := by decide +kernel
theorem d_Z_properties_76 : decode b_Z_properties 76 = .ok (.iconst 1, 1) := by decide +kernel
theorem d_Z_properties_77 : decode b_Z_properties 77 = .ok (.isub, 1) := by decide +kernel
theorem d_Z_properties_78 : decode b_Z_properties 78 = .ok (.invokevirtual 133, 3) := by decide +kernel
theorem d_Z_properties_81 : decode b_Z_properties 81 = .ok (.iinc 3 1, 3) := by decide +kernel
theorem d_Z_properties_84 : decode b_Z_properties 84 = .ok (.goto (-42), 3) := by decide +kernel
theorem d_Z_properties_87 : decode b_Z_properties 87 = .ok (.return_, 1) := by decide +kernel
theorem d_Z_setOut_0 : decode b_Z_setOut 0 = .ok (.aload_n 0, 1) := by decide +kernel
theorem d_Z_setOut_1 : decode b_Z_setOut 1 = .ok (.aload_n 0, 1) := by decide +kernel
theorem d_Z_setOut_2 : decode b_Z_setOut 2 = .ok (.getfield 74, 3) := by decide +kernel
theorem d_Z_setOut_5 : decode b_Z_setOut 5 = .ok (.iload_n 1, 1) := by decide +kernel
theorem d_Z_setOut_6 : decode b_Z_setOut 6 = .ok (.invokevirtual 123, 3) := by decide +kernel
theorem d_Z_setOut_9 : decode b_Z_setOut 9 = .ok (.istore_n 3, 1) := by decide +kernel
theorem d_Z_setOut_10 : decode b_Z_setOut 10 = .ok (.aload_n 0, 1) := by decide +kernel
theorem d_Z_setOut_11 : decode b_Z_setOut 11 = .ok (.getfield 63, 3) := by decide +kernel
theorem d_Z_setOut_14 : decode b_Z_setOut 14 = .ok (.iload_n 3, 1) := by decide +kernel
theorem d_Z_setOut_15 : decode b_Z_setOut 15 = .ok (.iaload, 1) := by decide +kernel
theorem d_Z_setOut_16 : decode b_Z_setOut 16 = .ok (.ifCond .le 16, 3) := by decide +kernel
theorem d_Z_setOut_19 : decode b_Z_setOut 19 = .ok (.aload_n 0, 1) := by decide +kernel
theorem d_Z_setOut_20 : decode b_Z_setOut 20 = .ok (.aload_n 0, 1) := by decide +kernel
theorem d_Z_setOut_21 : decode b_Z_setOut 21 = .ok (.getfield 63, 3) := by decide +kernel
theorem d_Z_setOut_24 : decode b_Z_setOut 24 = .ok (.iload_n 3, 1) := by decide +kernel
theorem d_Z_setOut_25 : decode b_Z_setOut 25 = .ok (.iaload, 1) := by decide +kernel
theorem d_Z_setOut_26 : decode b_Z_setOut 26 = .ok (.iload_n 2, 1) := by decide +kernel
theorem d_Z_setOut_27 : decode b_Z_setOut 27 = .ok (.iadd, 1) := by decide +kernel
theorem d_Z_setOut_28 : decode b_Z_setOut 28 = .ok (.invokevirtual 133, 3) := by decide +kernel
theorem d_Z_setOut_31 : decode b_Z_setOut 31 = .ok (.return_, 1) := by decide +kernel
theorem d_Z_setOut_32 : decode b_Z_setOut 32 = .ok (.aload_n 0, 1) := by decide +kernel
theorem d_Z_setOut_33 : decode b_Z_setOut 33 = .ok (.iload_n 2, 1) := by decide +kernel
theorem d_Z_setOut_34 : decode b_Z_setOut 34 = .ok (.invokevirtual 133, 3) := by decide +kernel
theorem d_Z_setOut_37 : decode b_Z_setOut 37 = .ok (.aload_n 0, 1) := by decide +kernel
theorem d_Z_setOut_38 : decode b_Z_setOut 38 = .ok (.aload_n 0, 1) := by decide +kernel
theorem d_Z_setOut_39 : decode b_Z_setOut 39 = .ok (.getfield 74, 3) := by decide +kernel
theorem d_Z_setOut_42 : decode b_Z_setOut 42 = .ok (.iconst 1, 1) := by decide +kernel
theorem d_Z_setOut_43 : decode b_Z_setOut 43 = .ok (.iload_n 3, 1) := by decide +kernel
theorem d_Z_setOut_44 : decode b_Z_setOut 44 = .ok (.invokestatic 78, 3) := by decide +kernel
theorem d_Z_setOut_47 : decode b_Z_setOut 47 = .ok (.invokevirtual 136, 3) := by decide +kernel
theorem d_Z_setOut_50 : decode b_Z_setOut 50 = .ok (.aload_n 0, 1) := by decide +kernel
theorem d_Z_setOut_51 : decode b_Z_setOut 51 = .ok (.dup, 1) := by decide +kernel
theorem d_Z_setOut_52 : decode b_Z_setOut 52 = .ok (.getfield 139, 3) := by decide +kernel
theorem d_Z_setOut_55 : decode b_Z_setOut 55 = .ok (.iconst 1, 1) := by decide +kernel
theorem d_Z_setOut_56 : decode b_Z_setOut 56 = .ok (.iadd, 1) := by decide +kernel
theorem d_Z_setOut_57 : decode b_Z_setOut 57 = .ok (.putfield 139, 3) := by decide +kernel
theorem d_Z_setOut_60 : decode b_Z_setOut 60 = .ok (.aload_n 0, 1) := by decide +kernel
theorem d_Z_setOut_61 : decode b_Z_setOut 61 = .ok (.getfield 63, 3) := by decide +kernel
theorem d_Z_setOut_64 : decode b_Z_setOut 64 = .ok (.iload_n 3, 1) := by decide +kernel
theorem d_Z_setOut_65 : decode b_Z_setOut 65 = .ok (.aload_n 0, 1) := by decide +kernel
theorem d_Z_setOut_66 : decode b_Z_setOut 66 = .ok (.getfield 139, 3) := by decide +kernel
theorem d_Z_setOut_69 : decode b_Z_setOut 69 = .ok (.iastore, 1) := by decide +kernel
theorem d_Z_setOut_70 : decode b_Z_setOut 70 = .ok (.return_, 1) := by decide +kernel
theorem d_Z_markOut_0 : decode b_Z_markOut 0 = .ok (.aload_n 0, 1) := by decide +kernel
theorem d_Z_markOut_1 : decode b_Z_markOut 1 = .ok (.aload_n 0, 1) := by decide +kernel
theorem d_Z_markOut_2 : decode b_Z_markOut 2 = .ok (.getfield 74, 3) := by decide +kernel
theorem d_Z_markOut_5 : decode b_Z_markOut 5 = .ok (.iload_n 1, 1) := by decide +kernel
theorem d_Z_markOut_6 : decode b_Z_markOut 6 = .ok (.invokevirtual 127, 3) := by decide +kernel
theorem d_Z_markOut_9 : decode b_Z_markOut 9 = .ok (.istore_n 2, 1) := by decide +kernel
theorem d_Z_markOut_10 : decode b_Z_markOut 10 = .ok (.aload_n 0, 1) := by decide +kernel
theorem d_Z_markOut_11 : decode b_Z_markOut 11 = .ok (.getfield 66, 3) := by decide +kernel
theorem d_Z_markOut_14 : decode b_Z_markOut 14 = .ok (.iload_n 2, 1) := by decide +kernel
theorem d_Z_markOut_15 : decode b_Z_markOut 15 = .ok (.iaload, 1) := by decide +kernel
theorem d_Z_markOut_16 : decode b_Z_markOut 16 = .ok (.ifCond .le 14, 3) := by decide +kernel
theorem d_Z_markOut_19 : decode b_Z_markOut 19 = .ok (.aload_n 0, 1) := by decide +kernel
theorem d_Z_markOut_20 : decode b_Z_markOut 20 = .ok (.aload_n 0, 1) := by decide +kernel
theorem d_Z_markOut_21 : decode b_Z_markOut 21 = .ok (.getfield 66, 3) := by decide +kernel
theorem d_Z_markOut_24 : decode b_Z_markOut 24 = .ok (.iload_n 2, 1) := by decide +kernel
theorem d_Z_markOut_25 : decode b_Z_markOut 25 = .ok (.iaload, 1) := by decide +kernel
theorem d_Z_markOut_26 : decode b_Z_markOut 26 = .ok (.invokevirtual 133, 3) := by decide +kernel
theorem d_Z_markOut_29 : decode b_Z_markOut 29 = .ok (.return_, 1) := by decide +kernel
theorem d_Z_markOut_30 : decode b_Z_markOut 30 = .ok (.aload_n 0, 1) := by decide +kernel
theorem d_Z_markOut_31 : decode b_Z_markOut 31 = .ok (.iconst 0, 1) := by decide +kernel
theorem d_Z_markOut_32 : decode b_Z_markOut 32 = .ok (.invokevirtual 133, 3) := by decide +kernel
theorem d_Z_markOut_35 : decode b_Z_markOut 35 = .ok (.aload_n 0, 1) := by decide +kernel
theorem d_Z_markOut_36 : decode b_Z_markOut 36 = .ok (.aload_n 0, 1) := by decide +kernel
theorem d_Z_markOut_37 : decode b_Z_markOut 37 = .ok (.getfield 35, 3) := by decide +kernel
theorem d_Z_markOut_40 : decode b_Z_markOut 40 = .ok (.bipush 24, 2) := by decide +kernel
theorem d_Z_markOut_42 : decode b_Z_markOut 42 = .ok (.aload_n 0, 1) := by decide +kernel
theorem d_Z_markOut_43 : decode b_Z_markOut 43 = .ok (.getfield 74, 3) := by decide +kernel
theorem d_Z_markOut_46 : decode b_Z_markOut 46 = .ok (.imul, 1) := by decide +kernel
theorem d_Z_markOut_47 : decode b_Z_markOut 47 = .ok (.iload_n 2, 1) := by decide +kernel
theorem d_Z_markOut_48 : decode b_Z_markOut 48 = .ok (.iadd, 1) := by decide +kernel
theorem d_Z_markOut_49 : decode b_Z_markOut 49 = .ok (.saload, 1) := by decide +kernel
theorem d_Z_markOut_50 : decode b_Z_markOut 50 = .ok (.invokevirtual 133, 3) := by decide +kernel
theorem d_Z_markOut_53 : decode b_Z_markOut 53 = .ok (.aload_n 0, 1) := by decide +kernel
theorem d_Z_markOut_54 : decode b_Z_markOut 54 = .ok (.aload_n 0, 1) := by decide +kernel
theorem d_Z_markOut_55 : decode b_Z_markOut 55 = .ok (.getfield 39, 3) := by decide +kernel
theorem d_Z_markOut_58 : decode b_Z_markOut 58 = .ok (.bipush 24, 2) := by decide +kernel
theorem d_Z_markOut_60 : decode b_Z_markOut 60 = .ok (.aload_n 0, 1) := by decide +kernel
theorem d_Z_markOut_61 : decode b_Z_markOut 61 = .ok (.getfield 74, 3) := by decide +kernel
theorem d_Z_markOut_64 : decode b_Z_markOut 64 = .ok (.imul, 1) := by decide +kernel
theorem d_Z_markOut_65 : decode b_Z_markOut 65 = .ok (.iload_n 2, 1) := by decide +kernel
theorem d_Z_markOut_66 : decode b_Z_markOut 66 = .ok (.iadd, 1) := by decide +kernel
theorem d_Z_markOut_67 : decode b_Z_markOut 67 = .ok (.saload, 1) := by decide +kernel
theorem d_Z_markOut_68 : decode b_Z_markOut 68 = .ok (.invokevirtual 133, 3) := by decide +kernel
theorem d_Z_markOut_71 : decode b_Z_markOut 71 = .ok (.aload_n 0, 1) := by decide +kernel
theorem d_Z_markOut_72 : decode b_Z_markOut 72 = .ok (.getfield 42, 3) := by decide +kernel
theorem d_Z_markOut_75 : decode b_Z_markOut 75 = .ok (.bipush 24, 2) := by decide +kernel
theorem d_Z_markOut_77 : decode b_Z_markOut 77 = .ok (.aload_n 0, 1) := by decide +kernel
theorem d_Z_markOut_78 : decode b_Z_markOut 78 = .ok (.getfield 74, 3) := by decide +kernel
theorem d_Z_markOut_81 : decode b_Z_markOut 81 = .ok (.imul, 1) := by decide +kernel
theorem d_Z_markOut_82 : decode b_Z_markOut 82 = .ok (.iload_n 2, 1) := by decide +kernel
theorem d_Z_markOut_83 : decode b_Z_markOut 83 = .ok (.iadd, 1) := by decide +kernel
theorem d_Z_markOut_84 : decode b_Z_markOut 84 = .ok (.saload, 1) := by decide +kernel
theorem d_Z_markOut_85 : decode b_Z_markOut 85 = .ok (.ifCond .ge 11, 3) := by decide +kernel
theorem d_Z_markOut_88 : decode b_Z_markOut 88 = .ok (.aload_n 0, 1) := by decide +kernel
theorem d_Z_markOut_89 : decode b_Z_markOut 89 = .ok (.iconst 0, 1) := by decide +kernel
theorem d_Z_markOut_90 : decode b_Z_markOut 90 = .ok (.invokevirtual 133, 3) := by decide +kernel
theorem d_Z_markOut_93 : decode b_Z_markOut 93 = .ok (.goto 22, 3) := by decide +kernel
theorem d_Z_markOut_96 : decode b_Z_markOut 96 = .ok (.aload_n 0, 1) := by decide +kernel
theorem d_Z_markOut_97 : decode b_Z_markOut 97 = .ok (.aload_n 0, 1) := by decide +kernel
theorem d_Z_markOut_98 : decode b_Z_markOut 98 = .ok (.getfield 42, 3) := by decide +kernel
theorem d_Z_markOut_101 : decode b_Z_markOut 101 = .ok (.bipush 24, 2) := by decide +kernel
theorem d_Z_markOut_103 : decode b_Z_markOut 103 = .ok (.aload_n 0, 1) := by decide +kernel
theorem d_Z_markOut_104 : decode b_Z_markOut 104 = .ok (.getfield 74, 3) := by decide +kernel
theorem d_Z_markOut_107 : decode b_Z_markOut 107 = .ok (.imul, 1) := by decide +kernel
theorem d_Z_markOut_108 : decode b_Z_markOut 108 = .ok (.iload_n 2, 1) := by decide +kernel
theorem d_Z_markOut_109 : decode b_Z_markOut 109 = .ok (.iadd, 1) := by decide +kernel
theorem d_Z_markOut_110 : decode b_Z_markOut 110 = .ok (.saload, 1) := by decide +kernel
theorem d_Z_markOut_111 : decode b_Z_markOut 111 = .ok (.iconst 1, 1) := by decide +kernel
theorem d_Z_markOut_112 : decode b_Z_markOut 112 = .ok (.invokevirtual 142, 3) := by decide +kernel
theorem d_Z_markOut_115 : decode b_Z_markOut 115 = .ok (.aload_n 0, 1) := by decide +kernel
theorem d_Z_markOut_116 : decode b_Z_markOut 116 = .ok (.dup, 1) := by decide +kernel
theorem d_Z_markOut_117 : decode b_Z_markOut 117 = .ok (.getfield 146, 3) := by decide +kernel
theorem d_Z_markOut_120 : decode b_Z_markOut 120 = .ok (.iconst 1, 1) := by decide +kernel
theorem d_Z_markOut_121 : decode b_Z_markOut 121 = .ok (.iadd, 1) := by decide +kernel
theorem d_Z_markOut_122 : decode b_Z_markOut 122 = .ok (.putfield 146, 3) := by decide +kernel
theorem d_Z_markOut_125 : decode b_Z_markOut 125 = .ok (.aload_n 0, 1) := by decide +kernel
theorem d_Z_markOut_126 : decode b_Z_markOut 126 = .ok (.getfield 66, 3) := by decide +kernel
theorem d_Z_markOut_129 : decode b_Z_markOut 129 = .ok (.iload_n 2, 1) := by decide +kernel
theorem d_Z_markOut_130 : decode b_Z_markOut 130 = .ok (.aload_n 0, 1) := by decide +kernel
theorem d_Z_markOut_131 : decode b_Z_markOut 131 = .ok (.getfield 146, 3) := by decide +kernel
theorem d_Z_markOut_134 : decode b_Z_markOut 134 = .ok (.iastore, 1) := by decide +kernel
theorem d_Z_markOut_135 : decode b_Z_markOut 135 = .ok (.return_, 1) := by decide +kernel
theorem d_Z_joined_0 : decode b_Z_joined 0 = .ok (.iconst 1, 1) := by decide +kernel
theorem d_Z_joined_1 : decode b_Z_joined 1 = .ok (.istore_n 2, 1) := by decide +kernel
theorem d_Z_joined_2 : decode b_Z_joined 2 = .ok (.iload_n 1, 1) := by decide +kernel
theorem d_Z_joined_3 : decode b_Z_joined 3 = .ok (.iload_n 2, 1) := by decide +kernel
theorem d_Z_joined_4 : decode b_Z_joined 4 = .ok (.iadd, 1) := by decide +kernel
theorem d_Z_joined_5 : decode b_Z_joined 5 = .ok (.aload_n 0, 1) := by decide +kernel
theorem d_Z_joined_6 : decode b_Z_joined 6 = .ok (.getfield 23, 3) := by decide +kernel
theorem d_Z_joined_9 : decode b_Z_joined 9 = .ok (.aload_n 0, 1) := by decide +kernel
theorem d_Z_joined_10 : decode b_Z_joined 10 = .ok (.getfield 74, 3) := by decide +kernel
theorem d_Z_joined_13 : decode b_Z_joined 13 = .ok (.iaload, 1) := by decide +kernel
theorem d_Z_joined_14 : decode b_Z_joined 14 = .ok (.if_icmp .ge 24, 3) := by decide +kernel
theorem d_Z_joined_17 : decode b_Z_joined 17 = .ok (.aload_n 0, 1) := by decide +kernel
theorem d_Z_joined_18 : decode b_Z_joined 18 = .ok (.aload_n 0, 1) := by decide +kernel
theorem d_Z_joined_19 : decode b_Z_joined 19 = .ok (.getfield 74, 3) := by decide +kernel
theorem d_Z_joined_22 : decode b_Z_joined 22 = .ok (.iload_n 1, 1) := by decide +kernel
theorem d_Z_joined_23 : decode b_Z_joined 23 = .ok (.iload_n 1, 1) := by decide +kernel
theorem d_Z_joined_24 : decode b_Z_joined 24 = .ok (.iload_n 2, 1) := by decide +kernel
theorem d_Z_joined_25 : decode b_Z_joined 25 = .ok (.iadd, 1) := by decide +kernel
theorem d_Z_joined_26 : decode b_Z_joined 26 = .ok (.invokevirtual 149, 3) := by decide +kernel
theorem d_Z_joined_29 : decode b_Z_joined 29 = .ok (.ifCond .eq 9, 3) := by decide +kernel
theorem d_Z_joined_32 : decode b_Z_joined 32 = .ok (.iinc 2 1, 3) := by decide +kernel
theorem d_Z_joined_35 : decode b_Z_joined 35 = .ok (.goto (-33), 3) := by decide +kernel
theorem d_Z_joined_38 : decode b_Z_joined 38 = .ok (.iload_n 2, 1) := by decide +kernel
theorem d_Z_joined_39 : decode b_Z_joined 39 = .ok (.ireturn, 1) := by decide +kernel
theorem d_Z_save_0 : decode b_Z_save 0 = .ok (.aload_n 0, 1) := by decide +kernel
theorem d_Z_save_1 : decode b_Z_save 1 = .ok (.iconst 0, 1) := by decide +kernel
theorem d_Z_save_2 : decode b_Z_save 2 = .ok (.putfield 114, 3) := by decide +kernel
theorem d_Z_save_5 : decode b_Z_save 5 = .ok (.aload_n 0, 1) := by decide +kernel
theorem d_Z_save_6 : decode b_Z_save 6 = .ok (.iconst 0, 1) := by decide +kernel
theorem d_Z_save_7 : decode b_Z_save 7 = .ok (.putfield 139, 3) := by decide +kernel
theorem d_Z_save_10 : decode b_Z_save 10 = .ok (.aload_n 0, 1) := by decide +kernel
theorem d_Z_save_11 : decode b_Z_save 11 = .ok (.iconst 0, 1) := by decide +kernel
theorem d_Z_save_12 : decode b_Z_save 12 = .ok (.putfield 146, 3) := by decide +kernel
theorem d_Z_save_15 : decode b_Z_save 15 = .ok (.iconst 0, 1) := by decide +kernel
theorem d_Z_save_16 : decode b_Z_save 16 = .ok (.istore_n 1, 1) := by decide +kernel
theorem d_Z_save_17 : decode b_Z_save 17 = .ok (.iload_n 1, 1) := by decide +kernel
theorem d_Z_save_18 : decode b_Z_save 18 = .ok (.bipush 24, 2) := by decide +kernel
theorem d_Z_save_20 : decode b_Z_save 20 = .ok (.if_icmp .ge 23, 3) := by decide +kernel
theorem d_Z_save_23 : decode b_Z_save 23 = .ok (.aload_n 0, 1) := by decide +kernel
theorem d_Z_save_24 : decode b_Z_save 24 = .ok (.getfield 63, 3) := by decide +kernel
theorem d_Z_save_27 : decode b_Z_save 27 = .ok (.iload_n 1, 1) := by decide +kernel
theorem d_Z_save_28 : decode b_Z_save 28 = .ok (.iconst 0, 1) := by decide +kernel
theorem d_Z_save_29 : decode b_Z_save 29 = .ok (.iastore, 1) := by decide +kernel
theorem d_Z_save_30 : decode b_Z_save 30 = .ok (.aload_n 0, 1) := by decide +kernel
theorem d_Z_save_31 : decode b_Z_save 31 = .ok (.getfield 66, 3) := by decide +kernel
theorem d_Z_save_34 : decode b_Z_save 34 = .ok (.iload_n 1, 1) := by decide +kernel
theorem d_Z_save_35 : decode b_Z_save 35 = .ok (.iconst 0, 1) := by decide +kernel
theorem d_Z_save_36 : decode b_Z_save 36 = .ok (.iastore, 1) := by decide +kernel
theorem d_Z_save_37 : decode b_Z_save 37 = .ok (.iinc 1 1, 3) := by decide +kernel
theorem d_Z_save_40 : decode b_Z_save 40 = .ok (.goto (-23), 3) := by decide +kernel
theorem d_Z_save_43 : decode b_Z_save 43 = .ok (.aload_n 0, 1) := by decide +kernel
theorem d_Z_save_44 : decode b_Z_save 44 = .ok (.bipush 77, 2) := by decide +kernel
theorem d_Z_save_46 : decode b_Z_save 46 = .ok (.invokevirtual 130, 3) := by decide +kernel
theorem d_Z_save_49 : decode b_Z_save 49 = .ok (.aload_n 0, 1) := by decide +kernel
theorem d_Z_save_50 : decode b_Z_save 50 = .ok (.bipush 83, 2) := by decide +kernel
theorem d_Z_save_52 : decode b_Z_save 52 = .ok (.invokevirtual 130, 3) := by decide +kernel
theorem d_Z_save_55 : decode b_Z_save 55 = .ok (.aload_n 0, 1) := by decide +kernel
theorem d_Z_save_56 : decode b_Z_save 56 = .ok (.iconst 1, 1) := by decide +kernel
theorem d_Z_save_57 : decode b_Z_save 57 = .ok (.invokevirtual 130, 3) := by decide +kernel
theorem d_Z_save_60 : decode b_Z_save 60 = .ok (.aload_n 0, 1) := by decide +kernel
theorem d_Z_save_61 : decode b_Z_save 61 = .ok (.aload_n 0, 1) := by decide +kernel
theorem d_Z_save_62 : decode b_Z_save 62 = .ok (.getfield 13, 3) := by decide +kernel
theorem d_Z_save_65 : decode b_Z_save 65 = .ok (.aload_n 0, 1) := by decide +kernel
theorem d_Z_save_66 : decode b_Z_save 66 = .ok (.getfield 74, 3) := by decide +kernel
theorem d_Z_save_69 : decode b_Z_save 69 = .ok (.iaload, 1) := by decide +kernel
theorem d_Z_save_70 : decode b_Z_save 70 = .ok (.invokevirtual 133, 3) := by decide +kernel
theorem d_Z_save_73 : decode b_Z_save 73 = .ok (.iconst 0, 1) := by decide +kernel
theorem d_Z_save_74 : decode b_Z_save 74 = .ok (.istore_n 1, 1) := by decide +kernel
theorem d_Z_save_75 : decode b_Z_save 75 = .ok (.iload_n 1, 1) := by decide +kernel
theorem d_Z_save_76 : decode b_Z_save 76 = .ok (.aload_n 0, 1) := by decide +kernel
theorem d_Z_save_77 : decode b_Z_save 77 = .ok (.getfield 13, 3) := by decide +kernel
theorem d_Z_save_80 : decode b_Z_save 80 = .ok (.aload_n 0, 1) := by decide +kernel
theorem d_Z_save_81 : decode b_Z_save 81 = .ok (.getfield 74, 3) := by decide +kernel
theorem d_Z_save_84 : decode b_Z_save 84 = .ok (.iaload, 1) := by decide +kernel
theorem d_Z_save_85 : decode b_Z_save 85 = .ok (.if_icmp .ge 42, 3) := by decide +kernel
theorem d_Z_save_88 : decode b_Z_save 88 = .ok (.aload_n 0, 1) := by decide +kernel
theorem d_Z_save_89 : decode b_Z_save 89 = .ok (.aload_n 0, 1) := by decide +kernel
theorem d_Z_save_90 : decode b_Z_save 90 = .ok (.getfield 29, 3) := by decide +kernel
theorem d_Z_save_93 : decode b_Z_save 93 = .ok (.bipush 16, 2) := by decide +kernel
theorem d_Z_save_95 : decode b_Z_save 95 = .ok (.aload_n 0, 1) := by decide +kernel
theorem d_Z_save_96 : decode b_Z_save 96 = .ok (.getfield 74, 3) := by decide +kernel
theorem d_Z_save_99 : decode b_Z_save 99 = .ok (.imul, 1) := by decide +kernel
theorem d_Z_save_100 : decode b_Z_save 100 = .ok (.iload_n 1, 1) := by decide +kernel
theorem d_Z_save_101 : decode b_Z_save 101 = .ok (.iadd, 1) := by decide +kernel
theorem d_Z_save_102 : decode b_Z_save 102 = .ok (.iaload, 1) := by decide +kernel
theorem d_Z_save_103 : decode b_Z_save 103 = .ok (.iconst 1, 1) := by decide +kernel
theorem d_Z_save_104 : decode b_Z_save 104 = .ok (.iadd, 1) := by decide +kernel
theorem d_Z_save_105 : decode b_Z_save 105 = .ok (.invokevirtual 133, 3) := by decide +kernel
theorem d_Z_save_108 : decode b_Z_save 108 = .ok (.aload_n 0, 1) := by decide +kernel
theorem d_Z_save_109 : decode b_Z_save 109 = .ok (.aload_n 0, 1) := by decide +kernel
theorem d_Z_save_110 : decode b_Z_save 110 = .ok (.getfield 74, 3) := by decide +kernel
theorem d_Z_save_113 : decode b_Z_save 113 = .ok (.iconst 0, 1) := by decide +kernel
theorem d_Z_save_114 : decode b_Z_save 114 = .ok (.iload_n 1, 1) := by decide +kernel
theorem d_Z_save_115 : decode b_Z_save 115 = .ok (.invokestatic 78, 3) := by decide +kernel
theorem d_Z_save_118 : decode b_Z_save 118 = .ok (.invokevirtual 136, 3) := by decide +kernel
theorem d_Z_save_121 : decode b_Z_save 121 = .ok (.iinc 1 1, 3) := by decide +kernel
theorem d_Z_save_124 : decode b_Z_save 124 = .ok (.goto (-49), 3) := by decide +kernel
theorem d_Z_save_127 : decode b_Z_save 127 = .ok (.iconst 0, 1) := by decide +kernel
theorem d_Z_save_128 : decode b_Z_save 128 = .ok (.istore_n 1, 1) := by decide +kernel
theorem d_Z_save_129 : decode b_Z_save 129 = .ok (.iconst 0, 1) := by decide +kernel
theorem d_Z_save_130 : decode b_Z_save 130 = .ok (.istore_n 2, 1) := by decide +kernel
theorem d_Z_save_131 : decode b_Z_save 131 = .ok (.iload_n 2, 1) := by decide +kernel
theorem d_Z_save_132 : decode b_Z_save 132 = .ok (.aload_n 0, 1) := by decide +kernel
theorem d_Z_save_133 : decode b_Z_save 133 = .ok (.getfield 23, 3) := by decide +kernel
theorem d_Z_save_136 : decode b_Z_save 136 = .ok (.aload_n 0, 1) := by decide +kernel
theorem d_Z_save_137 : decode b_Z_save 137 = .ok (.getfield 74, 3) := by decide +kernel
theorem d_Z_save_140 : decode b_Z_save 140 = .ok (.iaload, 1) := by decide +kernel
theorem d_Z_save_141 : decode b_Z_save 141 = .ok (.if_icmp .ge 17, 3) := by decide +kernel
theorem d_Z_save_144 : decode b_Z_save 144 = .ok (.iinc 1 1, 3) := by decide +kernel
theorem d_Z_save_147 : decode b_Z_save 147 = .ok (.iload_n 2, 1) := by decide +kernel
theorem d_Z_save_148 : decode b_Z_save 148 = .ok (.aload_n 0, 1) := by decide +kernel
theorem d_Z_save_149 : decode b_Z_save 149 = .ok (.iload_n 2, 1) := by decide +kernel
theorem d_Z_save_150 : decode b_Z_save 150 = .ok (.invokevirtual 152, 3) := by decide +kernel
theorem d_Z_save_153 : decode b_Z_save 153 = .ok (.iadd, 1) := by decide +kernel
theorem d_Z_save_154 : decode b_Z_save 154 = .ok (.istore_n 2, 1) := by decide +kernel
theorem d_Z_save_155 : decode b_Z_save 155 = .ok (.goto (-24), 3) := by decide +kernel
theorem d_Z_save_158 : decode b_Z_save 158 = .ok (.aload_n 0, 1) := by decide +kernel
theorem d_Z_save_159 : decode b_Z_save 159 = .ok (.iload_n 1, 1) := by decide +kernel
theorem d_Z_save_160 : decode b_Z_save 160 = .ok (.invokevirtual 133, 3) := by decide +kernel
theorem d_Z_save_163 : decode b_Z_save 163 = .ok (.sipush 512, 3) := by decide +kernel
theorem d_Z_save_166 : decode b_Z_save 166 = .ok (.aload_n 0, 1) := by decide +kernel
theorem d_Z_save_167 : decode b_Z_save 167 = .ok (.getfield 74, 3) := by decide +kernel
theorem d_Z_save_170 : decode b_Z_save 170 = .ok (.imul, 1) := by decide +kernel
theorem d_Z_save_171 : decode b_Z_save 171 = .ok (.istore_n 2, 1) := by decide +kernel
theorem d_Z_save_172 : decode b_Z_save 172 = .ok (.iconst 0, 1) := by decide +kernel
theorem d_Z_save_173 : decode b_Z_save 173 = .ok (.istore_n 3, 1) := by decide +kernel
theorem d_Z_save_174 : decode b_Z_save 174 = .ok (.iload_n 3, 1) := by decide +kernel
theorem d_Z_save_175 : decode b_Z_save 175 = .ok (.aload_n 0, 1) := by decide +kernel
theorem d_Z_save_176 : decode b_Z_save 176 = .ok (.getfield 23, 3) := by decide +kernel
theorem d_Z_save_179 : decode b_Z_save 179 = .ok (.aload_n 0, 1) := by decide +kernel
theorem d_Z_save_180 : decode b_Z_save 180 = .ok (.getfield 74, 3) := by decide +kernel
theorem d_Z_save_183 : decode b_Z_save 183 = .ok (.iaload, 1) := by decide +kernel
theorem d_Z_save_184 : decode b_Z_save 184 = .ok (.if_icmp .ge 170, 3) := by decide +kernel
theorem d_Z_save_187 : decode b_Z_save 187 = .ok (.bipush 40, 2) := by decide +kernel
theorem d_Z_save_189 : decode b_Z_save 189 = .ok (.aload_n 0, 1) := by decide +kernel
theorem d_Z_save_190 : decode b_Z_save 190 = .ok (.getfield 74, 3) := by decide +kernel
theorem d_Z_save_193 : decode b_Z_save 193 = .ok (.imul, 1) := by decide +kernel
theorem d_Z_save_194 : decode b_Z_save 194 = .ok (.iload_n 3, 1) := by decide +kernel
theorem d_Z_save_195 : decode b_Z_save 195 = .ok (.iadd, 1) := by decide +kernel
theorem d_Z_save_196 : decode b_Z_save 196 = .ok (.istore 4, 2) := by decide +kernel
theorem d_Z_save_198 : decode b_Z_save 198 = .ok (.aload_n 0, 1) := by decide +kernel
theorem d_Z_save_199 : decode b_Z_save 199 = .ok (.aload_n 0, 1) := by decide +kernel
theorem d_Z_save_200 : decode b_Z_save 200 = .ok (.getfield 45, 3) := by decide +kernel
theorem d_Z_save_203 : decode b_Z_save 203 = .ok (.iload 4, 2) := by decide +kernel
theorem d_Z_save_205 : decode b_Z_save 205 = .ok (.saload, 1) := by decide +kernel
theorem d_Z_save_206 : decode b_Z_save 206 = .ok (.invokevirtual 133, 3) := by decide +kernel
theorem d_Z_save_209 : decode b_Z_save 209 = .ok (.aload_n 0, 1) := by decide +kernel
theorem d_Z_save_210 : decode b_Z_save 210 = .ok (.getfield 45, 3) := by decide +kernel
theorem d_Z_save_213 : decode b_Z_save 213 = .ok (.iload 4, 2) := by decide +kernel
theorem d_Z_save_215 : decode b_Z_save 215 = .ok (.saload, 1) := by decide +kernel
theorem d_Z_save_216 : decode b_Z_save 216 = .ok (.iconst 1, 1) := by decide +kernel
theorem d_Z_save_217 : decode b_Z_save 217 = .ok (.if_icmp .ne 16, 3) := by decide +kernel
theorem d_Z_save_220 : decode b_Z_save 220 = .ok (.aload_n 0, 1) := by decide +kernel
theorem d_Z_save_221 : decode b_Z_save 221 = .ok (.aload_n 0, 1) := by decide +kernel
theorem d_Z_save_222 : decode b_Z_save 222 = .ok (.getfield 54, 3) := by decide +kernel
theorem d_Z_save_225 : decode b_Z_save 225 = .ok (.iload 4, 2) := by decide +kernel
theorem d_Z_save_227 : decode b_Z_save 227 = .ok (.saload, 1) := by decide +kernel
theorem d_Z_save_228 : decode b_Z_save 228 = .ok (.iconst 1, 1) := by decide +kernel
theorem d_Z_save_229 : decode b_Z_save 229 = .ok (.iadd, 1) := by decide +kernel
theorem d_Z_save_230 : decode b_Z_save 230 = .ok (.invokevirtual 133, 3) := by decide +kernel
theorem d_Z_save_233 : decode b_Z_save 233 = .ok (.aload_n 0, 1) := by decide +kernel
theorem d_Z_save_234 : decode b_Z_save 234 = .ok (.aload_n 0, 1) := by decide +kernel
theorem d_Z_save_235 : decode b_Z_save 235 = .ok (.getfield 48, 3) := by decide +kernel
theorem d_Z_save_238 : decode b_Z_save 238 = .ok (.iload 4, 2) := by decide +kernel
theorem d_Z_save_240 : decode b_Z_save 240 = .ok (.saload, 1) := by decide +kernel
theorem d_Z_save_241 : decode b_Z_save 241 = .ok (.iconst 0, 1) := by decide +kernel
theorem d_Z_save_242 : decode b_Z_save 242 = .ok (.invokevirtual 142, 3) := by decide +kernel
theorem d_Z_save_245 : decode b_Z_save 245 = .ok (.aload_n 0, 1) := by decide +kernel
theorem d_Z_save_246 : decode b_Z_save 246 = .ok (.aload_n 0, 1) := by decide +kernel
theorem d_Z_save_247 : decode b_Z_save 247 = .ok (.getfield 51, 3) := by decide +kernel
theorem d_Z_save_250 : decode b_Z_save 250 = .ok (.iload 4, 2) := by decide +kernel
theorem d_Z_save_252 : decode b_Z_save 252 = .ok (.saload, 1) := by decide +kernel
theorem d_Z_save_253 : decode b_Z_save 253 = .ok (.invokevirtual 155, 3) := by decide +kernel
theorem d_Z_save_256 : decode b_Z_save 256 = .ok (.iconst 0, 1) := by decide +kernel
theorem d_Z_save_257 : decode b_Z_save 257 = .ok (.istore 5, 2) := by decide +kernel
theorem d_Z_save_259 : decode b_Z_save 259 = .ok (.iconst 0, 1) := by decide +kernel
theorem d_Z_save_260 : decode b_Z_save 260 = .ok (.istore 6, 2) := by decide +kernel
theorem d_Z_save_262 : decode b_Z_save 262 = .ok (.iload 6, 2) := by decide +kernel
theorem d_Z_save_264 : decode b_Z_save 264 = .ok (.aload_n 0, 1) := by decide +kernel
theorem d_Z_save_265 : decode b_Z_save 265 = .ok (.iload_n 3, 1) := by decide +kernel
theorem d_Z_save_266 : decode b_Z_save 266 = .ok (.invokevirtual 152, 3) := by decide +kernel
theorem d_Z_save_269 : decode b_Z_save 269 = .ok (.if_icmp .ge 24, 3) := by decide +kernel
theorem d_Z_save_272 : decode b_Z_save 272 = .ok (.iload 5, 2) := by decide +kernel
theorem d_Z_save_274 : decode b_Z_save 274 = .ok (.aload_n 0, 1) := by decide +kernel
theorem d_Z_save_275 : decode b_Z_save 275 = .ok (.getfield 57, 3) := by decide +kernel
theorem d_Z_save_278 : decode b_Z_save 278 = .ok (.iload 4, 2) := by decide +kernel
theorem d_Z_save_280 : decode b_Z_save 280 = .ok (.iload 6, 2) := by decide +kernel
theorem d_Z_save_282 : decode b_Z_save 282 = .ok (.iadd, 1) := by decide +kernel
theorem d_Z_save_283 : decode b_Z_save 283 = .ok (.saload, 1) := by decide +kernel
theorem d_Z_save_284 : decode b_Z_save 284 = .ok (.iadd, 1) := by decide +kernel
theorem d_Z_save_285 : decode b_Z_save 285 = .ok (.istore 5, 2) := by decide +kernel
theorem d_Z_save_287 : decode b_Z_save 287 = .ok (.iinc 6 1, 3) := by decide +kernel
theorem d_Z_save_290 : decode b_Z_save 290 = .ok (.goto (-28), 3) := by decide +kernel
theorem d_Z_save_293 : decode b_Z_save 293 = .ok (.aload_n 0, 1) := by decide +kernel
theorem d_Z_save_294 : decode b_Z_save 294 = .ok (.iload 5, 2) := by decide +kernel
theorem d_Z_save_296 : decode b_Z_save 296 = .ok (.invokevirtual 133, 3) := by decide +kernel
theorem d_Z_save_299 : decode b_Z_save 299 = .ok (.iconst 0, 1) := by decide +kernel
theorem d_Z_save_300 : decode b_Z_save 300 = .ok (.istore 6, 2) := by decide +kernel
theorem d_Z_save_302 : decode b_Z_save 302 = .ok (.iload 6, 2) := by decide +kernel
theorem d_Z_save_304 : decode b_Z_save 304 = .ok (.iload 5, 2) := by decide +kernel
theorem d_Z_save_306 : decode b_Z_save 306 = .ok (.if_icmp .ge 32, 3) := by decide +kernel
theorem d_Z_save_309 : decode b_Z_save 309 = .ok (.aload_n 0, 1) := by decide +kernel
theorem d_Z_save_310 : decode b_Z_save 310 = .ok (.getfield 45, 3) := by decide +kernel
theorem d_Z_save_313 : decode b_Z_save 313 = .ok (.iload 4, 2) := by decide +kernel
theorem d_Z_save_315 : decode b_Z_save 315 = .ok (.saload, 1) := by decide +kernel
theorem d_Z_save_316 : decode b_Z_save 316 = .ok (.ifCond .ne 22, 3) := by decide +kernel
theorem d_Z_save_319 : decode b_Z_save 319 = .ok (.aload_n 0, 1) := by decide +kernel
theorem d_Z_save_320 : decode b_Z_save 320 = .ok (.aload_n 0, 1) := by decide +kernel
theorem d_Z_save_321 : decode b_Z_save 321 = .ok (.getfield 60, 3) := by decide +kernel
theorem d_Z_save_324 : decode b_Z_save 324 = .ok (.iload_n 2, 1) := by decide +kernel
theorem d_Z_save_325 : decode b_Z_save 325 = .ok (.iload 6, 2) := by decide +kernel
theorem d_Z_save_327 : decode b_Z_save 327 = .ok (.iadd, 1) := by decide +kernel
theorem d_Z_save_328 : decode b_Z_save 328 = .ok (.saload, 1) := by decide +kernel
theorem d_Z_save_329 : decode b_Z_save 329 = .ok (.invokevirtual 130, 3) := by decide +kernel
theorem d_Z_save_332 : decode b_Z_save 332 = .ok (.iinc 6 1, 3) := by decide +kernel
theorem d_Z_save_335 : decode b_Z_save 335 = .ok (.goto (-33), 3) := by decide +kernel
theorem d_Z_save_338 : decode b_Z_save 338 = .ok (.iload_n 2, 1) := by decide +kernel
theorem d_Z_save_339 : decode b_Z_save 339 = .ok (.iload 5, 2) := by decide +kernel
theorem d_Z_save_341 : decode b_Z_save 341 = .ok (.iadd, 1) := by decide +kernel
theorem d_Z_save_342 : decode b_Z_save 342 = .ok (.istore_n 2, 1) := by decide +kernel
theorem d_Z_save_343 : decode b_Z_save 343 = .ok (.iload_n 3, 1) := by decide +kernel
theorem d_Z_save_344 : decode b_Z_save 344 = .ok (.aload_n 0, 1) := by decide +kernel
theorem d_Z_save_345 : decode b_Z_save 345 = .ok (.iload_n 3, 1) := by decide +kernel
theorem d_Z_save_346 : decode b_Z_save 346 = .ok (.invokevirtual 152, 3) := by decide +kernel
theorem d_Z_save_349 : decode b_Z_save 349 = .ok (.iadd, 1) := by decide +kernel
theorem d_Z_save_350 : decode b_Z_save 350 = .ok (.istore_n 3, 1) := by decide +kernel
theorem d_Z_save_351 : decode b_Z_save 351 = .ok (.goto (-177), 3) := by decide +kernel
theorem d_Z_save_354 : decode b_Z_save 354 = .ok (.aload_n 0, 1) := by decide +kernel
theorem d_Z_save_355 : decode b_Z_save 355 = .ok (.getfield 114, 3) := by decide +kernel
theorem d_Z_save_358 : decode b_Z_save 358 = .ok (.ireturn, 1) := by decide +kernel
theorem d_Z_wrong_0 : decode b_Z_wrong 0 = .ok (.aload_n 0, 1) := by decide +kernel
theorem d_Z_wrong_1 : decode b_Z_wrong 1 = .ok (.getfield 158, 3) := by decide +kernel
theorem d_Z_wrong_4 : decode b_Z_wrong 4 = .ok (.ifCond .ge 8, 3) := by decide +kernel
theorem d_Z_wrong_7 : decode b_Z_wrong 7 = .ok (.aload_n 0, 1) := by decide +kernel
theorem d_Z_wrong_8 : decode b_Z_wrong 8 = .ok (.iload_n 1, 1) := by decide +kernel
theorem d_Z_wrong_9 : decode b_Z_wrong 9 = .ok (.putfield 158, 3) := by decide +kernel
theorem d_Z_wrong_12 : decode b_Z_wrong 12 = .ok (.return_, 1) := by decide +kernel
theorem d_Z_readNumber_0 : decode b_Z_readNumber 0 = .ok (.aload_n 0, 1) := by decide +kernel
theorem d_Z_readNumber_1 : decode b_Z_readNumber 1 = .ok (.getfield 158, 3) := by decide +kernel
theorem d_Z_readNumber_4 : decode b_Z_readNumber 4 = .ok (.ifCond .lt 5, 3) := by decide +kernel
theorem d_Z_readNumber_7 : decode b_Z_readNumber 7 = .ok (.iconst 0, 1) := by decide +kernel
theorem d_Z_readNumber_8 : decode b_Z_readNumber 8 = .ok (.ireturn, 1) := by decide +kernel
theorem d_Z_readNumber_9 : decode b_Z_readNumber 9 = .ok (.aload_n 0, 1) := by decide +kernel
theorem d_Z_readNumber_10 : decode b_Z_readNumber 10 = .ok (.aload_n 0, 1) := by decide +kernel
theorem d_Z_readNumber_11 : decode b_Z_readNumber 11 = .ok (.getfield 161, 3) := by decide +kernel
theorem d_Z_readNumber_14 : decode b_Z_readNumber 14 = .ok (.putfield 164, 3) := by decide +kernel
theorem d_Z_readNumber_17 : decode b_Z_readNumber 17 = .ok (.iconst 0, 1) := by decide +kernel
theorem d_Z_readNumber_18 : decode b_Z_readNumber 18 = .ok (.istore_n 2, 1) := by decide +kernel
theorem d_Z_readNumber_19 : decode b_Z_readNumber 19 = .ok (.iconst 1, 1) := by decide +kernel
theorem d_Z_readNumber_20 : decode b_Z_readNumber 20 = .ok (.istore_n 3, 1) := by decide +kernel
theorem d_Z_readNumber_21 : decode b_Z_readNumber 21 = .ok (.iload_n 3, 1) := by decide +kernel
theorem d_Z_readNumber_22 : decode b_Z_readNumber 22 = .ok (.ifCond .eq 101, 3) := by decide +kernel
theorem d_Z_readNumber_25 : decode b_Z_readNumber 25 = .ok (.aload_n 0, 1) := by decide +kernel
theorem d_Z_readNumber_26 : decode b_Z_readNumber 26 = .ok (.getfield 161, 3) := by decide +kernel
theorem d_Z_readNumber_29 : decode b_Z_readNumber 29 = .ok (.aload_n 0, 1) := by decide +kernel
theorem d_Z_readNumber_30 : decode b_Z_readNumber 30 = .ok (.getfield 114, 3) := by decide +kernel
theorem d_Z_readNumber_33 : decode b_Z_readNumber 33 = .ok (.if_icmp .ge 90, 3) := by decide +kernel
theorem d_Z_readNumber_36 : decode b_Z_readNumber 36 = .ok (.iload_n 2, 1) := by decide +kernel
theorem d_Z_readNumber_37 : decode b_Z_readNumber 37 = .ok (.ldc 69, 2) := by decide +kernel
theorem d_Z_readNumber_39 : decode b_Z_readNumber 39 = .ok (.if_icmp .gt 84, 3) := by decide +kernel
theorem d_Z_readNumber_42 : decode b_Z_readNumber 42 = .ok (.aload_n 0, 1) := by decide +kernel
theorem d_Z_readNumber_43 : decode b_Z_readNumber 43 = .ok (.getfield 7, 3) := by decide +kernel
theorem d_Z_readNumber_46 : decode b_Z_readNumber 46 = .ok (.aload_n 0, 1) := by decide +kernel
theorem d_Z_readNumber_47 : decode b_Z_readNumber 47 = .ok (.getfield 161, 3) := by decide +kernel
theorem d_Z_readNumber_50 : decode b_Z_readNumber 50 = .ok (.baload, 1) := by decide +kernel
theorem d_Z_readNumber_51 : decode b_Z_readNumber 51 = .ok (.sipush 255, 3) := by decide +kernel
theorem d_Z_readNumber_54 : decode b_Z_readNumber 54 = .ok (.iand, 1) := by decide +kernel
theorem d_Z_readNumber_55 : decode b_Z_readNumber 55 = .ok (.istore 4, 2) := by decide +kernel
theorem d_Z_readNumber_57 : decode b_Z_readNumber 57 = .ok (.iload 4, 2) := by decide +kernel
theorem d_Z_readNumber_59 : decode b_Z_readNumber 59 = .ok (.sipush 128, 3) := by decide +kernel
theorem d_Z_readNumber_62 : decode b_Z_readNumber 62 = .ok (.if_icmp .ne 24, 3) := by decide +kernel
theorem d_Z_readNumber_65 : decode b_Z_readNumber 65 = .ok (.aload_n 0, 1) := by decide +kernel
theorem d_Z_readNumber_66 : decode b_Z_readNumber 66 = .ok (.getfield 161, 3) := by decide +kernel
theorem d_Z_readNumber_69 : decode b_Z_readNumber 69 = .ok (.aload_n 0, 1) := by decide +kernel
theorem d_Z_readNumber_70 : decode b_Z_readNumber 70 = .ok (.getfield 164, 3) := by decide +kernel
theorem d_Z_readNumber_73 : decode b_Z_readNumber 73 = .ok (.if_icmp .ne 13, 3) := by decide +kernel
theorem d_Z_readNumber_76 : decode b_Z_readNumber 76 = .ok (.aload_n 0, 1) := by decide +kernel
theorem d_Z_readNumber_77 : decode b_Z_readNumber 77 = .ok (.aload_n 0, 1) := by decide +kernel
theorem d_Z_readNumber_78 : decode b_Z_readNumber 78 = .ok (.getfield 164, 3) := by decide +kernel
theorem d_Z_readNumber_81 : decode b_Z_readNumber 81 = .ok (.invokevirtual 167, 3) := by decide +kernel
theorem d_Z_readNumber_84 : decode b_Z_readNumber 84 = .ok (.iconst 0, 1) := by decide +kernel
theorem d_Z_readNumber_85 : decode b_Z_readNumber 85 = .ok (.ireturn, 1) := by decide +kernel
theorem d_Z_readNumber_86 : decode b_Z_readNumber 86 = .ok (.iload_n 2, 1) := by decide +kernel
theorem d_Z_readNumber_87 : decode b_Z_readNumber 87 = .ok (.bipush 7, 2) := by decide +kernel
theorem d_Z_readNumber_89 : decode b_Z_readNumber 89 = .ok (.ishl, 1) := by decide +kernel
theorem d_Z_readNumber_90 : decode b_Z_readNumber 90 = .ok (.iload 4, 2) := by decide +kernel
theorem d_Z_readNumber_92 : decode b_Z_readNumber 92 = .ok (.bipush 127, 2) := by decide +kernel
theorem d_Z_readNumber_94 : decode b_Z_readNumber 94 = .ok (.iand, 1) := by decide +kernel
theorem d_Z_readNumber_95 : decode b_Z_readNumber 95 = .ok (.ior, 1) := by decide +kernel
theorem d_Z_readNumber_96 : decode b_Z_readNumber 96 = .ok (.istore_n 2, 1) := by decide +kernel
theorem d_Z_readNumber_97 : decode b_Z_readNumber 97 = .ok (.iload 4, 2) := by decide +kernel
theorem d_Z_readNumber_99 : decode b_Z_readNumber 99 = .ok (.bipush 127, 2) := by decide +kernel
theorem d_Z_readNumber_101 : decode b_Z_readNumber 101 = .ok (.if_icmp .le 7, 3) := by decide +kernel
theorem d_Z_readNumber_104 : decode b_Z_readNumber 104 = .ok (.iconst 1, 1) := by decide +kernel
theorem d_Z_readNumber_105 : decode b_Z_readNumber 105 = .ok (.goto 4, 3) := by decide +kernel
theorem d_Z_readNumber_108 : decode b_Z_readNumber 108 = .ok (.iconst 0, 1) := by decide +kernel
theorem d_Z_readNumber_109 : decode b_Z_readNumber 109 = .ok (.istore_n 3, 1) := by decide +kernel
theorem d_Z_readNumber_110 : decode b_Z_readNumber 110 = .ok (.aload_n 0, 1) := by decide +kernel
theorem d_Z_readNumber_111 : decode b_Z_readNumber 111 = .ok (.dup, 1) := by decide +kernel
theorem d_Z_readNumber_112 : decode b_Z_readNumber 112 = .ok (.getfield 161, 3) := by decide +kernel
theorem d_Z_readNumber_115 : decode b_Z_readNumber 115 = .ok (.iconst 1, 1) := by decide +kernel
theorem d_Z_readNumber_116 : decode b_Z_readNumber 116 = .ok (.iadd, 1) := by decide +kernel
theorem d_Z_readNumber_117 : decode b_Z_readNumber 117 = .ok (.putfield 161, 3) := by decide +kernel
theorem d_Z_readNumber_120 : decode b_Z_readNumber 120 = .ok (.goto (-99), 3) := by decide +kernel
theorem d_Z_readNumber_123 : decode b_Z_readNumber 123 = .ok (.iload_n 3, 1) := by decide +kernel
theorem d_Z_readNumber_124 : decode b_Z_readNumber 124 = .ok (.ifCond .ne 14, 3) := by decide +kernel
theorem d_Z_readNumber_127 : decode b_Z_readNumber 127 = .ok (.iload_n 2, 1) := by decide +kernel
theorem d_Z_readNumber_128 : decode b_Z_readNumber 128 = .ok (.ldc 69, 2) := by decide +kernel
theorem d_Z_readNumber_130 : decode b_Z_readNumber 130 = .ok (.if_icmp .gt 8, 3) := by decide +kernel
theorem d_Z_readNumber_133 : decode b_Z_readNumber 133 = .ok (.iload_n 2, 1) := by decide +kernel
theorem d_Z_readNumber_134 : decode b_Z_readNumber 134 = .ok (.iload_n 1, 1) := by decide +kernel
theorem d_Z_readNumber_135 : decode b_Z_readNumber 135 = .ok (.if_icmp .le 11, 3) := by decide +kernel
theorem d_Z_readNumber_138 : decode b_Z_readNumber 138 = .ok (.aload_n 0, 1) := by decide +kernel
theorem d_Z_readNumber_139 : decode b_Z_readNumber 139 = .ok (.aload_n 0, 1) := by decide +kernel
theorem d_Z_readNumber_140 : decode b_Z_readNumber 140 = .ok (.getfield 164, 3) := by decide +kernel
theorem d_Z_readNumber_143 : decode b_Z_readNumber 143 = .ok (.invokevirtual 167, 3) := by decide +kernel
theorem d_Z_readNumber_146 : decode b_Z_readNumber 146 = .ok (.aload_n 0, 1) := by decide +kernel
theorem d_Z_readNumber_147 : decode b_Z_readNumber 147 = .ok (.getfield 158, 3) := by decide +kernel
theorem d_Z_readNumber_150 : decode b_Z_readNumber 150 = .ok (.ifCond .ge 7, 3) := by decide +kernel
theorem d_Z_readNumber_153 : decode b_Z_readNumber 153 = .ok (.iload_n 2, 1) := by decide +kernel
theorem d_Z_readNumber_154 : decode b_Z_readNumber 154 = .ok (.goto 4, 3) := by decide +kernel
theorem d_Z_readNumber_157 : decode b_Z_readNumber 157 = .ok (.iconst 0, 1) := by decide +kernel
theorem d_Z_readNumber_158 : decode b_Z_readNumber 158 = .ok (.ireturn, 1) := by decide +kernel
theorem d_Z_readByte_0 : decode b_Z_readByte 0 = .ok (.aload_n 0, 1) := by decide +kernel
theorem d_Z_readByte_1 : decode b_Z_readByte 1 = .ok (.getfield 158, 3) := by decide +kernel
theorem d_Z_readByte_4 : decode b_Z_readByte 4 = .ok (.ifCond .lt 4, 3) := by decide +kernel
theorem d_Z_readByte_7 : decode b_Z_readByte 7 = .ok (.return_, 1) := by decide +kernel
theorem d_Z_readByte_8 : decode b_Z_readByte 8 = .ok (.aload_n 0, 1) := by decide +kernel
theorem d_Z_readByte_9 : decode b_Z_readByte 9 = .ok (.aload_n 0, 1) := by decide +kernel
theorem d_Z_readByte_10 : decode b_Z_readByte 10 = .ok (.getfield 161, 3) := by decide +kernel
theorem d_Z_readByte_13 : decode b_Z_readByte 13 = .ok (.putfield 164, 3) := by decide +kernel
theorem d_Z_readByte_16 : decode b_Z_readByte 16 = .ok (.aload_n 0, 1) := by decide +kernel
theorem d_Z_readByte_17 : decode b_Z_readByte 17 = .ok (.getfield 161, 3) := by decide +kernel
theorem d_Z_readByte_20 : decode b_Z_readByte 20 = .ok (.aload_n 0, 1) := by decide +kernel
theorem d_Z_readByte_21 : decode b_Z_readByte 21 = .ok (.getfield 114, 3) := by decide +kernel
theorem d_Z_readByte_24 : decode b_Z_readByte 24 = .ok (.if_icmp .eq 20, 3) := by decide +kernel
theorem d_Z_readByte_27 : decode b_Z_readByte 27 = .ok (.aload_n 0, 1) := by decide +kernel
theorem d_Z_readByte_28 : decode b_Z_readByte 28 = .ok (.getfield 7, 3) := by decide +kernel
theorem d_Z_readByte_31 : decode b_Z_readByte 31 = .ok (.aload_n 0, 1) := by decide +kernel
theorem d_Z_readByte_32 : decode b_Z_readByte 32 = .ok (.getfield 161, 3) := by decide +kernel
theorem d_Z_readByte_35 : decode b_Z_readByte 35 = .ok (.baload, 1) := by decide +kernel
theorem d_Z_readByte_36 : decode b_Z_readByte 36 = .ok (.sipush 255, 3) := by decide +kernel
theorem d_Z_readByte_39 : decode b_Z_readByte 39 = .ok (.iand, 1) := by decide +kernel
theorem d_Z_readByte_40 : decode b_Z_readByte 40 = .ok (.iload_n 1, 1) := by decide +kernel
theorem d_Z_readByte_41 : decode b_Z_readByte 41 = .ok (.if_icmp .eq 11, 3) := by decide +kernel
theorem d_Z_readByte_44 : decode b_Z_readByte 44 = .ok (.aload_n 0, 1) := by decide +kernel
theorem d_Z_readByte_45 : decode b_Z_readByte 45 = .ok (.aload_n 0, 1) := by decide +kernel
theorem d_Z_readByte_46 : decode b_Z_readByte 46 = .ok (.getfield 161, 3) := by decide +kernel
theorem d_Z_readByte_49 : decode b_Z_readByte 49 = .ok (.invokevirtual 167, 3) := by decide +kernel
theorem d_Z_readByte_52 : decode b_Z_readByte 52 = .ok (.aload_n 0, 1) := by decide +kernel
theorem d_Z_readByte_53 : decode b_Z_readByte 53 = .ok (.dup, 1) := by decide +kernel
theorem d_Z_readByte_54 : decode b_Z_readByte 54 = .ok (.getfield 161, 3) := by decide +kernel
theorem d_Z_readByte_57 : decode b_Z_readByte 57 = .ok (.iconst 1, 1) := by decide +kernel
theorem d_Z_readByte_58 : decode b_Z_readByte 58 = .ok (.iadd, 1) := by decide +kernel
theorem d_Z_readByte_59 : decode b_Z_readByte 59 = .ok (.putfield 161, 3) := by decide +kernel
theorem d_Z_readByte_62 : decode b_Z_readByte 62 = .ok (.return_, 1) := by decide +kernel
theorem d_Z_readProperties_0 : decode b_Z_readProperties 0 = .ok (.aload_n 0, 1) := by decide +kernel
theorem d_Z_readProperties_1 : decode b_Z_readProperties 1 = .ok (.bipush 24, 2) := by decide +kernel
theorem d_Z_readProperties_3 : decode b_Z_readProperties 3 = .ok (.invokevirtual 170, 3) := by decide +kernel
theorem d_Z_readProperties_6 : decode b_Z_readProperties 6 = .ok (.istore_n 2, 1) := by decide +kernel
theorem d_Z_readProperties_7 : decode b_Z_readProperties 7 = .ok (.iconst (-1), 1) := by decide +kernel
theorem d_Z_readProperties_8 : decode b_Z_readProperties 8 = .ok (.istore_n 3, 1) := by decide +kernel
theorem d_Z_readProperties_9 : decode b_Z_readProperties 9 = .ok (.iconst 0, 1) := by decide +kernel
theorem d_Z_readProperties_10 : decode b_Z_readProperties 10 = .ok (.istore 4, 2) := by decide +kernel
theorem d_Z_readProperties_12 : decode b_Z_readProperties 12 = .ok (.iload 4, 2) := by decide +kernel
theorem d_Z_readProperties_14 : decode b_Z_readProperties 14 = .ok (.iload_n 2, 1) := by decide +kernel
theorem d_Z_readProperties_15 : decode b_Z_readProperties 15 = .ok (.if_icmp .ge 68, 3) := by decide +kernel
theorem d_Z_readProperties_18 : decode b_Z_readProperties 18 = .ok (.aload_n 0, 1) := by decide +kernel
theorem d_Z_readProperties_19 : decode b_Z_readProperties 19 = .ok (.getfield 158, 3) := by decide +kernel
theorem d_Z_readProperties_22 : decode b_Z_readProperties 22 = .ok (.ifCond .ge 61, 3) := by decide +kernel
theorem d_Z_readProperties_25 : decode b_Z_readProperties 25 = .ok (.aload_n 0, 1) := by decide +kernel
theorem d_Z_readProperties_26 : decode b_Z_readProperties 26 = .ok (.bipush 23, 2) := by decide +kernel
theorem d_Z_readProperties_28 : decode b_Z_readProperties 28 = .ok (.invokevirtual 170, 3) := by decide +kernel
theorem d_Z_readProperties_31 : decode b_Z_readProperties 31 = .ok (.istore 5, 2) := by decide +kernel
theorem d_Z_readProperties_33 : decode b_Z_readProperties 33 = .ok (.iload 5, 2) := by decide +kernel
theorem d_Z_readProperties_35 : decode b_Z_readProperties 35 = .ok (.iload_n 3, 1) := by decide +kernel
theorem d_Z_readProperties_36 : decode b_Z_readProperties 36 = .ok (.if_icmp .gt 11, 3) := by decide +kernel
theorem d_Z_readProperties_39 : decode b_Z_readProperties 39 = .ok (.aload_n 0, 1) := by decide +kernel
theorem d_Z_readProperties_40 : decode b_Z_readProperties 40 = .ok (.aload_n 0, 1) := by decide +kernel
theorem d_Z_readProperties_41 : decode b_Z_readProperties 41 = .ok (.getfield 164, 3) := by decide +kernel
theorem d_Z_readProperties_44 : decode b_Z_readProperties 44 = .ok (.invokevirtual 167, 3) := by decide +kernel
theorem d_Z_readProperties_47 : decode b_Z_readProperties 47 = .ok (.iload 5, 2) := by decide +kernel
theorem d_Z_readProperties_49 : decode b_Z_readProperties 49 = .ok (.istore_n 3, 1) := by decide +kernel
theorem d_Z_readProperties_50 : decode b_Z_readProperties 50 = .ok (.aload_n 0, 1) := by decide +kernel
theorem d_Z_readProperties_51 : decode b_Z_readProperties 51 = .ok (.getfield 158, 3) := by decide +kernel
theorem d_Z_readProperties_54 : decode b_Z_readProperties 54 = .ok (.ifCond .ge 23, 3) := by decide +kernel
theorem d_Z_readProperties_57 : decode b_Z_readProperties 57 = .ok (.aload_n 0, 1) := by decide +kernel
theorem d_Z_readProperties_58 : decode b_Z_readProperties 58 = .ok (.getfield 32, 3) := by decide +kernel
theorem d_Z_readProperties_61 : decode b_Z_readProperties 61 = .ok (.iload_n 1, 1) := by decide +kernel
theorem d_Z_readProperties_62 : decode b_Z_readProperties 62 = .ok (.iload 5, 2) := by decide +kernel
theorem d_Z_readProperties_64 : decode b_Z_readProperties 64 = .ok (.iadd, 1) := by decide +kernel
theorem d_Z_readProperties_65 : decode b_Z_readProperties 65 = .ok (.iconst 1, 1) := by decide +kernel
theorem d_Z_readProperties_66 : decode b_Z_readProperties 66 = .ok (.aload_n 0, 1) := by decide +kernel
theorem d_Z_readProperties_67 : decode b_Z_readProperties 67 = .ok (.iload 5, 2) := by decide +kernel
theorem d_Z_readProperties_69 : decode b_Z_readProperties 69 = .ok (.invokestatic 98, 3) := by decide +kernel
theorem d_Z_readProperties_72 : decode b_Z_readProperties 72 = .ok (.invokevirtual 170, 3) := by decide +kernel
theorem d_Z_readProperties_75 : decode b_Z_readProperties 75 = .ok (.iadd, 1) := by decide +kernel
theorem d_Z_readProperties_76 : decode b_Z_readProperties 76 = .ok (.iastore, 1) := by decide +kernel
theorem d_Z_readProperties_77 : decode b_Z_readProperties 77 = .ok (.iinc 4 1, 3) := by decide +kernel
theorem d_Z_readProperties_80 : decode b_Z_readProperties 80 = .ok (.goto (-68), 3) := by decide +kernel
theorem d_Z_readProperties_83 : decode b_Z_readProperties 83 = .ok (.return_, 1) := by decide +kernel
