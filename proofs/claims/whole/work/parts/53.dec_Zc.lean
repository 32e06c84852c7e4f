theorem d_Z_readStyles_0 : decode b_Z_readStyles 0 = .ok (.aload_n 0, 1) := by decide +kernel
theorem d_Z_readStyles_1 : decode b_Z_readStyles 1 = .ok (.bipush 16, 2) := by decide +kernel
theorem d_Z_readStyles_3 : decode b_Z_readStyles 3 = .ok (.invokevirtual 170, 3) := by decide +kernel
theorem d_Z_readStyles_6 : decode b_Z_readStyles 6 = .ok (.istore_n 2, 1) := by decide +kernel
theorem d_Z_readStyles_7 : decode b_Z_readStyles 7 = .ok (.aload_n 0, 1) := by decide +kernel
theorem d_Z_readStyles_8 : decode b_Z_readStyles 8 = .ok (.getfield 13, 3) := by decide +kernel
theorem d_Z_readStyles_11 : decode b_Z_readStyles 11 = .ok (.iload_n 1, 1) := by decide +kernel
theorem d_Z_readStyles_12 : decode b_Z_readStyles 12 = .ok (.iload_n 2, 1) := by decide +kernel
theorem d_Z_readStyles_13 : decode b_Z_readStyles 13 = .ok (.iastore, 1) := by decide +kernel
theorem d_Z_readStyles_14 : decode b_Z_readStyles 14 = .ok (.iconst 0, 1) := by decide +kernel
theorem d_Z_readStyles_15 : decode b_Z_readStyles 15 = .ok (.istore_n 3, 1) := by decide +kernel
theorem d_Z_readStyles_16 : decode b_Z_readStyles 16 = .ok (.iload_n 3, 1) := by decide +kernel
theorem d_Z_readStyles_17 : decode b_Z_readStyles 17 = .ok (.iload_n 2, 1) := by decide +kernel
theorem d_Z_readStyles_18 : decode b_Z_readStyles 18 = .ok (.if_icmp .ge 21, 3) := by decide +kernel
theorem d_Z_readStyles_21 : decode b_Z_readStyles 21 = .ok (.aload_n 0, 1) := by decide +kernel
theorem d_Z_readStyles_22 : decode b_Z_readStyles 22 = .ok (.getfield 29, 3) := by decide +kernel
theorem d_Z_readStyles_25 : decode b_Z_readStyles 25 = .ok (.bipush 16, 2) := by decide +kernel
theorem d_Z_readStyles_27 : decode b_Z_readStyles 27 = .ok (.iload_n 1, 1) := by decide +kernel
theorem d_Z_readStyles_28 : decode b_Z_readStyles 28 = .ok (.imul, 1) := by decide +kernel
theorem d_Z_readStyles_29 : decode b_Z_readStyles 29 = .ok (.iload_n 3, 1) := by decide +kernel
theorem d_Z_readStyles_30 : decode b_Z_readStyles 30 = .ok (.iadd, 1) := by decide +kernel
theorem d_Z_readStyles_31 : decode b_Z_readStyles 31 = .ok (.iconst (-1), 1) := by decide +kernel
theorem d_Z_readStyles_32 : decode b_Z_readStyles 32 = .ok (.iastore, 1) := by decide +kernel
theorem d_Z_readStyles_33 : decode b_Z_readStyles 33 = .ok (.iinc 3 1, 3) := by decide +kernel
theorem d_Z_readStyles_36 : decode b_Z_readStyles 36 = .ok (.goto (-20), 3) := by decide +kernel
theorem d_Z_readStyles_39 : decode b_Z_readStyles 39 = .ok (.iconst 0, 1) := by decide +kernel
theorem d_Z_readStyles_40 : decode b_Z_readStyles 40 = .ok (.istore_n 3, 1) := by decide +kernel
theorem d_Z_readStyles_41 : decode b_Z_readStyles 41 = .ok (.iload_n 3, 1) := by decide +kernel
theorem d_Z_readStyles_42 : decode b_Z_readStyles 42 = .ok (.iload_n 2, 1) := by decide +kernel
theorem d_Z_readStyles_43 : decode b_Z_readStyles 43 = .ok (.if_icmp .ge 104, 3) := by decide +kernel
theorem d_Z_readStyles_46 : decode b_Z_readStyles 46 = .ok (.aload_n 0, 1) := by decide +kernel
theorem d_Z_readStyles_47 : decode b_Z_readStyles 47 = .ok (.getfield 158, 3) := by decide +kernel
theorem d_Z_readStyles_50 : decode b_Z_readStyles 50 = .ok (.ifCond .ge 97, 3) := by decide +kernel
theorem d_Z_readStyles_53 : decode b_Z_readStyles 53 = .ok (.aload_n 0, 1) := by decide +kernel
theorem d_Z_readStyles_54 : decode b_Z_readStyles 54 = .ok (.iload_n 1, 1) := by decide +kernel
theorem d_Z_readStyles_55 : decode b_Z_readStyles 55 = .ok (.iconst 0, 1) := by decide +kernel
theorem d_Z_readStyles_56 : decode b_Z_readStyles 56 = .ok (.iload_n 3, 1) := by decide +kernel
theorem d_Z_readStyles_57 : decode b_Z_readStyles 57 = .ok (.invokevirtual 86, 3) := by decide +kernel
theorem d_Z_readStyles_60 : decode b_Z_readStyles 60 = .ok (.aload_n 0, 1) := by decide +kernel
theorem d_Z_readStyles_61 : decode b_Z_readStyles 61 = .ok (.iload_n 2, 1) := by decide +kernel
theorem d_Z_readStyles_62 : decode b_Z_readStyles 62 = .ok (.invokevirtual 170, 3) := by decide +kernel
theorem d_Z_readStyles_65 : decode b_Z_readStyles 65 = .ok (.iconst 1, 1) := by decide +kernel
theorem d_Z_readStyles_66 : decode b_Z_readStyles 66 = .ok (.isub, 1) := by decide +kernel
theorem d_Z_readStyles_67 : decode b_Z_readStyles 67 = .ok (.istore 4, 2) := by decide +kernel
theorem d_Z_readStyles_69 : decode b_Z_readStyles 69 = .ok (.aload_n 0, 1) := by decide +kernel
theorem d_Z_readStyles_70 : decode b_Z_readStyles 70 = .ok (.getfield 29, 3) := by decide +kernel
theorem d_Z_readStyles_73 : decode b_Z_readStyles 73 = .ok (.bipush 16, 2) := by decide +kernel
theorem d_Z_readStyles_75 : decode b_Z_readStyles 75 = .ok (.iload_n 1, 1) := by decide +kernel
theorem d_Z_readStyles_76 : decode b_Z_readStyles 76 = .ok (.imul, 1) := by decide +kernel
theorem d_Z_readStyles_77 : decode b_Z_readStyles 77 = .ok (.iload_n 3, 1) := by decide +kernel
theorem d_Z_readStyles_78 : decode b_Z_readStyles 78 = .ok (.iadd, 1) := by decide +kernel
theorem d_Z_readStyles_79 : decode b_Z_readStyles 79 = .ok (.iload 4, 2) := by decide +kernel
theorem d_Z_readStyles_81 : decode b_Z_readStyles 81 = .ok (.iastore, 1) := by decide +kernel
theorem d_Z_readStyles_82 : decode b_Z_readStyles 82 = .ok (.iconst 0, 1) := by decide +kernel
theorem d_Z_readStyles_83 : decode b_Z_readStyles 83 = .ok (.istore 5, 2) := by decide +kernel
theorem d_Z_readStyles_85 : decode b_Z_readStyles 85 = .ok (.iload 5, 2) := by decide +kernel
theorem d_Z_readStyles_87 : decode b_Z_readStyles 87 = .ok (.bipush 16, 2) := by decide +kernel
theorem d_Z_readStyles_89 : decode b_Z_readStyles 89 = .ok (.if_icmp .ge 42, 3) := by decide +kernel
theorem d_Z_readStyles_92 : decode b_Z_readStyles 92 = .ok (.iload 4, 2) := by decide +kernel
theorem d_Z_readStyles_94 : decode b_Z_readStyles 94 = .ok (.ifCond .lt 37, 3) := by decide +kernel
theorem d_Z_readStyles_97 : decode b_Z_readStyles 97 = .ok (.iload 4, 2) := by decide +kernel
theorem d_Z_readStyles_99 : decode b_Z_readStyles 99 = .ok (.iload_n 3, 1) := by decide +kernel
theorem d_Z_readStyles_100 : decode b_Z_readStyles 100 = .ok (.if_icmp .ne 11, 3) := by decide +kernel
theorem d_Z_readStyles_103 : decode b_Z_readStyles 103 = .ok (.aload_n 0, 1) := by decide +kernel
theorem d_Z_readStyles_104 : decode b_Z_readStyles 104 = .ok (.aload_n 0, 1) := by decide +kernel
theorem d_Z_readStyles_105 : decode b_Z_readStyles 105 = .ok (.getfield 164, 3) := by decide +kernel
theorem d_Z_readStyles_108 : decode b_Z_readStyles 108 = .ok (.invokevirtual 167, 3) := by decide +kernel
theorem d_Z_readStyles_111 : decode b_Z_readStyles 111 = .ok (.aload_n 0, 1) := by decide +kernel
theorem d_Z_readStyles_112 : decode b_Z_readStyles 112 = .ok (.getfield 29, 3) := by decide +kernel
theorem d_Z_readStyles_115 : decode b_Z_readStyles 115 = .ok (.bipush 16, 2) := by decide +kernel
theorem d_Z_readStyles_117 : decode b_Z_readStyles 117 = .ok (.iload_n 1, 1) := by decide +kernel
theorem d_Z_readStyles_118 : decode b_Z_readStyles 118 = .ok (.imul, 1) := by decide +kernel
theorem d_Z_readStyles_119 : decode b_Z_readStyles 119 = .ok (.iload 4, 2) := by decide +kernel
theorem d_Z_readStyles_121 : decode b_Z_readStyles 121 = .ok (.iadd, 1) := by decide +kernel
theorem d_Z_readStyles_122 : decode b_Z_readStyles 122 = .ok (.iaload, 1) := by decide +kernel
theorem d_Z_readStyles_123 : decode b_Z_readStyles 123 = .ok (.istore 4, 2) := by decide +kernel
theorem d_Z_readStyles_125 : decode b_Z_readStyles 125 = .ok (.iinc 5 1, 3) := by decide +kernel
theorem d_Z_readStyles_128 : decode b_Z_readStyles 128 = .ok (.goto (-43), 3) := by decide +kernel
theorem d_Z_readStyles_131 : decode b_Z_readStyles 131 = .ok (.aload_n 0, 1) := by decide +kernel
theorem d_Z_readStyles_132 : decode b_Z_readStyles 132 = .ok (.iload_n 1, 1) := by decide +kernel
theorem d_Z_readStyles_133 : decode b_Z_readStyles 133 = .ok (.iconst 0, 1) := by decide +kernel
theorem d_Z_readStyles_134 : decode b_Z_readStyles 134 = .ok (.iload_n 3, 1) := by decide +kernel
theorem d_Z_readStyles_135 : decode b_Z_readStyles 135 = .ok (.invokestatic 78, 3) := by decide +kernel
theorem d_Z_readStyles_138 : decode b_Z_readStyles 138 = .ok (.invokevirtual 173, 3) := by decide +kernel
theorem d_Z_readStyles_141 : decode b_Z_readStyles 141 = .ok (.iinc 3 1, 3) := by decide +kernel
theorem d_Z_readStyles_144 : decode b_Z_readStyles 144 = .ok (.goto (-103), 3) := by decide +kernel
theorem d_Z_readStyles_147 : decode b_Z_readStyles 147 = .ok (.return_, 1) := by decide +kernel
theorem d_Z_readSet_0 : decode b_Z_readSet 0 = .ok (.aload_n 0, 1) := by decide +kernel
theorem d_Z_readSet_1 : decode b_Z_readSet 1 = .ok (.ldc 69, 2) := by decide +kernel
theorem d_Z_readSet_3 : decode b_Z_readSet 3 = .ok (.invokevirtual 170, 3) := by decide +kernel
theorem d_Z_readSet_6 : decode b_Z_readSet 6 = .ok (.istore_n 3, 1) := by decide +kernel
theorem d_Z_readSet_7 : decode b_Z_readSet 7 = .ok (.aload_n 0, 1) := by decide +kernel
theorem d_Z_readSet_8 : decode b_Z_readSet 8 = .ok (.getfield 164, 3) := by decide +kernel
theorem d_Z_readSet_11 : decode b_Z_readSet 11 = .ok (.istore 4, 2) := by decide +kernel
theorem d_Z_readSet_13 : decode b_Z_readSet 13 = .ok (.iload_n 2, 1) := by decide +kernel
theorem d_Z_readSet_14 : decode b_Z_readSet 14 = .ok (.iconst 1, 1) := by decide +kernel
theorem d_Z_readSet_15 : decode b_Z_readSet 15 = .ok (.if_icmp .ne 9, 3) := by decide +kernel
theorem d_Z_readSet_18 : decode b_Z_readSet 18 = .ok (.iload_n 3, 1) := by decide +kernel
theorem d_Z_readSet_19 : decode b_Z_readSet 19 = .ok (.ifCond .ne 5, 3) := by decide +kernel
theorem d_Z_readSet_22 : decode b_Z_readSet 22 = .ok (.iconst (-1), 1) := by decide +kernel
theorem d_Z_readSet_23 : decode b_Z_readSet 23 = .ok (.ireturn, 1) := by decide +kernel
theorem d_Z_readSet_24 : decode b_Z_readSet 24 = .ok (.iload_n 3, 1) := by decide +kernel
theorem d_Z_readSet_25 : decode b_Z_readSet 25 = .ok (.iload_n 2, 1) := by decide +kernel
theorem d_Z_readSet_26 : decode b_Z_readSet 26 = .ok (.isub, 1) := by decide +kernel
theorem d_Z_readSet_27 : decode b_Z_readSet 27 = .ok (.aload_n 0, 1) := by decide +kernel
theorem d_Z_readSet_28 : decode b_Z_readSet 28 = .ok (.getfield 17, 3) := by decide +kernel
theorem d_Z_readSet_31 : decode b_Z_readSet 31 = .ok (.iload_n 1, 1) := by decide +kernel
theorem d_Z_readSet_32 : decode b_Z_readSet 32 = .ok (.iaload, 1) := by decide +kernel
theorem d_Z_readSet_33 : decode b_Z_readSet 33 = .ok (.if_icmp .le 9, 3) := by decide +kernel
theorem d_Z_readSet_36 : decode b_Z_readSet 36 = .ok (.aload_n 0, 1) := by decide +kernel
theorem d_Z_readSet_37 : decode b_Z_readSet 37 = .ok (.iload 4, 2) := by decide +kernel
theorem d_Z_readSet_39 : decode b_Z_readSet 39 = .ok (.invokevirtual 167, 3) := by decide +kernel
theorem d_Z_readSet_42 : decode b_Z_readSet 42 = .ok (.iload_n 3, 1) := by decide +kernel
theorem d_Z_readSet_43 : decode b_Z_readSet 43 = .ok (.iload_n 2, 1) := by decide +kernel
theorem d_Z_readSet_44 : decode b_Z_readSet 44 = .ok (.if_icmp .gt 10, 3) := by decide +kernel
theorem d_Z_readSet_47 : decode b_Z_readSet 47 = .ok (.aload_n 0, 1) := by decide +kernel
theorem d_Z_readSet_48 : decode b_Z_readSet 48 = .ok (.getfield 158, 3) := by decide +kernel
theorem d_Z_readSet_51 : decode b_Z_readSet 51 = .ok (.ifCond .lt 9, 3) := by decide +kernel
theorem d_Z_readSet_54 : decode b_Z_readSet 54 = .ok (.iload_n 3, 1) := by decide +kernel
theorem d_Z_readSet_55 : decode b_Z_readSet 55 = .ok (.iload_n 2, 1) := by decide +kernel
theorem d_Z_readSet_56 : decode b_Z_readSet 56 = .ok (.isub, 1) := by decide +kernel
theorem d_Z_readSet_57 : decode b_Z_readSet 57 = .ok (.iconst 1, 1) := by decide +kernel
theorem d_Z_readSet_58 : decode b_Z_readSet 58 = .ok (.isub, 1) := by decide +kernel
theorem d_Z_readSet_59 : decode b_Z_readSet 59 = .ok (.ireturn, 1) := by decide +kernel
theorem d_Z_readSet_60 : decode b_Z_readSet 60 = .ok (.aload_n 0, 1) := by decide +kernel
theorem d_Z_readSet_61 : decode b_Z_readSet 61 = .ok (.getfield 17, 3) := by decide +kernel
theorem d_Z_readSet_64 : decode b_Z_readSet 64 = .ok (.iload_n 1, 1) := by decide +kernel
theorem d_Z_readSet_65 : decode b_Z_readSet 65 = .ok (.iaload, 1) := by decide +kernel
theorem d_Z_readSet_66 : decode b_Z_readSet 66 = .ok (.istore 5, 2) := by decide +kernel
theorem d_Z_readSet_68 : decode b_Z_readSet 68 = .ok (.iload 5, 2) := by decide +kernel
theorem d_Z_readSet_70 : decode b_Z_readSet 70 = .ok (.bipush 24, 2) := by decide +kernel
theorem d_Z_readSet_72 : decode b_Z_readSet 72 = .ok (.if_icmp .ne 11, 3) := by decide +kernel
theorem d_Z_readSet_75 : decode b_Z_readSet 75 = .ok (.aload_n 0, 1) := by decide +kernel
theorem d_Z_readSet_76 : decode b_Z_readSet 76 = .ok (.iload 4, 2) := by decide +kernel
theorem d_Z_readSet_78 : decode b_Z_readSet 78 = .ok (.invokevirtual 167, 3) := by decide +kernel
theorem d_Z_readSet_81 : decode b_Z_readSet 81 = .ok (.iconst 0, 1) := by decide +kernel
theorem d_Z_readSet_82 : decode b_Z_readSet 82 = .ok (.ireturn, 1) := by decide +kernel
theorem d_Z_readSet_83 : decode b_Z_readSet 83 = .ok (.aload_n 0, 1) := by decide +kernel
theorem d_Z_readSet_84 : decode b_Z_readSet 84 = .ok (.iload_n 1, 1) := by decide +kernel
theorem d_Z_readSet_85 : decode b_Z_readSet 85 = .ok (.iconst 1, 1) := by decide +kernel
theorem d_Z_readSet_86 : decode b_Z_readSet 86 = .ok (.iload 5, 2) := by decide +kernel
theorem d_Z_readSet_88 : decode b_Z_readSet 88 = .ok (.invokevirtual 86, 3) := by decide +kernel
theorem d_Z_readSet_91 : decode b_Z_readSet 91 = .ok (.aload_n 0, 1) := by decide +kernel
theorem d_Z_readSet_92 : decode b_Z_readSet 92 = .ok (.iload_n 1, 1) := by decide +kernel
theorem d_Z_readSet_93 : decode b_Z_readSet 93 = .ok (.iconst 1, 1) := by decide +kernel
theorem d_Z_readSet_94 : decode b_Z_readSet 94 = .ok (.iload 5, 2) := by decide +kernel
theorem d_Z_readSet_96 : decode b_Z_readSet 96 = .ok (.invokestatic 78, 3) := by decide +kernel
theorem d_Z_readSet_99 : decode b_Z_readSet 99 = .ok (.invokevirtual 173, 3) := by decide +kernel
theorem d_Z_readSet_102 : decode b_Z_readSet 102 = .ok (.aload_n 0, 1) := by decide +kernel
theorem d_Z_readSet_103 : decode b_Z_readSet 103 = .ok (.getfield 158, 3) := by decide +kernel
theorem d_Z_readSet_106 : decode b_Z_readSet 106 = .ok (.ifCond .ge 21, 3) := by decide +kernel
theorem d_Z_readSet_109 : decode b_Z_readSet 109 = .ok (.aload_n 0, 1) := by decide +kernel
theorem d_Z_readSet_110 : decode b_Z_readSet 110 = .ok (.iload_n 1, 1) := by decide +kernel
theorem d_Z_readSet_111 : decode b_Z_readSet 111 = .ok (.iload 5, 2) := by decide +kernel
theorem d_Z_readSet_113 : decode b_Z_readSet 113 = .ok (.invokevirtual 123, 3) := by decide +kernel
theorem d_Z_readSet_116 : decode b_Z_readSet 116 = .ok (.iload 5, 2) := by decide +kernel
theorem d_Z_readSet_118 : decode b_Z_readSet 118 = .ok (.if_icmp .ge 9, 3) := by decide +kernel
theorem d_Z_readSet_121 : decode b_Z_readSet 121 = .ok (.aload_n 0, 1) := by decide +kernel
theorem d_Z_readSet_122 : decode b_Z_readSet 122 = .ok (.iload 4, 2) := by decide +kernel
theorem d_Z_readSet_124 : decode b_Z_readSet 124 = .ok (.invokevirtual 167, 3) := by decide +kernel
theorem d_Z_readSet_127 : decode b_Z_readSet 127 = .ok (.aload_n 0, 1) := by decide +kernel
theorem d_Z_readSet_128 : decode b_Z_readSet 128 = .ok (.getfield 17, 3) := by decide +kernel
theorem d_Z_readSet_131 : decode b_Z_readSet 131 = .ok (.iload_n 1, 1) := by decide +kernel
theorem d_Z_readSet_132 : decode b_Z_readSet 132 = .ok (.dup2, 1) := by decide +kernel
theorem d_Z_readSet_133 : decode b_Z_readSet 133 = .ok (.iaload, 1) := by decide +kernel
theorem d_Z_readSet_134 : decode b_Z_readSet 134 = .ok (.iconst 1, 1) := by decide +kernel
theorem d_Z_readSet_135 : decode b_Z_readSet 135 = .ok (.iadd, 1) := by decide +kernel
theorem d_Z_readSet_136 : decode b_Z_readSet 136 = .ok (.iastore, 1) := by decide +kernel
theorem d_Z_readSet_137 : decode b_Z_readSet 137 = .ok (.iload 5, 2) := by decide +kernel
theorem d_Z_readSet_139 : decode b_Z_readSet 139 = .ok (.ireturn, 1) := by decide +kernel
theorem d_Z_readMark_0 : decode b_Z_readMark 0 = .ok (.aload_n 0, 1) := by decide +kernel
theorem d_Z_readMark_1 : decode b_Z_readMark 1 = .ok (.ldc 69, 2) := by decide +kernel
theorem d_Z_readMark_3 : decode b_Z_readMark 3 = .ok (.invokevirtual 170, 3) := by decide +kernel
theorem d_Z_readMark_6 : decode b_Z_readMark 6 = .ok (.istore_n 2, 1) := by decide +kernel
theorem d_Z_readMark_7 : decode b_Z_readMark 7 = .ok (.aload_n 0, 1) := by decide +kernel
theorem d_Z_readMark_8 : decode b_Z_readMark 8 = .ok (.getfield 164, 3) := by decide +kernel
theorem d_Z_readMark_11 : decode b_Z_readMark 11 = .ok (.istore_n 3, 1) := by decide +kernel
theorem d_Z_readMark_12 : decode b_Z_readMark 12 = .ok (.iload_n 2, 1) := by decide +kernel
theorem d_Z_readMark_13 : decode b_Z_readMark 13 = .ok (.aload_n 0, 1) := by decide +kernel
theorem d_Z_readMark_14 : decode b_Z_readMark 14 = .ok (.getfield 20, 3) := by decide +kernel
theorem d_Z_readMark_17 : decode b_Z_readMark 17 = .ok (.iload_n 1, 1) := by decide +kernel
theorem d_Z_readMark_18 : decode b_Z_readMark 18 = .ok (.iaload, 1) := by decide +kernel
theorem d_Z_readMark_19 : decode b_Z_readMark 19 = .ok (.if_icmp .le 8, 3) := by decide +kernel
theorem d_Z_readMark_22 : decode b_Z_readMark 22 = .ok (.aload_n 0, 1) := by decide +kernel
theorem d_Z_readMark_23 : decode b_Z_readMark 23 = .ok (.iload_n 3, 1) := by decide +kernel
theorem d_Z_readMark_24 : decode b_Z_readMark 24 = .ok (.invokevirtual 167, 3) := by decide +kernel
theorem d_Z_readMark_27 : decode b_Z_readMark 27 = .ok (.iload_n 2, 1) := by decide +kernel
theorem d_Z_readMark_28 : decode b_Z_readMark 28 = .ok (.ifCond .gt 10, 3) := by decide +kernel
theorem d_Z_readMark_31 : decode b_Z_readMark 31 = .ok (.aload_n 0, 1) := by decide +kernel
theorem d_Z_readMark_32 : decode b_Z_readMark 32 = .ok (.getfield 158, 3) := by decide +kernel
theorem d_Z_readMark_35 : decode b_Z_readMark 35 = .ok (.ifCond .lt 7, 3) := by decide +kernel
theorem d_Z_readMark_38 : decode b_Z_readMark 38 = .ok (.iload_n 2, 1) := by decide +kernel
theorem d_Z_readMark_39 : decode b_Z_readMark 39 = .ok (.iconst 1, 1) := by decide +kernel
theorem d_Z_readMark_40 : decode b_Z_readMark 40 = .ok (.isub, 1) := by decide +kernel
theorem d_Z_readMark_41 : decode b_Z_readMark 41 = .ok (.ireturn, 1) := by decide +kernel
theorem d_Z_readMark_42 : decode b_Z_readMark 42 = .ok (.aload_n 0, 1) := by decide +kernel
theorem d_Z_readMark_43 : decode b_Z_readMark 43 = .ok (.getfield 20, 3) := by decide +kernel
theorem d_Z_readMark_46 : decode b_Z_readMark 46 = .ok (.iload_n 1, 1) := by decide +kernel
theorem d_Z_readMark_47 : decode b_Z_readMark 47 = .ok (.iaload, 1) := by decide +kernel
theorem d_Z_readMark_48 : decode b_Z_readMark 48 = .ok (.istore 4, 2) := by decide +kernel
theorem d_Z_readMark_50 : decode b_Z_readMark 50 = .ok (.iload 4, 2) := by decide +kernel
theorem d_Z_readMark_52 : decode b_Z_readMark 52 = .ok (.bipush 24, 2) := by decide +kernel
theorem d_Z_readMark_54 : decode b_Z_readMark 54 = .ok (.if_icmp .ne 10, 3) := by decide +kernel
theorem d_Z_readMark_57 : decode b_Z_readMark 57 = .ok (.aload_n 0, 1) := by decide +kernel
theorem d_Z_readMark_58 : decode b_Z_readMark 58 = .ok (.iload_n 3, 1) := by decide +kernel
theorem d_Z_readMark_59 : decode b_Z_readMark 59 = .ok (.invokevirtual 167, 3) := by decide +kernel
theorem d_Z_readMark_62 : decode b_Z_readMark 62 = .ok (.iconst 0, 1) := by decide +kernel
theorem d_Z_readMark_63 : decode b_Z_readMark 63 = .ok (.ireturn, 1) := by decide +kernel
theorem d_Z_readMark_64 : decode b_Z_readMark 64 = .ok (.aload_n 0, 1) := by decide +kernel
theorem d_Z_readMark_65 : decode b_Z_readMark 65 = .ok (.getfield 35, 3) := by decide +kernel
theorem d_Z_readMark_68 : decode b_Z_readMark 68 = .ok (.bipush 24, 2) := by decide +kernel
theorem d_Z_readMark_70 : decode b_Z_readMark 70 = .ok (.iload_n 1, 1) := by decide +kernel
theorem d_Z_readMark_71 : decode b_Z_readMark 71 = .ok (.imul, 1) := by decide +kernel
theorem d_Z_readMark_72 : decode b_Z_readMark 72 = .ok (.iload 4, 2) := by decide +kernel
theorem d_Z_readMark_74 : decode b_Z_readMark 74 = .ok (.iadd, 1) := by decide +kernel
theorem d_Z_readMark_75 : decode b_Z_readMark 75 = .ok (.aload_n 0, 1) := by decide +kernel
theorem d_Z_readMark_76 : decode b_Z_readMark 76 = .ok (.sipush 255, 3) := by decide +kernel
theorem d_Z_readMark_79 : decode b_Z_readMark 79 = .ok (.invokevirtual 170, 3) := by decide +kernel
theorem d_Z_readMark_82 : decode b_Z_readMark 82 = .ok (.i2s, 1) := by decide +kernel
theorem d_Z_readMark_83 : decode b_Z_readMark 83 = .ok (.sastore, 1) := by decide +kernel
theorem d_Z_readMark_84 : decode b_Z_readMark 84 = .ok (.aload_n 0, 1) := by decide +kernel
theorem d_Z_readMark_85 : decode b_Z_readMark 85 = .ok (.getfield 39, 3) := by decide +kernel
theorem d_Z_readMark_88 : decode b_Z_readMark 88 = .ok (.bipush 24, 2) := by decide +kernel
theorem d_Z_readMark_90 : decode b_Z_readMark 90 = .ok (.iload_n 1, 1) := by decide +kernel
theorem d_Z_readMark_91 : decode b_Z_readMark 91 = .ok (.imul, 1) := by decide +kernel
theorem d_Z_readMark_92 : decode b_Z_readMark 92 = .ok (.iload 4, 2) := by decide +kernel
theorem d_Z_readMark_94 : decode b_Z_readMark 94 = .ok (.iadd, 1) := by decide +kernel
theorem d_Z_readMark_95 : decode b_Z_readMark 95 = .ok (.aload_n 0, 1) := by decide +kernel
theorem d_Z_readMark_96 : decode b_Z_readMark 96 = .ok (.sipush 255, 3) := by decide +kernel
theorem d_Z_readMark_99 : decode b_Z_readMark 99 = .ok (.invokevirtual 170, 3) := by decide +kernel
theorem d_Z_readMark_102 : decode b_Z_readMark 102 = .ok (.i2s, 1) := by decide +kernel
theorem d_Z_readMark_103 : decode b_Z_readMark 103 = .ok (.sastore, 1) := by decide +kernel
theorem d_Z_readMark_104 : decode b_Z_readMark 104 = .ok (.aload_n 0, 1) := by decide +kernel
theorem d_Z_readMark_105 : decode b_Z_readMark 105 = .ok (.getfield 42, 3) := by decide +kernel
theorem d_Z_readMark_108 : decode b_Z_readMark 108 = .ok (.bipush 24, 2) := by decide +kernel
theorem d_Z_readMark_110 : decode b_Z_readMark 110 = .ok (.iload_n 1, 1) := by decide +kernel
theorem d_Z_readMark_111 : decode b_Z_readMark 111 = .ok (.imul, 1) := by decide +kernel
theorem d_Z_readMark_112 : decode b_Z_readMark 112 = .ok (.iload 4, 2) := by decide +kernel
theorem d_Z_readMark_114 : decode b_Z_readMark 114 = .ok (.iadd, 1) := by decide +kernel
theorem d_Z_readMark_115 : decode b_Z_readMark 115 = .ok (.aload_n 0, 1) := by decide +kernel
theorem d_Z_readMark_116 : decode b_Z_readMark 116 = .ok (.getfield 158, 3) := by decide +kernel
theorem d_Z_readMark_119 : decode b_Z_readMark 119 = .ok (.ifCond .ge 12, 3) := by decide +kernel
theorem d_Z_readMark_122 : decode b_Z_readMark 122 = .ok (.aload_n 0, 1) := by decide +kernel
theorem d_Z_readMark_123 : decode b_Z_readMark 123 = .ok (.iload_n 1, 1) := by decide +kernel
theorem d_Z_readMark_124 : decode b_Z_readMark 124 = .ok (.iconst 1, 1) := by decide +kernel
theorem d_Z_readMark_125 : decode b_Z_readMark 125 = .ok (.invokevirtual 176, 3) := by decide +kernel
theorem d_Z_readMark_128 : decode b_Z_readMark 128 = .ok (.goto 4, 3) := by decide +kernel
theorem d_Z_readMark_131 : decode b_Z_readMark 131 = .ok (.iconst (-1), 1) := by decide +kernel
theorem d_Z_readMark_132 : decode b_Z_readMark 132 = .ok (.i2s, 1) := by decide +kernel
theorem d_Z_readMark_133 : decode b_Z_readMark 133 = .ok (.sastore, 1) := by decide +kernel
theorem d_Z_readMark_134 : decode b_Z_readMark 134 = .ok (.aload_n 0, 1) := by decide +kernel
theorem d_Z_readMark_135 : decode b_Z_readMark 135 = .ok (.getfield 158, 3) := by decide +kernel
theorem d_Z_readMark_138 : decode b_Z_readMark 138 = .ok (.ifCond .ge 20, 3) := by decide +kernel
theorem d_Z_readMark_141 : decode b_Z_readMark 141 = .ok (.aload_n 0, 1) := by decide +kernel
theorem d_Z_readMark_142 : decode b_Z_readMark 142 = .ok (.iload_n 1, 1) := by decide +kernel
theorem d_Z_readMark_143 : decode b_Z_readMark 143 = .ok (.iload 4, 2) := by decide +kernel
theorem d_Z_readMark_145 : decode b_Z_readMark 145 = .ok (.invokevirtual 127, 3) := by decide +kernel
theorem d_Z_readMark_148 : decode b_Z_readMark 148 = .ok (.iload 4, 2) := by decide +kernel
theorem d_Z_readMark_150 : decode b_Z_readMark 150 = .ok (.if_icmp .ge 8, 3) := by decide +kernel
theorem d_Z_readMark_153 : decode b_Z_readMark 153 = .ok (.aload_n 0, 1) := by decide +kernel
theorem d_Z_readMark_154 : decode b_Z_readMark 154 = .ok (.iload_n 3, 1) := by decide +kernel
theorem d_Z_readMark_155 : decode b_Z_readMark 155 = .ok (.invokevirtual 167, 3) := by decide +kernel
theorem d_Z_readMark_158 : decode b_Z_readMark 158 = .ok (.aload_n 0, 1) := by decide +kernel
theorem d_Z_readMark_159 : decode b_Z_readMark 159 = .ok (.getfield 20, 3) := by decide +kernel
theorem d_Z_readMark_162 : decode b_Z_readMark 162 = .ok (.iload_n 1, 1) := by decide +kernel
theorem d_Z_readMark_163 : decode b_Z_readMark 163 = .ok (.dup2, 1) := by decide +kernel
theorem d_Z_readMark_164 : decode b_Z_readMark 164 = .ok (.iaload, 1) := by decide +kernel
theorem d_Z_readMark_165 : decode b_Z_readMark 165 = .ok (.iconst 1, 1) := by decide +kernel
theorem d_Z_readMark_166 : decode b_Z_readMark 166 = .ok (.iadd, 1) := by decide +kernel
theorem d_Z_readMark_167 : decode b_Z_readMark 167 = .ok (.iastore, 1) := by decide +kernel
theorem d_Z_readMark_168 : decode b_Z_readMark 168 = .ok (.iload 4, 2) := by decide +kernel
theorem d_Z_readMark_170 : decode b_Z_readMark 170 = .ok (.ireturn, 1) := by decide +kernel
theorem d_Z_readRun_0 : decode b_Z_readRun 0 = .ok (.aload_n 0, 1) := by decide +kernel
theorem d_Z_readRun_1 : decode b_Z_readRun 1 = .ok (.iconst 1, 1) := by decide +kernel
theorem d_Z_readRun_2 : decode b_Z_readRun 2 = .ok (.invokevirtual 170, 3) := by decide +kernel
theorem d_Z_readRun_5 : decode b_Z_readRun 5 = .ok (.istore_n 3, 1) := by decide +kernel
theorem d_Z_readRun_6 : decode b_Z_readRun 6 = .ok (.aload_n 0, 1) := by decide +kernel
theorem d_Z_readRun_7 : decode b_Z_readRun 7 = .ok (.getfield 164, 3) := by decide +kernel
theorem d_Z_readRun_10 : decode b_Z_readRun 10 = .ok (.istore 4, 2) := by decide +kernel
theorem d_Z_readRun_12 : decode b_Z_readRun 12 = .ok (.iload_n 3, 1) := by decide +kernel
theorem d_Z_readRun_13 : decode b_Z_readRun 13 = .ok (.iconst 1, 1) := by decide +kernel
theorem d_Z_readRun_14 : decode b_Z_readRun 14 = .ok (.if_icmp .ne 18, 3) := by decide +kernel
theorem d_Z_readRun_17 : decode b_Z_readRun 17 = .ok (.aload_n 0, 1) := by decide +kernel
theorem d_Z_readRun_18 : decode b_Z_readRun 18 = .ok (.aload_n 0, 1) := by decide +kernel
theorem d_Z_readRun_19 : decode b_Z_readRun 19 = .ok (.getfield 13, 3) := by decide +kernel
theorem d_Z_readRun_22 : decode b_Z_readRun 22 = .ok (.iload_n 1, 1) := by decide +kernel
theorem d_Z_readRun_23 : decode b_Z_readRun 23 = .ok (.iaload, 1) := by decide +kernel
theorem d_Z_readRun_24 : decode b_Z_readRun 24 = .ok (.invokevirtual 170, 3) := by decide +kernel
theorem d_Z_readRun_27 : decode b_Z_readRun 27 = .ok (.iconst 1, 1) := by decide +kernel
theorem d_Z_readRun_28 : decode b_Z_readRun 28 = .ok (.isub, 1) := by decide +kernel
theorem d_Z_readRun_29 : decode b_Z_readRun 29 = .ok (.goto 4, 3) := by decide +kernel
theorem d_Z_readRun_32 : decode b_Z_readRun 32 = .ok (.iconst (-1), 1) := by decide +kernel
theorem d_Z_readRun_33 : decode b_Z_readRun 33 = .ok (.istore 5, 2) := by decide +kernel
theorem d_Z_readRun_35 : decode b_Z_readRun 35 = .ok (.aload_n 0, 1) := by decide +kernel
theorem d_Z_readRun_36 : decode b_Z_readRun 36 = .ok (.getfield 158, 3) := by decide +kernel
theorem d_Z_readRun_39 : decode b_Z_readRun 39 = .ok (.ifCond .ge 12, 3) := by decide +kernel
theorem d_Z_readRun_42 : decode b_Z_readRun 42 = .ok (.aload_n 0, 1) := by decide +kernel
theorem d_Z_readRun_43 : decode b_Z_readRun 43 = .ok (.iload_n 1, 1) := by decide +kernel
theorem d_Z_readRun_44 : decode b_Z_readRun 44 = .ok (.iconst 0, 1) := by decide +kernel
theorem d_Z_readRun_45 : decode b_Z_readRun 45 = .ok (.invokevirtual 176, 3) := by decide +kernel
theorem d_Z_readRun_48 : decode b_Z_readRun 48 = .ok (.goto 4, 3) := by decide +kernel
theorem d_Z_readRun_51 : decode b_Z_readRun 51 = .ok (.iconst 0, 1) := by decide +kernel
theorem d_Z_readRun_52 : decode b_Z_readRun 52 = .ok (.istore 6, 2) := by decide +kernel
theorem d_Z_readRun_54 : decode b_Z_readRun 54 = .ok (.aload_n 0, 1) := by decide +kernel
theorem d_Z_readRun_55 : decode b_Z_readRun 55 = .ok (.getfield 158, 3) := by decide +kernel
theorem d_Z_readRun_58 : decode b_Z_readRun 58 = .ok (.ifCond .ge 11, 3) := by decide +kernel
theorem d_Z_readRun_61 : decode b_Z_readRun 61 = .ok (.aload_n 0, 1) := by decide +kernel
theorem d_Z_readRun_62 : decode b_Z_readRun 62 = .ok (.iload_n 1, 1) := by decide +kernel
theorem d_Z_readRun_63 : decode b_Z_readRun 63 = .ok (.invokevirtual 179, 3) := by decide +kernel
theorem d_Z_readRun_66 : decode b_Z_readRun 66 = .ok (.goto 4, 3) := by decide +kernel
theorem d_Z_readRun_69 : decode b_Z_readRun 69 = .ok (.iconst 0, 1) := by decide +kernel
theorem d_Z_readRun_70 : decode b_Z_readRun 70 = .ok (.istore 7, 2) := by decide +kernel
theorem d_Z_readRun_72 : decode b_Z_readRun 72 = .ok (.bipush 40, 2) := by decide +kernel
theorem d_Z_readRun_74 : decode b_Z_readRun 74 = .ok (.iload_n 1, 1) := by decide +kernel
theorem d_Z_readRun_75 : decode b_Z_readRun 75 = .ok (.imul, 1) := by decide +kernel
theorem d_Z_readRun_76 : decode b_Z_readRun 76 = .ok (.iload_n 2, 1) := by decide +kernel
theorem d_Z_readRun_77 : decode b_Z_readRun 77 = .ok (.iadd, 1) := by decide +kernel
theorem d_Z_readRun_78 : decode b_Z_readRun 78 = .ok (.istore 8, 2) := by decide +kernel
theorem d_Z_readRun_80 : decode b_Z_readRun 80 = .ok (.aload_n 0, 1) := by decide +kernel
theorem d_Z_readRun_81 : decode b_Z_readRun 81 = .ok (.getfield 45, 3) := by decide +kernel
theorem d_Z_readRun_84 : decode b_Z_readRun 84 = .ok (.iload 8, 2) := by decide +kernel
theorem d_Z_readRun_86 : decode b_Z_readRun 86 = .ok (.iload_n 3, 1) := by decide +kernel
theorem d_Z_readRun_87 : decode b_Z_readRun 87 = .ok (.i2s, 1) := by decide +kernel
theorem d_Z_readRun_88 : decode b_Z_readRun 88 = .ok (.sastore, 1) := by decide +kernel
theorem d_Z_readRun_89 : decode b_Z_readRun 89 = .ok (.aload_n 0, 1) := by decide +kernel
theorem d_Z_readRun_90 : decode b_Z_readRun 90 = .ok (.getfield 54, 3) := by decide +kernel
theorem d_Z_readRun_93 : decode b_Z_readRun 93 = .ok (.iload 8, 2) := by decide +kernel
theorem d_Z_readRun_95 : decode b_Z_readRun 95 = .ok (.iload 5, 2) := by decide +kernel
theorem d_Z_readRun_97 : decode b_Z_readRun 97 = .ok (.i2s, 1) := by decide +kernel
theorem d_Z_readRun_98 : decode b_Z_readRun 98 = .ok (.sastore, 1) := by decide +kernel
theorem d_Z_readRun_99 : decode b_Z_readRun 99 = .ok (.aload_n 0, 1) := by decide +kernel
theorem d_Z_readRun_100 : decode b_Z_readRun 100 = .ok (.getfield 48, 3) := by decide +kernel
theorem d_Z_readRun_103 : decode b_Z_readRun 103 = .ok (.iload 8, 2) := by decide +kernel
theorem d_Z_readRun_105 : decode b_Z_readRun 105 = .ok (.iload 6, 2) := by decide +kernel
theorem d_Z_readRun_107 : decode b_Z_readRun 107 = .ok (.i2s, 1) := by decide +kernel
theorem d_Z_readRun_108 : decode b_Z_readRun 108 = .ok (.sastore, 1) := by decide +kernel
theorem d_Z_readRun_109 : decode b_Z_readRun 109 = .ok (.aload_n 0, 1) := by decide +kernel
theorem d_Z_readRun_110 : decode b_Z_readRun 110 = .ok (.getfield 51, 3) := by decide +kernel
theorem d_Z_readRun_113 : decode b_Z_readRun 113 = .ok (.iload 8, 2) := by decide +kernel
theorem d_Z_readRun_115 : decode b_Z_readRun 115 = .ok (.iload 7, 2) := by decide +kernel
theorem d_Z_readRun_117 : decode b_Z_readRun 117 = .ok (.i2s, 1) := by decide +kernel
theorem d_Z_readRun_118 : decode b_Z_readRun 118 = .ok (.sastore, 1) := by decide +kernel
theorem d_Z_readRun_119 : decode b_Z_readRun 119 = .ok (.aload_n 0, 1) := by decide +kernel
theorem d_Z_readRun_120 : decode b_Z_readRun 120 = .ok (.getfield 158, 3) := by decide +kernel
theorem d_Z_readRun_123 : decode b_Z_readRun 123 = .ok (.ifCond .ge 25, 3) := by decide +kernel
theorem d_Z_readRun_126 : decode b_Z_readRun 126 = .ok (.iload_n 2, 1) := by decide +kernel
theorem d_Z_readRun_127 : decode b_Z_readRun 127 = .ok (.ifCond .le 21, 3) := by decide +kernel
theorem d_Z_readRun_130 : decode b_Z_readRun 130 = .ok (.aload_n 0, 1) := by decide +kernel
theorem d_Z_readRun_131 : decode b_Z_readRun 131 = .ok (.iload_n 1, 1) := by decide +kernel
theorem d_Z_readRun_132 : decode b_Z_readRun 132 = .ok (.iload_n 2, 1) := by decide +kernel
theorem d_Z_readRun_133 : decode b_Z_readRun 133 = .ok (.iconst 1, 1) := by decide +kernel
theorem d_Z_readRun_134 : decode b_Z_readRun 134 = .ok (.isub, 1) := by decide +kernel
theorem d_Z_readRun_135 : decode b_Z_readRun 135 = .ok (.iload_n 2, 1) := by decide +kernel
theorem d_Z_readRun_136 : decode b_Z_readRun 136 = .ok (.invokevirtual 149, 3) := by decide +kernel
theorem d_Z_readRun_139 : decode b_Z_readRun 139 = .ok (.ifCond .eq 9, 3) := by decide +kernel
theorem d_Z_readRun_142 : decode b_Z_readRun 142 = .ok (.aload_n 0, 1) := by decide +kernel
theorem d_Z_readRun_143 : decode b_Z_readRun 143 = .ok (.iload 4, 2) := by decide +kernel
theorem d_Z_readRun_145 : decode b_Z_readRun 145 = .ok (.invokevirtual 167, 3) := by decide +kernel
theorem d_Z_readRun_148 : decode b_Z_readRun 148 = .ok (.aload_n 0, 1) := by decide +kernel
theorem d_Z_readRun_149 : decode b_Z_readRun 149 = .ok (.sipush 512, 3) := by decide +kernel
theorem d_Z_readRun_152 : decode b_Z_readRun 152 = .ok (.aload_n 0, 1) := by decide +kernel
theorem d_Z_readRun_153 : decode b_Z_readRun 153 = .ok (.getfield 26, 3) := by decide +kernel
theorem d_Z_readRun_156 : decode b_Z_readRun 156 = .ok (.iload_n 1, 1) := by decide +kernel
theorem d_Z_readRun_157 : decode b_Z_readRun 157 = .ok (.iaload, 1) := by decide +kernel
theorem d_Z_readRun_158 : decode b_Z_readRun 158 = .ok (.isub, 1) := by decide +kernel
theorem d_Z_readRun_159 : decode b_Z_readRun 159 = .ok (.invokevirtual 170, 3) := by decide +kernel
theorem d_Z_readRun_162 : decode b_Z_readRun 162 = .ok (.istore 9, 2) := by decide +kernel
theorem d_Z_readRun_164 : decode b_Z_readRun 164 = .ok (.iload 9, 2) := by decide +kernel
theorem d_Z_readRun_166 : decode b_Z_readRun 166 = .ok (.ifCond .ne 11, 3) := by decide +kernel
theorem d_Z_readRun_169 : decode b_Z_readRun 169 = .ok (.aload_n 0, 1) := by decide +kernel
theorem d_Z_readRun_170 : decode b_Z_readRun 170 = .ok (.aload_n 0, 1) := by decide +kernel
theorem d_Z_readRun_171 : decode b_Z_readRun 171 = .ok (.getfield 164, 3) := by decide +kernel
theorem d_Z_readRun_174 : decode b_Z_readRun 174 = .ok (.invokevirtual 167, 3) := by decide +kernel
theorem d_Z_readRun_177 : decode b_Z_readRun 177 = .ok (.aload_n 0, 1) := by decide +kernel
theorem d_Z_readRun_178 : decode b_Z_readRun 178 = .ok (.getfield 57, 3) := by decide +kernel
theorem d_Z_readRun_181 : decode b_Z_readRun 181 = .ok (.iload 8, 2) := by decide +kernel
theorem d_Z_readRun_183 : decode b_Z_readRun 183 = .ok (.iload 9, 2) := by decide +kernel
theorem d_Z_readRun_185 : decode b_Z_readRun 185 = .ok (.i2s, 1) := by decide +kernel
theorem d_Z_readRun_186 : decode b_Z_readRun 186 = .ok (.sastore, 1) := by decide +kernel
theorem d_Z_readRun_187 : decode b_Z_readRun 187 = .ok (.iconst 0, 1) := by decide +kernel
theorem d_Z_readRun_188 : decode b_Z_readRun 188 = .ok (.istore 10, 2) := by decide +kernel
theorem d_Z_readRun_190 : decode b_Z_readRun 190 = .ok (.iload 10, 2) := by decide +kernel
theorem d_Z_readRun_192 : decode b_Z_readRun 192 = .ok (.iload 9, 2) := by decide +kernel
theorem d_Z_readRun_194 : decode b_Z_readRun 194 = .ok (.if_icmp .ge 116, 3) := by decide +kernel
theorem d_Z_readRun_197 : decode b_Z_readRun 197 = .ok (.aload_n 0, 1) := by decide +kernel
theorem d_Z_readRun_198 : decode b_Z_readRun 198 = .ok (.getfield 158, 3) := by decide +kernel
theorem d_Z_readRun_201 : decode b_Z_readRun 201 = .ok (.ifCond .ge 109, 3) := by decide +kernel
theorem d_Z_readRun_204 : decode b_Z_readRun 204 = .ok (.aload_n 0, 1) := by decide +kernel
theorem d_Z_readRun_205 : decode b_Z_readRun 205 = .ok (.getfield 161, 3) := by decide +kernel
theorem d_Z_readRun_208 : decode b_Z_readRun 208 = .ok (.aload_n 0, 1) := by decide +kernel
theorem d_Z_readRun_209 : decode b_Z_readRun 209 = .ok (.getfield 114, 3) := by decide +kernel
theorem d_Z_readRun_212 : decode b_Z_readRun 212 = .ok (.if_icmp .ge 19, 3) := by decide +kernel
theorem d_Z_readRun_215 : decode b_Z_readRun 215 = .ok (.aload_n 0, 1) := by decide +kernel
theorem d_Z_readRun_216 : decode b_Z_readRun 216 = .ok (.getfield 7, 3) := by decide +kernel
theorem d_Z_readRun_219 : decode b_Z_readRun 219 = .ok (.aload_n 0, 1) := by decide +kernel
theorem d_Z_readRun_220 : decode b_Z_readRun 220 = .ok (.getfield 161, 3) := by decide +kernel
theorem d_Z_readRun_223 : decode b_Z_readRun 223 = .ok (.baload, 1) := by decide +kernel
theorem d_Z_readRun_224 : decode b_Z_readRun 224 = .ok (.sipush 255, 3) := by decide +kernel
theorem d_Z_readRun_227 : decode b_Z_readRun 227 = .ok (.iand, 1) := by decide +kernel
theorem d_Z_readRun_228 : decode b_Z_readRun 228 = .ok (.goto 4, 3) := by decide +kernel
theorem d_Z_readRun_231 : decode b_Z_readRun 231 = .ok (.iconst 0, 1) := by decide +kernel
theorem d_Z_readRun_232 : decode b_Z_readRun 232 = .ok (.istore 11, 2) := by decide +kernel
theorem d_Z_readRun_234 : decode b_Z_readRun 234 = .ok (.iload_n 3, 1) := by decide +kernel
theorem d_Z_readRun_235 : decode b_Z_readRun 235 = .ok (.ifCond .ne 19, 3) := by decide +kernel
theorem d_Z_readRun_238 : decode b_Z_readRun 238 = .ok (.iload 11, 2) := by decide +kernel
theorem d_Z_readRun_240 : decode b_Z_readRun 240 = .ok (.invokestatic 107, 3) := by decide +kernel
theorem d_Z_readRun_243 : decode b_Z_readRun 243 = .ok (.ifCond .ne 11, 3) := by decide +kernel
theorem d_Z_readRun_246 : decode b_Z_readRun 246 = .ok (.aload_n 0, 1) := by decide +kernel
theorem d_Z_readRun_247 : decode b_Z_readRun 247 = .ok (.aload_n 0, 1) := by decide +kernel
theorem d_Z_readRun_248 : decode b_Z_readRun 248 = .ok (.getfield 161, 3) := by decide +kernel
theorem d_Z_readRun_251 : decode b_Z_readRun 251 = .ok (.invokevirtual 167, 3) := by decide +kernel
theorem d_Z_readRun_254 : decode b_Z_readRun 254 = .ok (.aload_n 0, 1) := by decide +kernel
theorem d_Z_readRun_255 : decode b_Z_readRun 255 = .ok (.getfield 60, 3) := by decide +kernel
theorem d_Z_readRun_258 : decode b_Z_readRun 258 = .ok (.sipush 512, 3) := by decide +kernel
theorem d_Z_readRun_261 : decode b_Z_readRun 261 = .ok (.iload_n 1, 1) := by decide +kernel
theorem d_Z_readRun_262 : decode b_Z_readRun 262 = .ok (.imul, 1) := by decide +kernel
theorem d_Z_readRun_263 : decode b_Z_readRun 263 = .ok (.aload_n 0, 1) := by decide +kernel
theorem d_Z_readRun_264 : decode b_Z_readRun 264 = .ok (.getfield 26, 3) := by decide +kernel
theorem d_Z_readRun_267 : decode b_Z_readRun 267 = .ok (.iload_n 1, 1) := by decide +kernel
theorem d_Z_readRun_268 : decode b_Z_readRun 268 = .ok (.iaload, 1) := by decide +kernel
theorem d_Z_readRun_269 : decode b_Z_readRun 269 = .ok (.iadd, 1) := by decide +kernel
theorem d_Z_readRun_270 : decode b_Z_readRun 270 = .ok (.iload 10, 2) := by decide +kernel
theorem d_Z_readRun_272 : decode b_Z_readRun 272 = .ok (.iadd, 1) := by decide +kernel
theorem d_Z_readRun_273 : decode b_Z_readRun 273 = .ok (.iload_n 3, 1) := by decide +kernel
theorem d_Z_readRun_274 : decode b_Z_readRun 274 = .ok (.ifCond .ne 8, 3) := by decide +kernel
theorem d_Z_readRun_277 : decode b_Z_readRun 277 = .ok (.iload 11, 2) := by decide +kernel
theorem d_Z_readRun_279 : decode b_Z_readRun 279 = .ok (.goto 5, 3) := by decide +kernel
theorem d_Z_readRun_282 : decode b_Z_readRun 282 = .ok (.bipush 10, 2) := by decide +kernel
theorem d_Z_readRun_284 : decode b_Z_readRun 284 = .ok (.i2s, 1) := by decide +kernel
theorem d_Z_readRun_285 : decode b_Z_readRun 285 = .ok (.sastore, 1) := by decide +kernel
theorem d_Z_readRun_286 : decode b_Z_readRun 286 = .ok (.aload_n 0, 1) := by decide +kernel
theorem d_Z_readRun_287 : decode b_Z_readRun 287 = .ok (.dup, 1) := by decide +kernel
theorem d_Z_readRun_288 : decode b_Z_readRun 288 = .ok (.getfield 161, 3) := by decide +kernel
theorem d_Z_readRun_291 : decode b_Z_readRun 291 = .ok (.iload_n 3, 1) := by decide +kernel
theorem d_Z_readRun_292 : decode b_Z_readRun 292 = .ok (.ifCond .ne 7, 3) := by decide +kernel
theorem d_Z_readRun_295 : decode b_Z_readRun 295 = .ok (.iconst 1, 1) := by decide +kernel
theorem d_Z_readRun_296 : decode b_Z_readRun 296 = .ok (.goto 4, 3) := by decide +kernel
theorem d_Z_readRun_299 : decode b_Z_readRun 299 = .ok (.iconst 0, 1) := by decide +kernel
theorem d_Z_readRun_300 : decode b_Z_readRun 300 = .ok (.iadd, 1) := by decide +kernel
theorem d_Z_readRun_301 : decode b_Z_readRun 301 = .ok (.putfield 161, 3) := by decide +kernel
theorem d_Z_readRun_304 : decode b_Z_readRun 304 = .ok (.iinc 10 1, 3) := by decide +kernel
theorem d_Z_readRun_307 : decode b_Z_readRun 307 = .ok (.goto (-117), 3) := by decide +kernel
theorem d_Z_readRun_310 : decode b_Z_readRun 310 = .ok (.aload_n 0, 1) := by decide +kernel
theorem d_Z_readRun_311 : decode b_Z_readRun 311 = .ok (.getfield 26, 3) := by decide +kernel
theorem d_Z_readRun_314 : decode b_Z_readRun 314 = .ok (.iload_n 1, 1) := by decide +kernel
theorem d_Z_readRun_315 : decode b_Z_readRun 315 = .ok (.dup2, 1) := by decide +kernel
theorem d_Z_readRun_316 : decode b_Z_readRun 316 = .ok (.iaload, 1) := by decide +kernel
theorem d_Z_readRun_317 : decode b_Z_readRun 317 = .ok (.iload 9, 2) := by decide +kernel
theorem d_Z_readRun_319 : decode b_Z_readRun 319 = .ok (.iadd, 1) := by decide +kernel
theorem d_Z_readRun_320 : decode b_Z_readRun 320 = .ok (.iastore, 1) := by decide +kernel
theorem d_Z_readRun_321 : decode b_Z_readRun 321 = .ok (.return_, 1) := by decide +kernel
theorem d_Z_open_0 : decode b_Z_open 0 = .ok (.iconst 1, 1) := by decide +kernel
theorem d_Z_open_1 : decode b_Z_open 1 = .ok (.aload_n 0, 1) := by decide +kernel
theorem d_Z_open_2 : decode b_Z_open 2 = .ok (.getfield 74, 3) := by decide +kernel
theorem d_Z_open_5 : decode b_Z_open 5 = .ok (.isub, 1) := by decide +kernel
theorem d_Z_open_6 : decode b_Z_open 6 = .ok (.istore_n 1, 1) := by decide +kernel
theorem d_Z_open_7 : decode b_Z_open 7 = .ok (.aload_n 0, 1) := by decide +kernel
theorem d_Z_open_8 : decode b_Z_open 8 = .ok (.iload_n 1, 1) := by decide +kernel
theorem d_Z_open_9 : decode b_Z_open 9 = .ok (.invokevirtual 82, 3) := by decide +kernel
theorem d_Z_open_12 : decode b_Z_open 12 = .ok (.aload_n 0, 1) := by decide +kernel
theorem d_Z_open_13 : decode b_Z_open 13 = .ok (.iconst 0, 1) := by decide +kernel
theorem d_Z_open_14 : decode b_Z_open 14 = .ok (.putfield 161, 3) := by decide +kernel
theorem d_Z_open_17 : decode b_Z_open 17 = .ok (.aload_n 0, 1) := by decide +kernel
theorem d_Z_open_18 : decode b_Z_open 18 = .ok (.iconst (-1), 1) := by decide +kernel
theorem d_Z_open_19 : decode b_Z_open 19 = .ok (.putfield 158, 3) := by decide +kernel
theorem d_Z_open_22 : decode b_Z_open 22 = .ok (.aload_n 0, 1) := by decide +kernel
theorem d_Z_open_23 : decode b_Z_open 23 = .ok (.bipush 77, 2) := by decide +kernel
theorem d_Z_open_25 : decode b_Z_open 25 = .ok (.invokevirtual 182, 3) := by decide +kernel
theorem d_Z_open_28 : decode b_Z_open 28 = .ok (.aload_n 0, 1) := by decide +kernel
theorem d_Z_open_29 : decode b_Z_open 29 = .ok (.bipush 83, 2) := by decide +kernel
theorem d_Z_open_31 : decode b_Z_open 31 = .ok (.invokevirtual 182, 3) := by decide +kernel
theorem d_Z_open_34 : decode b_Z_open 34 = .ok (.aload_n 0, 1) := by decide +kernel
theorem d_Z_open_35 : decode b_Z_open 35 = .ok (.iconst 1, 1) := by decide +kernel
theorem d_Z_open_36 : decode b_Z_open 36 = .ok (.invokevirtual 182, 3) := by decide +kernel
theorem d_Z_open_39 : decode b_Z_open 39 = .ok (.aload_n 0, 1) := by decide +kernel
theorem d_Z_open_40 : decode b_Z_open 40 = .ok (.iload_n 1, 1) := by decide +kernel
theorem d_Z_open_41 : decode b_Z_open 41 = .ok (.invokevirtual 185, 3) := by decide +kernel
theorem d_Z_open_44 : decode b_Z_open 44 = .ok (.aload_n 0, 1) := by decide +kernel
theorem d_Z_open_45 : decode b_Z_open 45 = .ok (.bipush 40, 2) := by decide +kernel
theorem d_Z_open_47 : decode b_Z_open 47 = .ok (.invokevirtual 170, 3) := by decide +kernel
theorem d_Z_open_50 : decode b_Z_open 50 = .ok (.istore_n 2, 1) := by decide +kernel
theorem d_Z_open_51 : decode b_Z_open 51 = .ok (.iconst 0, 1) := by decide +kernel
theorem d_Z_open_52 : decode b_Z_open 52 = .ok (.istore_n 3, 1) := by decide +kernel
theorem d_Z_open_53 : decode b_Z_open 53 = .ok (.iload_n 3, 1) := by decide +kernel
theorem d_Z_open_54 : decode b_Z_open 54 = .ok (.iload_n 2, 1) := by decide +kernel
theorem d_Z_open_55 : decode b_Z_open 55 = .ok (.if_icmp .ge 32, 3) := by decide +kernel
theorem d_Z_open_58 : decode b_Z_open 58 = .ok (.aload_n 0, 1) := by decide +kernel
theorem d_Z_open_59 : decode b_Z_open 59 = .ok (.getfield 158, 3) := by decide +kernel
theorem d_Z_open_62 : decode b_Z_open 62 = .ok (.ifCond .ge 25, 3) := by decide +kernel
theorem d_Z_open_65 : decode b_Z_open 65 = .ok (.aload_n 0, 1) := by decide +kernel
theorem d_Z_open_66 : decode b_Z_open 66 = .ok (.iload_n 1, 1) := by decide +kernel
theorem d_Z_open_67 : decode b_Z_open 67 = .ok (.iload_n 3, 1) := by decide +kernel
theorem d_Z_open_68 : decode b_Z_open 68 = .ok (.invokevirtual 188, 3) := by decide +kernel
theorem d_Z_open_71 : decode b_Z_open 71 = .ok (.aload_n 0, 1) := by decide +kernel
theorem d_Z_open_72 : decode b_Z_open 72 = .ok (.getfield 23, 3) := by decide +kernel
theorem d_Z_open_75 : decode b_Z_open 75 = .ok (.iload_n 1, 1) := by decide +kernel
theorem d_Z_open_76 : decode b_Z_open 76 = .ok (.dup2, 1) := by decide +kernel
theorem d_Z_open_77 : decode b_Z_open 77 = .ok (.iaload, 1) := by decide +kernel
theorem d_Z_open_78 : decode b_Z_open 78 = .ok (.iconst 1, 1) := by decide +kernel
theorem d_Z_open_79 : decode b_Z_open 79 = .ok (.iadd, 1) := by decide +kernel
theorem d_Z_open_80 : decode b_Z_open 80 = .ok (.iastore, 1) := by decide +kernel
theorem d_Z_open_81 : decode b_Z_open 81 = .ok (.iinc 3 1, 3) := by decide +kernel
theorem d_Z_open_84 : decode b_Z_open 84 = .ok (.goto (-31), 3) := by decide +kernel
theorem d_Z_open_87 : decode b_Z_open 87 = .ok (.aload_n 0, 1) := by decide +kernel
theorem d_Z_open_88 : decode b_Z_open 88 = .ok (.getfield 161, 3) := by decide +kernel
theorem d_Z_open_91 : decode b_Z_open 91 = .ok (.aload_n 0, 1) := by decide +kernel
theorem d_Z_open_92 : decode b_Z_open 92 = .ok (.getfield 114, 3) := by decide +kernel
theorem d_Z_open_95 : decode b_Z_open 95 = .ok (.if_icmp .ge 11, 3) := by decide +kernel
theorem d_Z_open_98 : decode b_Z_open 98 = .ok (.aload_n 0, 1) := by decide +kernel
theorem d_Z_open_99 : decode b_Z_open 99 = .ok (.aload_n 0, 1) := by decide +kernel
theorem d_Z_open_100 : decode b_Z_open 100 = .ok (.getfield 161, 3) := by decide +kernel
theorem d_Z_open_103 : decode b_Z_open 103 = .ok (.invokevirtual 167, 3) := by decide +kernel
theorem d_Z_open_106 : decode b_Z_open 106 = .ok (.aload_n 0, 1) := by decide +kernel
theorem d_Z_open_107 : decode b_Z_open 107 = .ok (.getfield 158, 3) := by decide +kernel
theorem d_Z_open_110 : decode b_Z_open 110 = .ok (.ifCond .ge 8, 3) := by decide +kernel
theorem d_Z_open_113 : decode b_Z_open 113 = .ok (.aload_n 0, 1) := by decide +kernel
theorem d_Z_open_114 : decode b_Z_open 114 = .ok (.iload_n 1, 1) := by decide +kernel
theorem d_Z_open_115 : decode b_Z_open 115 = .ok (.putfield 74, 3) := by decide +kernel
theorem d_Z_open_118 : decode b_Z_open 118 = .ok (.aload_n 0, 1) := by decide +kernel
theorem d_Z_open_119 : decode b_Z_open 119 = .ok (.getfield 158, 3) := by decide +kernel
theorem d_Z_open_122 : decode b_Z_open 122 = .ok (.iconst 1, 1) := by decide +kernel
theorem d_Z_open_123 : decode b_Z_open 123 = .ok (.iadd, 1) := by decide +kernel
theorem d_Z_open_124 : decode b_Z_open 124 = .ok (.ireturn, 1) := by decide +kernel
theorem d_Z_octet_0 : decode b_Z_octet 0 = .ok (.iload_n 1, 1) := by decide +kernel
theorem d_Z_octet_1 : decode b_Z_octet 1 = .ok (.iconst 0, 1) := by decide +kernel
theorem d_Z_octet_2 : decode b_Z_octet 2 = .ok (.aload_n 0, 1) := by decide +kernel
theorem d_Z_octet_3 : decode b_Z_octet 3 = .ok (.getfield 114, 3) := by decide +kernel
theorem d_Z_octet_6 : decode b_Z_octet 6 = .ok (.iconst 1, 1) := by decide +kernel
theorem d_Z_octet_7 : decode b_Z_octet 7 = .ok (.isub, 1) := by decide +kernel
theorem d_Z_octet_8 : decode b_Z_octet 8 = .ok (.invokestatic 70, 3) := by decide +kernel
theorem d_Z_octet_11 : decode b_Z_octet 11 = .ok (.ifCond .eq 16, 3) := by decide +kernel
theorem d_Z_octet_14 : decode b_Z_octet 14 = .ok (.aload_n 0, 1) := by decide +kernel
theorem d_Z_octet_15 : decode b_Z_octet 15 = .ok (.getfield 7, 3) := by decide +kernel
theorem d_Z_octet_18 : decode b_Z_octet 18 = .ok (.iload_n 1, 1) := by decide +kernel
theorem d_Z_octet_19 : decode b_Z_octet 19 = .ok (.baload, 1) := by decide +kernel
theorem d_Z_octet_20 : decode b_Z_octet 20 = .ok (.sipush 255, 3) := by decide +kernel
theorem d_Z_octet_23 : decode b_Z_octet 23 = .ok (.iand, 1) := by decide +kernel
theorem d_Z_octet_24 : decode b_Z_octet 24 = .ok (.goto 4, 3) := by decide +kernel
theorem d_Z_octet_27 : decode b_Z_octet 27 = .ok (.iconst (-1), 1) := by decide +kernel
theorem d_Z_octet_28 : decode b_Z_octet 28 = .ok (.ireturn, 1) := by decide +kernel
theorem d_Z_alter_0 : decode b_Z_alter 0 = .ok (.iload_n 1, 1) := by decide +kernel
theorem d_Z_alter_1 : decode b_Z_alter 1 = .ok (.iconst 0, 1) := by decide +kernel
theorem d_Z_alter_2 : decode b_Z_alter 2 = .ok (.aload_n 0, 1) := by decide +kernel
theorem d_Z_alter_3 : decode b_Z_alter 3 = .ok (.getfield 114, 3) := by decide +kernel
theorem d_Z_alter_6 : decode b_Z_alter 6 = .ok (.invokestatic 70, 3) := by decide +kernel
theorem d_Z_alter_9 : decode b_Z_alter 9 = .ok (.ifCond .eq 10, 3) := by decide +kernel
theorem d_Z_alter_12 : decode b_Z_alter 12 = .ok (.iload_n 1, 1) := by decide +kernel
theorem d_Z_alter_13 : decode b_Z_alter 13 = .ok (.sipush 6000, 3) := by decide +kernel
theorem d_Z_alter_16 : decode b_Z_alter 16 = .ok (.if_icmp .ne 5, 3) := by decide +kernel
theorem d_Z_alter_19 : decode b_Z_alter 19 = .ok (.iconst 0, 1) := by decide +kernel
theorem d_Z_alter_20 : decode b_Z_alter 20 = .ok (.ireturn, 1) := by decide +kernel
theorem d_Z_alter_21 : decode b_Z_alter 21 = .ok (.aload_n 0, 1) := by decide +kernel
theorem d_Z_alter_22 : decode b_Z_alter 22 = .ok (.getfield 7, 3) := by decide +kernel
theorem d_Z_alter_25 : decode b_Z_alter 25 = .ok (.iload_n 1, 1) := by decide +kernel
theorem d_Z_alter_26 : decode b_Z_alter 26 = .ok (.iload_n 2, 1) := by decide +kernel
theorem d_Z_alter_27 : decode b_Z_alter 27 = .ok (.i2b, 1) := by decide +kernel
theorem d_Z_alter_28 : decode b_Z_alter 28 = .ok (.bastore, 1) := by decide +kernel
theorem d_Z_alter_29 : decode b_Z_alter 29 = .ok (.aload_n 0, 1) := by decide +kernel
theorem d_Z_alter_30 : decode b_Z_alter 30 = .ok (.iload_n 1, 1) := by decide +kernel
theorem d_Z_alter_31 : decode b_Z_alter 31 = .ok (.aload_n 0, 1) := by decide +kernel
theorem d_Z_alter_32 : decode b_Z_alter 32 = .ok (.getfield 114, 3) := by decide +kernel
theorem d_Z_alter_35 : decode b_Z_alter 35 = .ok (.if_icmp .ne 12, 3) := by decide +kernel
theorem d_Z_alter_38 : decode b_Z_alter 38 = .ok (.aload_n 0, 1) := by decide +kernel
theorem d_Z_alter_39 : decode b_Z_alter 39 = .ok (.getfield 114, 3) := by decide +kernel
theorem d_Z_alter_42 : decode b_Z_alter 42 = .ok (.iconst 1, 1) := by decide +kernel
theorem d_Z_alter_43 : decode b_Z_alter 43 = .ok (.iadd, 1) := by decide +kernel
theorem d_Z_alter_44 : decode b_Z_alter 44 = .ok (.goto 7, 3) := by decide +kernel
theorem d_Z_alter_47 : decode b_Z_alter 47 = .ok (.aload_n 0, 1) := by decide +kernel
theorem d_Z_alter_48 : decode b_Z_alter 48 = .ok (.getfield 114, 3) := by decide +kernel
theorem d_Z_alter_51 : decode b_Z_alter 51 = .ok (.putfield 114, 3) := by decide +kernel
theorem d_Z_alter_54 : decode b_Z_alter 54 = .ok (.iconst 1, 1) := by decide +kernel
theorem d_Z_alter_55 : decode b_Z_alter 55 = .ok (.ireturn, 1) := by decide +kernel
theorem d_Z_cut_0 : decode b_Z_cut 0 = .ok (.iload_n 1, 1) := by decide +kernel
theorem d_Z_cut_1 : decode b_Z_cut 1 = .ok (.iconst 0, 1) := by decide +kernel
theorem d_Z_cut_2 : decode b_Z_cut 2 = .ok (.aload_n 0, 1) := by decide +kernel
theorem d_Z_cut_3 : decode b_Z_cut 3 = .ok (.getfield 114, 3) := by decide +kernel
theorem d_Z_cut_6 : decode b_Z_cut 6 = .ok (.invokestatic 70, 3) := by decide +kernel
theorem d_Z_cut_9 : decode b_Z_cut 9 = .ok (.ifCond .ne 5, 3) := by decide +kernel
theorem d_Z_cut_12 : decode b_Z_cut 12 = .ok (.iconst 0, 1) := by decide +kernel
theorem d_Z_cut_13 : decode b_Z_cut 13 = .ok (.ireturn, 1) := by decide +kernel
theorem d_Z_cut_14 : decode b_Z_cut 14 = .ok (.aload_n 0, 1) := by decide +kernel
theorem d_Z_cut_15 : decode b_Z_cut 15 = .ok (.iload_n 1, 1) := by decide +kernel
theorem d_Z_cut_16 : decode b_Z_cut 16 = .ok (.putfield 114, 3) := by decide +kernel
theorem d_Z_cut_19 : decode b_Z_cut 19 = .ok (.iconst 1, 1) := by decide +kernel
theorem d_Z_cut_20 : decode b_Z_cut 20 = .ok (.ireturn, 1) := by decide +kernel
