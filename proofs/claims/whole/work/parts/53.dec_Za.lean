theorem d_Z_init_0 : decode b_Z_init 0 = .ok (.aload_n 0, 1) := by decide +kernel
theorem d_Z_init_1 : decode b_Z_init 1 = .ok (.invokespecial 1, 3) := by decide +kernel
theorem d_Z_init_4 : decode b_Z_init 4 = .ok (.aload_n 0, 1) := by decide +kernel
theorem d_Z_init_5 : decode b_Z_init 5 = .ok (.sipush 6000, 3) := by decide +kernel
theorem d_Z_init_8 : decode b_Z_init 8 = .ok (.newarray .byte, 2) := by decide +kernel
theorem d_Z_init_10 : decode b_Z_init 10 = .ok (.putfield 7, 3) := by decide +kernel
theorem d_Z_init_13 : decode b_Z_init 13 = .ok (.aload_n 0, 1) := by decide +kernel
theorem d_Z_init_14 : decode b_Z_init 14 = .ok (.iconst 2, 1) := by decide +kernel
theorem d_Z_init_15 : decode b_Z_init 15 = .ok (.newarray .int, 2) := by decide +kernel
theorem d_Z_init_17 : decode b_Z_init 17 = .ok (.putfield 13, 3) := by decide +kernel
theorem d_Z_init_20 : decode b_Z_init 20 = .ok (.aload_n 0, 1) := by decide +kernel
theorem d_Z_init_21 : decode b_Z_init 21 = .ok (.iconst 2, 1) := by decide +kernel
theorem d_Z_init_22 : decode b_Z_init 22 = .ok (.newarray .int, 2) := by decide +kernel
theorem d_Z_init_24 : decode b_Z_init 24 = .ok (.putfield 17, 3) := by decide +kernel
theorem d_Z_init_27 : decode b_Z_init 27 = .ok (.aload_n 0, 1) := by decide +kernel
theorem d_Z_init_28 : decode b_Z_init 28 = .ok (.iconst 2, 1) := by decide +kernel
theorem d_Z_init_29 : decode b_Z_init 29 = .ok (.newarray .int, 2) := by decide +kernel
theorem d_Z_init_31 : decode b_Z_init 31 = .ok (.putfield 20, 3) := by decide +kernel
theorem d_Z_init_34 : decode b_Z_init 34 = .ok (.aload_n 0, 1) := by decide +kernel
theorem d_Z_init_35 : decode b_Z_init 35 = .ok (.iconst 2, 1) := by decide +kernel
theorem d_Z_init_36 : decode b_Z_init 36 = .ok (.newarray .int, 2) := by decide +kernel
theorem d_Z_init_38 : decode b_Z_init 38 = .ok (.putfield 23, 3) := by decide +kernel
theorem d_Z_init_41 : decode b_Z_init 41 = .ok (.aload_n 0, 1) := by decide +kernel
theorem d_Z_init_42 : decode b_Z_init 42 = .ok (.iconst 2, 1) := by decide +kernel
theorem d_Z_init_43 : decode b_Z_init 43 = .ok (.newarray .int, 2) := by decide +kernel
theorem d_Z_init_45 : decode b_Z_init 45 = .ok (.putfield 26, 3) := by decide +kernel
theorem d_Z_init_48 : decode b_Z_init 48 = .ok (.aload_n 0, 1) := by decide +kernel
theorem d_Z_init_49 : decode b_Z_init 49 = .ok (.bipush 32, 2) := by decide +kernel
theorem d_Z_init_51 : decode b_Z_init 51 = .ok (.newarray .int, 2) := by decide +kernel
theorem d_Z_init_53 : decode b_Z_init 53 = .ok (.putfield 29, 3) := by decide +kernel
theorem d_Z_init_56 : decode b_Z_init 56 = .ok (.aload_n 0, 1) := by decide +kernel
theorem d_Z_init_57 : decode b_Z_init 57 = .ok (.sipush 1920, 3) := by decide +kernel
theorem d_Z_init_60 : decode b_Z_init 60 = .ok (.newarray .int, 2) := by decide +kernel
theorem d_Z_init_62 : decode b_Z_init 62 = .ok (.putfield 32, 3) := by decide +kernel
theorem d_Z_init_65 : decode b_Z_init 65 = .ok (.aload_n 0, 1) := by decide +kernel
theorem d_Z_init_66 : decode b_Z_init 66 = .ok (.bipush 48, 2) := by decide +kernel
theorem d_Z_init_68 : decode b_Z_init 68 = .ok (.newarray .short, 2) := by decide +kernel
theorem d_Z_init_70 : decode b_Z_init 70 = .ok (.putfield 35, 3) := by decide +kernel
theorem d_Z_init_73 : decode b_Z_init 73 = .ok (.aload_n 0, 1) := by decide +kernel
theorem d_Z_init_74 : decode b_Z_init 74 = .ok (.bipush 48, 2) := by decide +kernel
theorem d_Z_init_76 : decode b_Z_init 76 = .ok (.newarray .short, 2) := by decide +kernel
theorem d_Z_init_78 : decode b_Z_init 78 = .ok (.putfield 39, 3) := by decide +kernel
theorem d_Z_init_81 : decode b_Z_init 81 = .ok (.aload_n 0, 1) := by decide +kernel
theorem d_Z_init_82 : decode b_Z_init 82 = .ok (.bipush 48, 2) := by decide +kernel
theorem d_Z_init_84 : decode b_Z_init 84 = .ok (.newarray .short, 2) := by decide +kernel
theorem d_Z_init_86 : decode b_Z_init 86 = .ok (.putfield 42, 3) := by decide +kernel
theorem d_Z_init_89 : decode b_Z_init 89 = .ok (.aload_n 0, 1) := by decide +kernel
theorem d_Z_init_90 : decode b_Z_init 90 = .ok (.bipush 80, 2) := by decide +kernel
theorem d_Z_init_92 : decode b_Z_init 92 = .ok (.newarray .short, 2) := by decide +kernel
theorem d_Z_init_94 : decode b_Z_init 94 = .ok (.putfield 45, 3) := by decide +kernel
theorem d_Z_init_97 : decode b_Z_init 97 = .ok (.aload_n 0, 1) := by decide +kernel
theorem d_Z_init_98 : decode b_Z_init 98 = .ok (.bipush 80, 2) := by decide +kernel
theorem d_Z_init_100 : decode b_Z_init 100 = .ok (.newarray .short, 2) := by decide +kernel
theorem d_Z_init_102 : decode b_Z_init 102 = .ok (.putfield 48, 3) := by decide +kernel
theorem d_Z_init_105 : decode b_Z_init 105 = .ok (.aload_n 0, 1) := by decide +kernel
theorem d_Z_init_106 : decode b_Z_init 106 = .ok (.bipush 80, 2) := by decide +kernel
theorem d_Z_init_108 : decode b_Z_init 108 = .ok (.newarray .short, 2) := by decide +kernel
theorem d_Z_init_110 : decode b_Z_init 110 = .ok (.putfield 51, 3) := by decide +kernel
theorem d_Z_init_113 : decode b_Z_init 113 = .ok (.aload_n 0, 1) := by decide +kernel
theorem d_Z_init_114 : decode b_Z_init 114 = .ok (.bipush 80, 2) := by decide +kernel
theorem d_Z_init_116 : decode b_Z_init 116 = .ok (.newarray .short, 2) := by decide +kernel
theorem d_Z_init_118 : decode b_Z_init 118 = .ok (.putfield 54, 3) := by decide +kernel
theorem d_Z_init_121 : decode b_Z_init 121 = .ok (.aload_n 0, 1) := by decide +kernel
theorem d_Z_init_122 : decode b_Z_init 122 = .ok (.bipush 80, 2) := by decide +kernel
theorem d_Z_init_124 : decode b_Z_init 124 = .ok (.newarray .short, 2) := by decide +kernel
theorem d_Z_init_126 : decode b_Z_init 126 = .ok (.putfield 57, 3) := by decide +kernel
theorem d_Z_init_129 : decode b_Z_init 129 = .ok (.aload_n 0, 1) := by decide +kernel
theorem d_Z_init_130 : decode b_Z_init 130 = .ok (.sipush 1024, 3) := by decide +kernel
theorem d_Z_init_133 : decode b_Z_init 133 = .ok (.newarray .short, 2) := by decide +kernel
theorem d_Z_init_135 : decode b_Z_init 135 = .ok (.putfield 60, 3) := by decide +kernel
theorem d_Z_init_138 : decode b_Z_init 138 = .ok (.aload_n 0, 1) := by decide +kernel
theorem d_Z_init_139 : decode b_Z_init 139 = .ok (.bipush 24, 2) := by decide +kernel
theorem d_Z_init_141 : decode b_Z_init 141 = .ok (.newarray .int, 2) := by decide +kernel
theorem d_Z_init_143 : decode b_Z_init 143 = .ok (.putfield 63, 3) := by decide +kernel
theorem d_Z_init_146 : decode b_Z_init 146 = .ok (.aload_n 0, 1) := by decide +kernel
theorem d_Z_init_147 : decode b_Z_init 147 = .ok (.bipush 24, 2) := by decide +kernel
theorem d_Z_init_149 : decode b_Z_init 149 = .ok (.newarray .int, 2) := by decide +kernel
theorem d_Z_init_151 : decode b_Z_init 151 = .ok (.putfield 66, 3) := by decide +kernel
theorem d_Z_init_154 : decode b_Z_init 154 = .ok (.return_, 1) := by decide +kernel
theorem d_Z_in_0 : decode b_Z_in 0 = .ok (.iload_n 0, 1) := by decide +kernel
theorem d_Z_in_1 : decode b_Z_in 1 = .ok (.iload_n 1, 1) := by decide +kernel
theorem d_Z_in_2 : decode b_Z_in 2 = .ok (.if_icmp .lt 12, 3) := by decide +kernel
theorem d_Z_in_5 : decode b_Z_in 5 = .ok (.iload_n 0, 1) := by decide +kernel
theorem d_Z_in_6 : decode b_Z_in 6 = .ok (.iload_n 2, 1) := by decide +kernel
theorem d_Z_in_7 : decode b_Z_in 7 = .ok (.if_icmp .gt 7, 3) := by decide +kernel
theorem d_Z_in_10 : decode b_Z_in 10 = .ok (.iconst 1, 1) := by decide +kernel
theorem d_Z_in_11 : decode b_Z_in 11 = .ok (.goto 4, 3) := by decide +kernel
theorem d_Z_in_14 : decode b_Z_in 14 = .ok (.iconst 0, 1) := by decide +kernel
theorem d_Z_in_15 : decode b_Z_in 15 = .ok (.ireturn, 1) := by decide +kernel
theorem d_Z_most_0 : decode b_Z_most 0 = .ok (.iload_n 0, 1) := by decide +kernel
theorem d_Z_most_1 : decode b_Z_most 1 = .ok (.bipush 8, 2) := by decide +kernel
theorem d_Z_most_3 : decode b_Z_most 3 = .ok (.if_icmp .ge 7, 3) := by decide +kernel
theorem d_Z_most_6 : decode b_Z_most 6 = .ok (.iconst 1, 1) := by decide +kernel
theorem d_Z_most_7 : decode b_Z_most 7 = .ok (.goto 17, 3) := by decide +kernel
theorem d_Z_most_10 : decode b_Z_most 10 = .ok (.iload_n 0, 1) := by decide +kernel
theorem d_Z_most_11 : decode b_Z_most 11 = .ok (.bipush 16, 2) := by decide +kernel
theorem d_Z_most_13 : decode b_Z_most 13 = .ok (.if_icmp .ge 9, 3) := by decide +kernel
theorem d_Z_most_16 : decode b_Z_most 16 = .ok (.sipush 255, 3) := by decide +kernel
theorem d_Z_most_19 : decode b_Z_most 19 = .ok (.goto 5, 3) := by decide +kernel
theorem d_Z_most_22 : decode b_Z_most 22 = .ok (.ldc 69, 2) := by decide +kernel
theorem d_Z_most_24 : decode b_Z_most 24 = .ok (.ireturn, 1) := by decide +kernel
theorem d_Z_isText_0 : decode b_Z_isText 0 = .ok (.iload_n 0, 1) := by decide +kernel
theorem d_Z_isText_1 : decode b_Z_isText 1 = .ok (.bipush 9, 2) := by decide +kernel
theorem d_Z_isText_3 : decode b_Z_isText 3 = .ok (.if_icmp .eq 33, 3) := by decide +kernel
theorem d_Z_isText_6 : decode b_Z_isText 6 = .ok (.iload_n 0, 1) := by decide +kernel
theorem d_Z_isText_7 : decode b_Z_isText 7 = .ok (.bipush 12, 2) := by decide +kernel
theorem d_Z_isText_9 : decode b_Z_isText 9 = .ok (.if_icmp .eq 27, 3) := by decide +kernel
theorem d_Z_isText_12 : decode b_Z_isText 12 = .ok (.iload_n 0, 1) := by decide +kernel
theorem d_Z_isText_13 : decode b_Z_isText 13 = .ok (.bipush 32, 2) := by decide +kernel
theorem d_Z_isText_15 : decode b_Z_isText 15 = .ok (.bipush 126, 2) := by decide +kernel
theorem d_Z_isText_17 : decode b_Z_isText 17 = .ok (.invokestatic 70, 3) := by decide +kernel
theorem d_Z_isText_20 : decode b_Z_isText 20 = .ok (.ifCond .ne 16, 3) := by decide +kernel
theorem d_Z_isText_23 : decode b_Z_isText 23 = .ok (.iload_n 0, 1) := by decide +kernel
theorem d_Z_isText_24 : decode b_Z_isText 24 = .ok (.sipush 160, 3) := by decide +kernel
theorem d_Z_isText_27 : decode b_Z_isText 27 = .ok (.sipush 255, 3) := by decide +kernel
theorem d_Z_isText_30 : decode b_Z_isText 30 = .ok (.invokestatic 70, 3) := by decide +kernel
theorem d_Z_isText_33 : decode b_Z_isText 33 = .ok (.ifCond .eq 7, 3) := by decide +kernel
theorem d_Z_isText_36 : decode b_Z_isText 36 = .ok (.iconst 1, 1) := by decide +kernel
theorem d_Z_isText_37 : decode b_Z_isText 37 = .ok (.goto 4, 3) := by decide +kernel
theorem d_Z_isText_40 : decode b_Z_isText 40 = .ok (.iconst 0, 1) := by decide +kernel
theorem d_Z_isText_41 : decode b_Z_isText 41 = .ok (.ireturn, 1) := by decide +kernel
theorem d_Z_isSet_0 : decode b_Z_isSet 0 = .ok (.iload_n 1, 1) := by decide +kernel
theorem d_Z_isSet_1 : decode b_Z_isSet 1 = .ok (.iconst 0, 1) := by decide +kernel
theorem d_Z_isSet_2 : decode b_Z_isSet 2 = .ok (.aload_n 0, 1) := by decide +kernel
theorem d_Z_isSet_3 : decode b_Z_isSet 3 = .ok (.getfield 17, 3) := by decide +kernel
theorem d_Z_isSet_6 : decode b_Z_isSet 6 = .ok (.aload_n 0, 1) := by decide +kernel
theorem d_Z_isSet_7 : decode b_Z_isSet 7 = .ok (.getfield 74, 3) := by decide +kernel
theorem d_Z_isSet_10 : decode b_Z_isSet 10 = .ok (.iaload, 1) := by decide +kernel
theorem d_Z_isSet_11 : decode b_Z_isSet 11 = .ok (.iconst 1, 1) := by decide +kernel
theorem d_Z_isSet_12 : decode b_Z_isSet 12 = .ok (.isub, 1) := by decide +kernel
theorem d_Z_isSet_13 : decode b_Z_isSet 13 = .ok (.invokestatic 70, 3) := by decide +kernel
theorem d_Z_isSet_16 : decode b_Z_isSet 16 = .ok (.ireturn, 1) := by decide +kernel
theorem d_Z_isMark_0 : decode b_Z_isMark 0 = .ok (.iload_n 1, 1) := by decide +kernel
theorem d_Z_isMark_1 : decode b_Z_isMark 1 = .ok (.iconst 0, 1) := by decide +kernel
theorem d_Z_isMark_2 : decode b_Z_isMark 2 = .ok (.aload_n 0, 1) := by decide +kernel
theorem d_Z_isMark_3 : decode b_Z_isMark 3 = .ok (.getfield 20, 3) := by decide +kernel
theorem d_Z_isMark_6 : decode b_Z_isMark 6 = .ok (.aload_n 0, 1) := by decide +kernel
theorem d_Z_isMark_7 : decode b_Z_isMark 7 = .ok (.getfield 74, 3) := by decide +kernel
theorem d_Z_isMark_10 : decode b_Z_isMark 10 = .ok (.iaload, 1) := by decide +kernel
theorem d_Z_isMark_11 : decode b_Z_isMark 11 = .ok (.iconst 1, 1) := by decide +kernel
theorem d_Z_isMark_12 : decode b_Z_isMark 12 = .ok (.isub, 1) := by decide +kernel
theorem d_Z_isMark_13 : decode b_Z_isMark 13 = .ok (.invokestatic 70, 3) := by decide +kernel
theorem d_Z_isMark_16 : decode b_Z_isMark 16 = .ok (.ireturn, 1) := by decide +kernel
theorem d_Z_row_0 : decode b_Z_row 0 = .ok (.sipush 960, 3) := by decide +kernel
theorem d_Z_row_3 : decode b_Z_row 3 = .ok (.iload_n 0, 1) := by decide +kernel
theorem d_Z_row_4 : decode b_Z_row 4 = .ok (.imul, 1) := by decide +kernel
theorem d_Z_row_5 : decode b_Z_row 5 = .ok (.iload_n 1, 1) := by decide +kernel
theorem d_Z_row_6 : decode b_Z_row 6 = .ok (.ifCond .ne 10, 3) := by decide +kernel
theorem d_Z_row_9 : decode b_Z_row 9 = .ok (.bipush 24, 2) := by decide +kernel
theorem d_Z_row_11 : decode b_Z_row 11 = .ok (.iload_n 2, 1) := by decide +kernel
theorem d_Z_row_12 : decode b_Z_row 12 = .ok (.imul, 1) := by decide +kernel
theorem d_Z_row_13 : decode b_Z_row 13 = .ok (.goto 11, 3) := by decide +kernel
theorem d_Z_row_16 : decode b_Z_row 16 = .ok (.sipush 384, 3) := by decide +kernel
theorem d_Z_row_19 : decode b_Z_row 19 = .ok (.bipush 24, 2) := by decide +kernel
theorem d_Z_row_21 : decode b_Z_row 21 = .ok (.iload_n 2, 1) := by decide +kernel
theorem d_Z_row_22 : decode b_Z_row 22 = .ok (.imul, 1) := by decide +kernel
theorem d_Z_row_23 : decode b_Z_row 23 = .ok (.iadd, 1) := by decide +kernel
theorem d_Z_row_24 : decode b_Z_row 24 = .ok (.iadd, 1) := by decide +kernel
theorem d_Z_row_25 : decode b_Z_row 25 = .ok (.ireturn, 1) := by decide +kernel
theorem d_Z_empty_0 : decode b_Z_empty 0 = .ok (.aload_n 0, 1) := by decide +kernel
theorem d_Z_empty_1 : decode b_Z_empty 1 = .ok (.getfield 13, 3) := by decide +kernel
theorem d_Z_empty_4 : decode b_Z_empty 4 = .ok (.iload_n 1, 1) := by decide +kernel
theorem d_Z_empty_5 : decode b_Z_empty 5 = .ok (.iconst 0, 1) := by decide +kernel
theorem d_Z_empty_6 : decode b_Z_empty 6 = .ok (.iastore, 1) := by decide +kernel
theorem d_Z_empty_7 : decode b_Z_empty 7 = .ok (.aload_n 0, 1) := by decide +kernel
theorem d_Z_empty_8 : decode b_Z_empty 8 = .ok (.getfield 17, 3) := by decide +kernel
theorem d_Z_empty_11 : decode b_Z_empty 11 = .ok (.iload_n 1, 1) := by decide +kernel
theorem d_Z_empty_12 : decode b_Z_empty 12 = .ok (.iconst 0, 1) := by decide +kernel
theorem d_Z_empty_13 : decode b_Z_empty 13 = .ok (.iastore, 1) := by decide +kernel
theorem d_Z_empty_14 : decode b_Z_empty 14 = .ok (.aload_n 0, 1) := by decide +kernel
theorem d_Z_empty_15 : decode b_Z_empty 15 = .ok (.getfield 20, 3) := by decide +kernel
theorem d_Z_empty_18 : decode b_Z_empty 18 = .ok (.iload_n 1, 1) := by decide +kernel
theorem d_Z_empty_19 : decode b_Z_empty 19 = .ok (.iconst 0, 1) := by decide +kernel
theorem d_Z_empty_20 : decode b_Z_empty 20 = .ok (.iastore, 1) := by decide +kernel
theorem d_Z_empty_21 : decode b_Z_empty 21 = .ok (.aload_n 0, 1) := by decide +kernel
theorem d_Z_empty_22 : decode b_Z_empty 22 = .ok (.getfield 23, 3) := by decide +kernel
theorem d_Z_empty_25 : decode b_Z_empty 25 = .ok (.iload_n 1, 1) := by decide +kernel
theorem d_Z_empty_26 : decode b_Z_empty 26 = .ok (.iconst 0, 1) := by decide +kernel
theorem d_Z_empty_27 : decode b_Z_empty 27 = .ok (.iastore, 1) := by decide +kernel
theorem d_Z_empty_28 : decode b_Z_empty 28 = .ok (.aload_n 0, 1) := by decide +kernel
theorem d_Z_empty_29 : decode b_Z_empty 29 = .ok (.getfield 26, 3) := by decide +kernel
theorem d_Z_empty_32 : decode b_Z_empty 32 = .ok (.iload_n 1, 1) := by decide +kernel
theorem d_Z_empty_33 : decode b_Z_empty 33 = .ok (.iconst 0, 1) := by decide +kernel
theorem d_Z_empty_34 : decode b_Z_empty 34 = .ok (.iastore, 1) := by decide +kernel
theorem d_Z_empty_35 : decode b_Z_empty 35 = .ok (.return_, 1) := by decide +kernel
theorem d_Z_bare_0 : decode b_Z_bare 0 = .ok (.iconst 0, 1) := by decide +kernel
theorem d_Z_bare_1 : decode b_Z_bare 1 = .ok (.istore 4, 2) := by decide +kernel
theorem d_Z_bare_3 : decode b_Z_bare 3 = .ok (.iload 4, 2) := by decide +kernel
theorem d_Z_bare_5 : decode b_Z_bare 5 = .ok (.bipush 24, 2) := by decide +kernel
theorem d_Z_bare_7 : decode b_Z_bare 7 = .ok (.if_icmp .ge 24, 3) := by decide +kernel
theorem d_Z_bare_10 : decode b_Z_bare 10 = .ok (.aload_n 0, 1) := by decide +kernel
theorem d_Z_bare_11 : decode b_Z_bare 11 = .ok (.getfield 32, 3) := by decide +kernel
theorem d_Z_bare_14 : decode b_Z_bare 14 = .ok (.iload_n 1, 1) := by decide +kernel
theorem d_Z_bare_15 : decode b_Z_bare 15 = .ok (.iload_n 2, 1) := by decide +kernel
theorem d_Z_bare_16 : decode b_Z_bare 16 = .ok (.iload_n 3, 1) := by decide +kernel
theorem d_Z_bare_17 : decode b_Z_bare 17 = .ok (.invokestatic 78, 3) := by decide +kernel
theorem d_Z_bare_20 : decode b_Z_bare 20 = .ok (.iload 4, 2) := by decide +kernel
theorem d_Z_bare_22 : decode b_Z_bare 22 = .ok (.iadd, 1) := by decide +kernel
theorem d_Z_bare_23 : decode b_Z_bare 23 = .ok (.iconst 0, 1) := by decide +kernel
theorem d_Z_bare_24 : decode b_Z_bare 24 = .ok (.iastore, 1) := by decide +kernel
theorem d_Z_bare_25 : decode b_Z_bare 25 = .ok (.iinc 4 1, 3) := by decide +kernel
theorem d_Z_bare_28 : decode b_Z_bare 28 = .ok (.goto (-25), 3) := by decide +kernel
theorem d_Z_bare_31 : decode b_Z_bare 31 = .ok (.return_, 1) := by decide +kernel
theorem d_Z_clear_0 : decode b_Z_clear 0 = .ok (.aload_n 0, 1) := by decide +kernel
theorem d_Z_clear_1 : decode b_Z_clear 1 = .ok (.aload_n 0, 1) := by decide +kernel
theorem d_Z_clear_2 : decode b_Z_clear 2 = .ok (.getfield 74, 3) := by decide +kernel
theorem d_Z_clear_5 : decode b_Z_clear 5 = .ok (.invokevirtual 82, 3) := by decide +kernel
theorem d_Z_clear_8 : decode b_Z_clear 8 = .ok (.return_, 1) := by decide +kernel
theorem d_Z_style_0 : decode b_Z_style 0 = .ok (.aload_n 0, 1) := by decide +kernel
theorem d_Z_style_1 : decode b_Z_style 1 = .ok (.getfield 13, 3) := by decide +kernel
theorem d_Z_style_4 : decode b_Z_style 4 = .ok (.aload_n 0, 1) := by decide +kernel
theorem d_Z_style_5 : decode b_Z_style 5 = .ok (.getfield 74, 3) := by decide +kernel
theorem d_Z_style_8 : decode b_Z_style 8 = .ok (.iaload, 1) := by decide +kernel
theorem d_Z_style_9 : decode b_Z_style 9 = .ok (.bipush 16, 2) := by decide +kernel
theorem d_Z_style_11 : decode b_Z_style 11 = .ok (.if_icmp .eq 22, 3) := by decide +kernel
theorem d_Z_style_14 : decode b_Z_style 14 = .ok (.iload_n 1, 1) := by decide +kernel
theorem d_Z_style_15 : decode b_Z_style 15 = .ok (.iconst (-1), 1) := by decide +kernel
theorem d_Z_style_16 : decode b_Z_style 16 = .ok (.aload_n 0, 1) := by decide +kernel
theorem d_Z_style_17 : decode b_Z_style 17 = .ok (.getfield 13, 3) := by decide +kernel
theorem d_Z_style_20 : decode b_Z_style 20 = .ok (.aload_n 0, 1) := by decide +kernel
theorem d_Z_style_21 : decode b_Z_style 21 = .ok (.getfield 74, 3) := by decide +kernel
theorem d_Z_style_24 : decode b_Z_style 24 = .ok (.iaload, 1) := by decide +kernel
theorem d_Z_style_25 : decode b_Z_style 25 = .ok (.iconst 1, 1) := by decide +kernel
theorem d_Z_style_26 : decode b_Z_style 26 = .ok (.isub, 1) := by decide +kernel
theorem d_Z_style_27 : decode b_Z_style 27 = .ok (.invokestatic 70, 3) := by decide +kernel
theorem d_Z_style_30 : decode b_Z_style 30 = .ok (.ifCond .ne 5, 3) := by decide +kernel
theorem d_Z_style_33 : decode b_Z_style 33 = .ok (.iconst (-1), 1) := by decide +kernel
theorem d_Z_style_34 : decode b_Z_style 34 = .ok (.ireturn, 1) := by decide +kernel
theorem d_Z_style_35 : decode b_Z_style 35 = .ok (.aload_n 0, 1) := by decide +kernel
theorem d_Z_style_36 : decode b_Z_style 36 = .ok (.getfield 29, 3) := by decide +kernel
theorem d_Z_style_39 : decode b_Z_style 39 = .ok (.bipush 16, 2) := by decide +kernel
theorem d_Z_style_41 : decode b_Z_style 41 = .ok (.aload_n 0, 1) := by decide +kernel
theorem d_Z_style_42 : decode b_Z_style 42 = .ok (.getfield 74, 3) := by decide +kernel
theorem d_Z_style_45 : decode b_Z_style 45 = .ok (.imul, 1) := by decide +kernel
theorem d_Z_style_46 : decode b_Z_style 46 = .ok (.aload_n 0, 1) := by decide +kernel
theorem d_Z_style_47 : decode b_Z_style 47 = .ok (.getfield 13, 3) := by decide +kernel
theorem d_Z_style_50 : decode b_Z_style 50 = .ok (.aload_n 0, 1) := by decide +kernel
theorem d_Z_style_51 : decode b_Z_style 51 = .ok (.getfield 74, 3) := by decide +kernel
theorem d_Z_style_54 : decode b_Z_style 54 = .ok (.iaload, 1) := by decide +kernel
theorem d_Z_style_55 : decode b_Z_style 55 = .ok (.iadd, 1) := by decide +kernel
theorem d_Z_style_56 : decode b_Z_style 56 = .ok (.iload_n 1, 1) := by decide +kernel
theorem d_Z_style_57 : decode b_Z_style 57 = .ok (.iastore, 1) := by decide +kernel
theorem d_Z_style_58 : decode b_Z_style 58 = .ok (.aload_n 0, 1) := by decide +kernel
theorem d_Z_style_59 : decode b_Z_style 59 = .ok (.aload_n 0, 1) := by decide +kernel
theorem d_Z_style_60 : decode b_Z_style 60 = .ok (.getfield 74, 3) := by decide +kernel
theorem d_Z_style_63 : decode b_Z_style 63 = .ok (.iconst 0, 1) := by decide +kernel
theorem d_Z_style_64 : decode b_Z_style 64 = .ok (.aload_n 0, 1) := by decide +kernel
theorem d_Z_style_65 : decode b_Z_style 65 = .ok (.getfield 13, 3) := by decide +kernel
theorem d_Z_style_68 : decode b_Z_style 68 = .ok (.aload_n 0, 1) := by decide +kernel
theorem d_Z_style_69 : decode b_Z_style 69 = .ok (.getfield 74, 3) := by decide +kernel
theorem d_Z_style_72 : decode b_Z_style 72 = .ok (.iaload, 1) := by decide +kernel
theorem d_Z_style_73 : decode b_Z_style 73 = .ok (.invokevirtual 86, 3) := by decide +kernel
theorem d_Z_style_76 : decode b_Z_style 76 = .ok (.aload_n 0, 1) := by decide +kernel
theorem d_Z_style_77 : decode b_Z_style 77 = .ok (.getfield 13, 3) := by decide +kernel
theorem d_Z_style_80 : decode b_Z_style 80 = .ok (.aload_n 0, 1) := by decide +kernel
theorem d_Z_style_81 : decode b_Z_style 81 = .ok (.getfield 74, 3) := by decide +kernel
theorem d_Z_style_84 : decode b_Z_style 84 = .ok (.dup2, 1) := by decide +kernel
theorem d_Z_style_85 : decode b_Z_style 85 = .ok (.iaload, 1) := by decide +kernel
theorem d_Z_style_86 : decode b_Z_style 86 = .ok (.iconst 1, 1) := by decide +kernel
theorem d_Z_style_87 : decode b_Z_style 87 = .ok (.iadd, 1) := by decide +kernel
theorem d_Z_style_88 : decode b_Z_style 88 = .ok (.iastore, 1) := by decide +kernel
theorem d_Z_style_89 : decode b_Z_style 89 = .ok (.aload_n 0, 1) := by decide +kernel
theorem d_Z_style_90 : decode b_Z_style 90 = .ok (.getfield 13, 3) := by decide +kernel
theorem d_Z_style_93 : decode b_Z_style 93 = .ok (.aload_n 0, 1) := by decide +kernel
theorem d_Z_style_94 : decode b_Z_style 94 = .ok (.getfield 74, 3) := by decide +kernel
theorem d_Z_style_97 : decode b_Z_style 97 = .ok (.iaload, 1) := by decide +kernel
theorem d_Z_style_98 : decode b_Z_style 98 = .ok (.iconst 1, 1) := by decide +kernel
theorem d_Z_style_99 : decode b_Z_style 99 = .ok (.isub, 1) := by decide +kernel
theorem d_Z_style_100 : decode b_Z_style 100 = .ok (.ireturn, 1) := by decide +kernel
theorem d_Z_set_0 : decode b_Z_set 0 = .ok (.aload_n 0, 1) := by decide +kernel
theorem d_Z_set_1 : decode b_Z_set 1 = .ok (.getfield 17, 3) := by decide +kernel
theorem d_Z_set_4 : decode b_Z_set 4 = .ok (.aload_n 0, 1) := by decide +kernel
theorem d_Z_set_5 : decode b_Z_set 5 = .ok (.getfield 74, 3) := by decide +kernel
theorem d_Z_set_8 : decode b_Z_set 8 = .ok (.iaload, 1) := by decide +kernel
theorem d_Z_set_9 : decode b_Z_set 9 = .ok (.bipush 24, 2) := by decide +kernel
theorem d_Z_set_11 : decode b_Z_set 11 = .ok (.if_icmp .ne 5, 3) := by decide +kernel
theorem d_Z_set_14 : decode b_Z_set 14 = .ok (.iconst (-1), 1) := by decide +kernel
theorem d_Z_set_15 : decode b_Z_set 15 = .ok (.ireturn, 1) := by decide +kernel
theorem d_Z_set_16 : decode b_Z_set 16 = .ok (.aload_n 0, 1) := by decide +kernel
theorem d_Z_set_17 : decode b_Z_set 17 = .ok (.aload_n 0, 1) := by decide +kernel
theorem d_Z_set_18 : decode b_Z_set 18 = .ok (.getfield 74, 3) := by decide +kernel
theorem d_Z_set_21 : decode b_Z_set 21 = .ok (.iconst 1, 1) := by decide +kernel
theorem d_Z_set_22 : decode b_Z_set 22 = .ok (.aload_n 0, 1) := by decide +kernel
theorem d_Z_set_23 : decode b_Z_set 23 = .ok (.getfield 17, 3) := by decide +kernel
theorem d_Z_set_26 : decode b_Z_set 26 = .ok (.aload_n 0, 1) := by decide +kernel
theorem d_Z_set_27 : decode b_Z_set 27 = .ok (.getfield 74, 3) := by decide +kernel
theorem d_Z_set_30 : decode b_Z_set 30 = .ok (.iaload, 1) := by decide +kernel
theorem d_Z_set_31 : decode b_Z_set 31 = .ok (.invokevirtual 86, 3) := by decide +kernel
theorem d_Z_set_34 : decode b_Z_set 34 = .ok (.aload_n 0, 1) := by decide +kernel
theorem d_Z_set_35 : decode b_Z_set 35 = .ok (.getfield 17, 3) := by decide +kernel
theorem d_Z_set_38 : decode b_Z_set 38 = .ok (.aload_n 0, 1) := by decide +kernel
theorem d_Z_set_39 : decode b_Z_set 39 = .ok (.getfield 74, 3) := by decide +kernel
theorem d_Z_set_42 : decode b_Z_set 42 = .ok (.dup2, 1) := by decide +kernel
theorem d_Z_set_43 : decode b_Z_set 43 = .ok (.iaload, 1) := by decide +kernel
theorem d_Z_set_44 : decode b_Z_set 44 = .ok (.iconst 1, 1) := by decide +kernel
theorem d_Z_set_45 : decode b_Z_set 45 = .ok (.iadd, 1) := by decide +kernel
theorem d_Z_set_46 : decode b_Z_set 46 = .ok (.iastore, 1) := by decide +kernel
theorem d_Z_set_47 : decode b_Z_set 47 = .ok (.aload_n 0, 1) := by decide +kernel
theorem d_Z_set_48 : decode b_Z_set 48 = .ok (.getfield 17, 3) := by decide +kernel
theorem d_Z_set_51 : decode b_Z_set 51 = .ok (.aload_n 0, 1) := by decide +kernel
theorem d_Z_set_52 : decode b_Z_set 52 = .ok (.getfield 74, 3) := by decide +kernel
theorem d_Z_set_55 : decode b_Z_set 55 = .ok (.iaload, 1) := by decide +kernel
theorem d_Z_set_56 : decode b_Z_set 56 = .ok (.iconst 1, 1) := by decide +kernel
theorem d_Z_set_57 : decode b_Z_set 57 = .ok (.isub, 1) := by decide +kernel
theorem d_Z_set_58 : decode b_Z_set 58 = .ok (.ireturn, 1) := by decide +kernel
theorem d_Z_isRow_0 : decode b_Z_isRow 0 = .ok (.iload_n 1, 1) := by decide +kernel
theorem d_Z_isRow_1 : decode b_Z_isRow 1 = .ok (.ifCond .ne 22, 3) := by decide +kernel
theorem d_Z_isRow_4 : decode b_Z_isRow 4 = .ok (.iload_n 2, 1) := by decide +kernel
theorem d_Z_isRow_5 : decode b_Z_isRow 5 = .ok (.iconst 0, 1) := by decide +kernel
theorem d_Z_isRow_6 : decode b_Z_isRow 6 = .ok (.aload_n 0, 1) := by decide +kernel
theorem d_Z_isRow_7 : decode b_Z_isRow 7 = .ok (.getfield 13, 3) := by decide +kernel
theorem d_Z_isRow_10 : decode b_Z_isRow 10 = .ok (.aload_n 0, 1) := by decide +kernel
theorem d_Z_isRow_11 : decode b_Z_isRow 11 = .ok (.getfield 74, 3) := by decide +kernel
theorem d_Z_isRow_14 : decode b_Z_isRow 14 = .ok (.iaload, 1) := by decide +kernel
theorem d_Z_isRow_15 : decode b_Z_isRow 15 = .ok (.iconst 1, 1) := by decide +kernel
theorem d_Z_isRow_16 : decode b_Z_isRow 16 = .ok (.isub, 1) := by decide +kernel
theorem d_Z_isRow_17 : decode b_Z_isRow 17 = .ok (.invokestatic 70, 3) := by decide +kernel
theorem d_Z_isRow_20 : decode b_Z_isRow 20 = .ok (.goto 21, 3) := by decide +kernel
theorem d_Z_isRow_23 : decode b_Z_isRow 23 = .ok (.iload_n 1, 1) := by decide +kernel
theorem d_Z_isRow_24 : decode b_Z_isRow 24 = .ok (.iconst 1, 1) := by decide +kernel
theorem d_Z_isRow_25 : decode b_Z_isRow 25 = .ok (.if_icmp .ne 15, 3) := by decide +kernel
theorem d_Z_isRow_28 : decode b_Z_isRow 28 = .ok (.aload_n 0, 1) := by decide +kernel
theorem d_Z_isRow_29 : decode b_Z_isRow 29 = .ok (.iload_n 2, 1) := by decide +kernel
theorem d_Z_isRow_30 : decode b_Z_isRow 30 = .ok (.invokevirtual 90, 3) := by decide +kernel
theorem d_Z_isRow_33 : decode b_Z_isRow 33 = .ok (.ifCond .eq 7, 3) := by decide +kernel
theorem d_Z_isRow_36 : decode b_Z_isRow 36 = .ok (.iconst 1, 1) := by decide +kernel
theorem d_Z_isRow_37 : decode b_Z_isRow 37 = .ok (.goto 4, 3) := by decide +kernel
theorem d_Z_isRow_40 : decode b_Z_isRow 40 = .ok (.iconst 0, 1) := by decide +kernel
theorem d_Z_isRow_41 : decode b_Z_isRow 41 = .ok (.ireturn, 1) := by decide +kernel
theorem d_Z_property_0 : decode b_Z_property 0 = .ok (.aload_n 0, 1) := by decide +kernel
theorem d_Z_property_1 : decode b_Z_property 1 = .ok (.iload_n 1, 1) := by decide +kernel
theorem d_Z_property_2 : decode b_Z_property 2 = .ok (.iload_n 2, 1) := by decide +kernel
theorem d_Z_property_3 : decode b_Z_property 3 = .ok (.invokevirtual 94, 3) := by decide +kernel
theorem d_Z_property_6 : decode b_Z_property 6 = .ok (.ifCond .eq 26, 3) := by decide +kernel
theorem d_Z_property_9 : decode b_Z_property 9 = .ok (.iload_n 3, 1) := by decide +kernel
theorem d_Z_property_10 : decode b_Z_property 10 = .ok (.iconst 0, 1) := by decide +kernel
theorem d_Z_property_11 : decode b_Z_property 11 = .ok (.bipush 23, 2) := by decide +kernel
theorem d_Z_property_13 : decode b_Z_property 13 = .ok (.invokestatic 70, 3) := by decide +kernel
theorem d_Z_property_16 : decode b_Z_property 16 = .ok (.ifCond .eq 16, 3) := by decide +kernel
theorem d_Z_property_19 : decode b_Z_property 19 = .ok (.iload 4, 2) := by decide +kernel
theorem d_Z_property_21 : decode b_Z_property 21 = .ok (.iconst (-1), 1) := by decide +kernel
theorem d_Z_property_22 : decode b_Z_property 22 = .ok (.iload_n 3, 1) := by decide +kernel
theorem d_Z_property_23 : decode b_Z_property 23 = .ok (.invokestatic 98, 3) := by decide +kernel
theorem d_Z_property_26 : decode b_Z_property 26 = .ok (.invokestatic 70, 3) := by decide +kernel
theorem d_Z_property_29 : decode b_Z_property 29 = .ok (.ifCond .ne 5, 3) := by decide +kernel
theorem d_Z_property_32 : decode b_Z_property 32 = .ok (.iconst 0, 1) := by decide +kernel
theorem d_Z_property_33 : decode b_Z_property 33 = .ok (.ireturn, 1) := by decide +kernel
theorem d_Z_property_34 : decode b_Z_property 34 = .ok (.aload_n 0, 1) := by decide +kernel
theorem d_Z_property_35 : decode b_Z_property 35 = .ok (.getfield 32, 3) := by decide +kernel
theorem d_Z_property_38 : decode b_Z_property 38 = .ok (.aload_n 0, 1) := by decide +kernel
theorem d_Z_property_39 : decode b_Z_property 39 = .ok (.getfield 74, 3) := by decide +kernel
theorem d_Z_property_42 : decode b_Z_property 42 = .ok (.iload_n 1, 1) := by decide +kernel
theorem d_Z_property_43 : decode b_Z_property 43 = .ok (.iload_n 2, 1) := by decide +kernel
theorem d_Z_property_44 : decode b_Z_property 44 = .ok (.invokestatic 78, 3) := by decide +kernel
theorem d_Z_property_47 : decode b_Z_property 47 = .ok (.iload_n 3, 1) := by decide +kernel
theorem d_Z_property_48 : decode b_Z_property 48 = .ok (.iadd, 1) := by decide +kernel
theorem d_Z_property_49 : decode b_Z_property 49 = .ok (.iload 4, 2) := by decide +kernel
theorem d_Z_property_51 : decode b_Z_property 51 = .ok (.iconst 1, 1) := by decide +kernel
theorem d_Z_property_52 : decode b_Z_property 52 = .ok (.iadd, 1) := by decide +kernel
theorem d_Z_property_53 : decode b_Z_property 53 = .ok (.iastore, 1) := by decide +kernel
theorem d_Z_property_54 : decode b_Z_property 54 = .ok (.iconst 1, 1) := by decide +kernel
theorem d_Z_property_55 : decode b_Z_property 55 = .ok (.ireturn, 1) := by decide +kernel
theorem d_Z_mark_0 : decode b_Z_mark 0 = .ok (.aload_n 0, 1) := by decide +kernel
theorem d_Z_mark_1 : decode b_Z_mark 1 = .ok (.getfield 20, 3) := by decide +kernel
theorem d_Z_mark_4 : decode b_Z_mark 4 = .ok (.aload_n 0, 1) := by decide +kernel
theorem d_Z_mark_5 : decode b_Z_mark 5 = .ok (.getfield 74, 3) := by decide +kernel
theorem d_Z_mark_8 : decode b_Z_mark 8 = .ok (.iaload, 1) := by decide +kernel
theorem d_Z_mark_9 : decode b_Z_mark 9 = .ok (.bipush 24, 2) := by decide +kernel
theorem d_Z_mark_11 : decode b_Z_mark 11 = .ok (.if_icmp .eq 44, 3) := by decide +kernel
theorem d_Z_mark_14 : decode b_Z_mark 14 = .ok (.iload_n 1, 1) := by decide +kernel
theorem d_Z_mark_15 : decode b_Z_mark 15 = .ok (.iconst 0, 1) := by decide +kernel
theorem d_Z_mark_16 : decode b_Z_mark 16 = .ok (.sipush 255, 3) := by decide +kernel
theorem d_Z_mark_19 : decode b_Z_mark 19 = .ok (.invokestatic 70, 3) := by decide +kernel
theorem d_Z_mark_22 : decode b_Z_mark 22 = .ok (.ifCond .eq 33, 3) := by decide +kernel
theorem d_Z_mark_25 : decode b_Z_mark 25 = .ok (.iload_n 2, 1) := by decide +kernel
theorem d_Z_mark_26 : decode b_Z_mark 26 = .ok (.iconst 0, 1) := by decide +kernel
theorem d_Z_mark_27 : decode b_Z_mark 27 = .ok (.sipush 255, 3) := by decide +kernel
theorem d_Z_mark_30 : decode b_Z_mark 30 = .ok (.invokestatic 70, 3) := by decide +kernel
theorem d_Z_mark_33 : decode b_Z_mark 33 = .ok (.ifCond .eq 22, 3) := by decide +kernel
theorem d_Z_mark_36 : decode b_Z_mark 36 = .ok (.iload_n 3, 1) := by decide +kernel
theorem d_Z_mark_37 : decode b_Z_mark 37 = .ok (.iconst (-1), 1) := by decide +kernel
theorem d_Z_mark_38 : decode b_Z_mark 38 = .ok (.aload_n 0, 1) := by decide +kernel
theorem d_Z_mark_39 : decode b_Z_mark 39 = .ok (.getfield 17, 3) := by decide +kernel
theorem d_Z_mark_42 : decode b_Z_mark 42 = .ok (.aload_n 0, 1) := by decide +kernel
theorem d_Z_mark_43 : decode b_Z_mark 43 = .ok (.getfield 74, 3) := by decide +kernel
theorem d_Z_mark_46 : decode b_Z_mark 46 = .ok (.iaload, 1) := by decide +kernel
theorem d_Z_mark_47 : decode b_Z_mark 47 = .ok (.iconst 1, 1) := by decide +kernel
theorem d_Z_mark_48 : decode b_Z_mark 48 = .ok (.isub, 1) := by decide +kernel
theorem d_Z_mark_49 : decode b_Z_mark 49 = .ok (.invokestatic 70, 3) := by decide +kernel
theorem d_Z_mark_52 : decode b_Z_mark 52 = .ok (.ifCond .ne 5, 3) := by decide +kernel
theorem d_Z_mark_55 : decode b_Z_mark 55 = .ok (.iconst (-1), 1) := by decide +kernel
theorem d_Z_mark_56 : decode b_Z_mark 56 = .ok (.ireturn, 1) := by decide +kernel
theorem d_Z_mark_57 : decode b_Z_mark 57 = .ok (.bipush 24, 2) := by decide +kernel
theorem d_Z_mark_59 : decode b_Z_mark 59 = .ok (.aload_n 0, 1) := by decide +kernel
theorem d_Z_mark_60 : decode b_Z_mark 60 = .ok (.getfield 74, 3) := by decide +kernel
theorem d_Z_mark_63 : decode b_Z_mark 63 = .ok (.imul, 1) := by decide +kernel
theorem d_Z_mark_64 : decode b_Z_mark 64 = .ok (.aload_n 0, 1) := by decide +kernel
theorem d_Z_mark_65 : decode b_Z_mark 65 = .ok (.getfield 20, 3) := by decide +kernel
theorem d_Z_mark_68 : decode b_Z_mark 68 = .ok (.aload_n 0, 1) := by decide +kernel
theorem d_Z_mark_69 : decode b_Z_mark 69 = .ok (.getfield 74, 3) := by decide +kernel
theorem d_Z_mark_72 : decode b_Z_mark 72 = .ok (.iaload, 1) := by decide +kernel
theorem d_Z_mark_73 : decode b_Z_mark 73 = .ok (.iadd, 1) := by decide +kernel
theorem d_Z_mark_74 : decode b_Z_mark 74 = .ok (.istore 4, 2) := by decide +kernel
theorem d_Z_mark_76 : decode b_Z_mark 76 = .ok (.aload_n 0, 1) := by decide +kernel
theorem d_Z_mark_77 : decode b_Z_mark 77 = .ok (.getfield 35, 3) := by decide +kernel
theorem d_Z_mark_80 : decode b_Z_mark 80 = .ok (.iload 4, 2) := by decide +kernel
theorem d_Z_mark_82 : decode b_Z_mark 82 = .ok (.iload_n 1, 1) := by decide +kernel
theorem d_Z_mark_83 : decode b_Z_mark 83 = .ok (.i2s, 1) := by decide +kernel
theorem d_Z_mark_84 : decode b_Z_mark 84 = .ok (.sastore, 1) := by decide +kernel
theorem d_Z_mark_85 : decode b_Z_mark 85 = .ok (.aload_n 0, 1) := by decide +kernel
theorem d_Z_mark_86 : decode b_Z_mark 86 = .ok (.getfield 39, 3) := by decide +kernel
theorem d_Z_mark_89 : decode b_Z_mark 89 = .ok (.iload 4, 2) := by decide +kernel
theorem d_Z_mark_91 : decode b_Z_mark 91 = .ok (.iload_n 2, 1) := by decide +kernel
theorem d_Z_mark_92 : decode b_Z_mark 92 = .ok (.i2s, 1) := by decide +kernel
theorem d_Z_mark_93 : decode b_Z_mark 93 = .ok (.sastore, 1) := by decide +kernel
theorem d_Z_mark_94 : decode b_Z_mark 94 = .ok (.aload_n 0, 1) := by decide +kernel
theorem d_Z_mark_95 : decode b_Z_mark 95 = .ok (.getfield 42, 3) := by decide +kernel
theorem d_Z_mark_98 : decode b_Z_mark 98 = .ok (.iload 4, 2) := by decide +kernel
theorem d_Z_mark_100 : decode b_Z_mark 100 = .ok (.iload_n 3, 1) := by decide +kernel
theorem d_Z_mark_101 : decode b_Z_mark 101 = .ok (.i2s, 1) := by decide +kernel
theorem d_Z_mark_102 : decode b_Z_mark 102 = .ok (.sastore, 1) := by decide +kernel
theorem d_Z_mark_103 : decode b_Z_mark 103 = .ok (.aload_n 0, 1) := by decide +kernel
theorem d_Z_mark_104 : decode b_Z_mark 104 = .ok (.getfield 20, 3) := by decide +kernel
theorem d_Z_mark_107 : decode b_Z_mark 107 = .ok (.aload_n 0, 1) := by decide +kernel
theorem d_Z_mark_108 : decode b_Z_mark 108 = .ok (.getfield 74, 3) := by decide +kernel
theorem d_Z_mark_111 : decode b_Z_mark 111 = .ok (.dup2, 1) := by decide +kernel
theorem d_Z_mark_112 : decode b_Z_mark 112 = .ok (.iaload, 1) := by decide +kernel
theorem d_Z_mark_113 : decode b_Z_mark 113 = .ok (.iconst 1, 1) := by decide +kernel
theorem d_Z_mark_114 : decode b_Z_mark 114 = .ok (.iadd, 1) := by decide +kernel
theorem d_Z_mark_115 : decode b_Z_mark 115 = .ok (.iastore, 1) := by decide +kernel
theorem d_Z_mark_116 : decode b_Z_mark 116 = .ok (.aload_n 0, 1) := by decide +kernel
theorem d_Z_mark_117 : decode b_Z_mark 117 = .ok (.getfield 20, 3) := by decide +kernel
theorem d_Z_mark_120 : decode b_Z_mark 120 = .ok (.aload_n 0, 1) := by decide +kernel
theorem d_Z_mark_121 : decode b_Z_mark 121 = .ok (.getfield 74, 3) := by decide +kernel
theorem d_Z_mark_124 : decode b_Z_mark 124 = .ok (.iaload, 1) := by decide +kernel
theorem d_Z_mark_125 : decode b_Z_mark 125 = .ok (.iconst 1, 1) := by decide +kernel
theorem d_Z_mark_126 : decode b_Z_mark 126 = .ok (.isub, 1) := by decide +kernel
theorem d_Z_mark_127 : decode b_Z_mark 127 = .ok (.ireturn, 1) := by decide +kernel
theorem d_Z_add_0 : decode b_Z_add 0 = .ok (.bipush 40, 2) := by decide +kernel
theorem d_Z_add_2 : decode b_Z_add 2 = .ok (.aload_n 0, 1) := by decide +kernel
theorem d_Z_add_3 : decode b_Z_add 3 = .ok (.getfield 74, 3) := by decide +kernel
theorem d_Z_add_6 : decode b_Z_add 6 = .ok (.imul, 1) := by decide +kernel
theorem d_Z_add_7 : decode b_Z_add 7 = .ok (.aload_n 0, 1) := by decide +kernel
theorem d_Z_add_8 : decode b_Z_add 8 = .ok (.getfield 23, 3) := by decide +kernel
theorem d_Z_add_11 : decode b_Z_add 11 = .ok (.aload_n 0, 1) := by decide +kernel
theorem d_Z_add_12 : decode b_Z_add 12 = .ok (.getfield 74, 3) := by decide +kernel
theorem d_Z_add_15 : decode b_Z_add 15 = .ok (.iaload, 1) := by decide +kernel
theorem d_Z_add_16 : decode b_Z_add 16 = .ok (.iadd, 1) := by decide +kernel
theorem d_Z_add_17 : decode b_Z_add 17 = .ok (.istore 6, 2) := by decide +kernel
theorem d_Z_add_19 : decode b_Z_add 19 = .ok (.aload_n 0, 1) := by decide +kernel
theorem d_Z_add_20 : decode b_Z_add 20 = .ok (.getfield 45, 3) := by decide +kernel
theorem d_Z_add_23 : decode b_Z_add 23 = .ok (.iload 6, 2) := by decide +kernel
theorem d_Z_add_25 : decode b_Z_add 25 = .ok (.iload_n 1, 1) := by decide +kernel
theorem d_Z_add_26 : decode b_Z_add 26 = .ok (.i2s, 1) := by decide +kernel
theorem d_Z_add_27 : decode b_Z_add 27 = .ok (.sastore, 1) := by decide +kernel
theorem d_Z_add_28 : decode b_Z_add 28 = .ok (.aload_n 0, 1) := by decide +kernel
theorem d_Z_add_29 : decode b_Z_add 29 = .ok (.getfield 48, 3) := by decide +kernel
theorem d_Z_add_32 : decode b_Z_add 32 = .ok (.iload 6, 2) := by decide +kernel
theorem d_Z_add_34 : decode b_Z_add 34 = .ok (.iload_n 2, 1) := by decide +kernel
theorem d_Z_add_35 : decode b_Z_add 35 = .ok (.i2s, 1) := by decide +kernel
theorem d_Z_add_36 : decode b_Z_add 36 = .ok (.sastore, 1) := by decide +kernel
theorem d_Z_add_37 : decode b_Z_add 37 = .ok (.aload_n 0, 1) := by decide +kernel
theorem d_Z_add_38 : decode b_Z_add 38 = .ok (.getfield 51, 3) := by decide +kernel
theorem d_Z_add_41 : decode b_Z_add 41 = .ok (.iload 6, 2) := by decide +kernel
theorem d_Z_add_43 : decode b_Z_add 43 = .ok (.iload_n 3, 1) := by decide +kernel
theorem d_Z_add_44 : decode b_Z_add 44 = .ok (.i2s, 1) := by decide +kernel
theorem d_Z_add_45 : decode b_Z_add 45 = .ok (.sastore, 1) := by decide +kernel
theorem d_Z_add_46 : decode b_Z_add 46 = .ok (.aload_n 0, 1) := by decide +kernel
theorem d_Z_add_47 : decode b_Z_add 47 = .ok (.getfield 54, 3) := by decide +kernel
theorem d_Z_add_50 : decode b_Z_add 50 = .ok (.iload 6, 2) := by decide +kernel
theorem d_Z_add_52 : decode b_Z_add 52 = .ok (.iload 4, 2) := by decide +kernel
theorem d_Z_add_54 : decode b_Z_add 54 = .ok (.i2s, 1) := by decide +kernel
theorem d_Z_add_55 : decode b_Z_add 55 = .ok (.sastore, 1) := by decide +kernel
theorem d_Z_add_56 : decode b_Z_add 56 = .ok (.aload_n 0, 1) := by decide +kernel
theorem d_Z_add_57 : decode b_Z_add 57 = .ok (.getfield 57, 3) := by decide +kernel
theorem d_Z_add_60 : decode b_Z_add 60 = .ok (.iload 6, 2) := by decide +kernel
theorem d_Z_add_62 : decode b_Z_add 62 = .ok (.iload 5, 2) := by decide +kernel
theorem d_Z_add_64 : decode b_Z_add 64 = .ok (.i2s, 1) := by decide +kernel
theorem d_Z_add_65 : decode b_Z_add 65 = .ok (.sastore, 1) := by decide +kernel
theorem d_Z_add_66 : decode b_Z_add 66 = .ok (.aload_n 0, 1) := by decide +kernel
theorem d_Z_add_67 : decode b_Z_add 67 = .ok (.getfield 26, 3) := by decide +kernel
theorem d_Z_add_70 : decode b_Z_add 70 = .ok (.aload_n 0, 1) := by decide +kernel
theorem d_Z_add_71 : decode b_Z_add 71 = .ok (.getfield 74, 3) := by decide +kernel
theorem d_Z_add_74 : decode b_Z_add 74 = .ok (.dup2, 1) := by decide +kernel
theorem d_Z_add_75 : decode b_Z_add 75 = .ok (.iaload, 1) := by decide +kernel
theorem d_Z_add_76 : decode b_Z_add 76 = .ok (.iload 5, 2) := by decide +kernel
theorem d_Z_add_78 : decode b_Z_add 78 = .ok (.iadd, 1) := by decide +kernel
theorem d_Z_add_79 : decode b_Z_add 79 = .ok (.iastore, 1) := by decide +kernel
theorem d_Z_add_80 : decode b_Z_add 80 = .ok (.aload_n 0, 1) := by decide +kernel
theorem d_Z_add_81 : decode b_Z_add 81 = .ok (.getfield 23, 3) := by decide +kernel
theorem d_Z_add_84 : decode b_Z_add 84 = .ok (.aload_n 0, 1) := by decide +kernel
theorem d_Z_add_85 : decode b_Z_add 85 = .ok (.getfield 74, 3) := by decide +kernel
theorem d_Z_add_88 : decode b_Z_add 88 = .ok (.dup2, 1) := by decide +kernel
theorem d_Z_add_89 : decode b_Z_add 89 = .ok (.iaload, 1) := by decide +kernel
theorem d_Z_add_90 : decode b_Z_add 90 = .ok (.iconst 1, 1) := by decide +kernel
theorem d_Z_add_91 : decode b_Z_add 91 = .ok (.iadd, 1) := by decide +kernel
theorem d_Z_add_92 : decode b_Z_add 92 = .ok (.iastore, 1) := by decide +kernel
theorem d_Z_add_93 : decode b_Z_add 93 = .ok (.aload_n 0, 1) := by decide +kernel
theorem d_Z_add_94 : decode b_Z_add 94 = .ok (.getfield 23, 3) := by decide +kernel
theorem d_Z_add_97 : decode b_Z_add 97 = .ok (.aload_n 0, 1) := by decide +kernel
theorem d_Z_add_98 : decode b_Z_add 98 = .ok (.getfield 74, 3) := by decide +kernel
theorem d_Z_add_101 : decode b_Z_add 101 = .ok (.iaload, 1) := by decide +kernel
theorem d_Z_add_102 : decode b_Z_add 102 = .ok (.ireturn, 1) := by decide +kernel
theorem d_Z_type_0 : decode b_Z_type 0 = .ok (.iconst 0, 1) := by decide +kernel
theorem d_Z_type_1 : decode b_Z_type 1 = .ok (.istore 5, 2) := by decide +kernel
theorem d_Z_type_3 : decode b_Z_type 3 = .ok (.lload_n 3, 1) := by decide +kernel
theorem d_Z_type_4 : decode b_Z_type 4 = .ok (.ldc2_w 102, 3) := by decide +kernel
theorem d_Z_type_7 : decode b_Z_type 7 = .ok (.land, 1) := by decide +kernel
theorem d_Z_type_8 : decode b_Z_type 8 = .ok (.lconst 0, 1) := by decide +kernel
theorem d_Z_type_9 : decode b_Z_type 9 = .ok (.lcmp, 1) := by decide +kernel
theorem d_Z_type_10 : decode b_Z_type 10 = .ok (.ifCond .eq 37, 3) := by decide +kernel
theorem d_Z_type_13 : decode b_Z_type 13 = .ok (.aload_n 0, 1) := by decide +kernel
theorem d_Z_type_14 : decode b_Z_type 14 = .ok (.getfield 23, 3) := by decide +kernel
theorem d_Z_type_17 : decode b_Z_type 17 = .ok (.aload_n 0, 1) := by decide +kernel
theorem d_Z_type_18 : decode b_Z_type 18 = .ok (.getfield 74, 3) := by decide +kernel
theorem d_Z_type_21 : decode b_Z_type 21 = .ok (.iaload, 1) := by decide +kernel
theorem d_Z_type_22 : decode b_Z_type 22 = .ok (.bipush 40, 2) := by decide +kernel
theorem d_Z_type_24 : decode b_Z_type 24 = .ok (.if_icmp .ge 23, 3) := by decide +kernel
theorem d_Z_type_27 : decode b_Z_type 27 = .ok (.aload_n 0, 1) := by decide +kernel
theorem d_Z_type_28 : decode b_Z_type 28 = .ok (.iload_n 1, 1) := by decide +kernel
theorem d_Z_type_29 : decode b_Z_type 29 = .ok (.invokevirtual 90, 3) := by decide +kernel
theorem d_Z_type_32 : decode b_Z_type 32 = .ok (.ifCond .eq 15, 3) := by decide +kernel
theorem d_Z_type_35 : decode b_Z_type 35 = .ok (.aload_n 0, 1) := by decide +kernel
theorem d_Z_type_36 : decode b_Z_type 36 = .ok (.iload_n 2, 1) := by decide +kernel
theorem d_Z_type_37 : decode b_Z_type 37 = .ok (.invokevirtual 104, 3) := by decide +kernel
theorem d_Z_type_40 : decode b_Z_type 40 = .ok (.ifCond .eq 7, 3) := by decide +kernel
theorem d_Z_type_43 : decode b_Z_type 43 = .ok (.iconst 1, 1) := by decide +kernel
theorem d_Z_type_44 : decode b_Z_type 44 = .ok (.goto 4, 3) := by decide +kernel
theorem d_Z_type_47 : decode b_Z_type 47 = .ok (.iconst 0, 1) := by decide +kernel
theorem d_Z_type_48 : decode b_Z_type 48 = .ok (.istore 6, 2) := by decide +kernel
theorem d_Z_type_50 : decode b_Z_type 50 = .ok (.iload 5, 2) := by decide +kernel
theorem d_Z_type_52 : decode b_Z_type 52 = .ok (.bipush 8, 2) := by decide +kernel
theorem d_Z_type_54 : decode b_Z_type 54 = .ok (.if_icmp .ge 55, 3) := by decide +kernel
theorem d_Z_type_57 : decode b_Z_type 57 = .ok (.lload_n 3, 1) := by decide +kernel
theorem d_Z_type_58 : decode b_Z_type 58 = .ok (.bipush 8, 2) := by decide +kernel
theorem d_Z_type_60 : decode b_Z_type 60 = .ok (.iload 5, 2) := by decide +kernel
theorem d_Z_type_62 : decode b_Z_type 62 = .ok (.imul, 1) := by decide +kernel
theorem d_Z_type_63 : decode b_Z_type 63 = .ok (.lshr, 1) := by decide +kernel
theorem d_Z_type_64 : decode b_Z_type 64 = .ok (.ldc2_w 102, 3) := by decide +kernel
theorem d_Z_type_67 : decode b_Z_type 67 = .ok (.land, 1) := by decide +kernel
theorem d_Z_type_68 : decode b_Z_type 68 = .ok (.lconst 0, 1) := by decide +kernel
theorem d_Z_type_69 : decode b_Z_type 69 = .ok (.lcmp, 1) := by decide +kernel
theorem d_Z_type_70 : decode b_Z_type 70 = .ok (.ifCond .eq 39, 3) := by decide +kernel
theorem d_Z_type_73 : decode b_Z_type 73 = .ok (.iload 6, 2) := by decide +kernel
theorem d_Z_type_75 : decode b_Z_type 75 = .ok (.ifCond .eq 25, 3) := by decide +kernel
theorem d_Z_type_78 : decode b_Z_type 78 = .ok (.lload_n 3, 1) := by decide +kernel
theorem d_Z_type_79 : decode b_Z_type 79 = .ok (.bipush 8, 2) := by decide +kernel
theorem d_Z_type_81 : decode b_Z_type 81 = .ok (.iload 5, 2) := by decide +kernel
theorem d_Z_type_83 : decode b_Z_type 83 = .ok (.imul, 1) := by decide +kernel
theorem d_Z_type_84 : decode b_Z_type 84 = .ok (.lshr, 1) := by decide +kernel
theorem d_Z_type_85 : decode b_Z_type 85 = .ok (.ldc2_w 102, 3) := by decide +kernel
theorem d_Z_type_88 : decode b_Z_type 88 = .ok (.land, 1) := by decide +kernel
theorem d_Z_type_89 : decode b_Z_type 89 = .ok (.l2i, 1) := by decide +kernel
theorem d_Z_type_90 : decode b_Z_type 90 = .ok (.invokestatic 107, 3) := by decide +kernel
theorem d_Z_type_93 : decode b_Z_type 93 = .ok (.ifCond .eq 7, 3) := by decide +kernel
theorem d_Z_type_96 : decode b_Z_type 96 = .ok (.iconst 1, 1) := by decide +kernel
theorem d_Z_type_97 : decode b_Z_type 97 = .ok (.goto 4, 3) := by decide +kernel
theorem d_Z_type_100 : decode b_Z_type 100 = .ok (.iconst 0, 1) := by decide +kernel
theorem d_Z_type_101 : decode b_Z_type 101 = .ok (.istore 6, 2) := by decide +kernel
theorem d_Z_type_103 : decode b_Z_type 103 = .ok (.iinc 5 1, 3) := by decide +kernel
theorem d_Z_type_106 : decode b_Z_type 106 = .ok (.goto (-56), 3) := by decide +kernel
theorem d_Z_type_109 : decode b_Z_type 109 = .ok (.iload 6, 2) := by decide +kernel
theorem d_Z_type_111 : decode b_Z_type 111 = .ok (.ifCond .eq 21, 3) := by decide +kernel
theorem d_Z_type_114 : decode b_Z_type 114 = .ok (.aload_n 0, 1) := by decide +kernel
theorem d_Z_type_115 : decode b_Z_type 115 = .ok (.getfield 26, 3) := by decide +kernel
theorem d_Z_type_118 : decode b_Z_type 118 = .ok (.aload_n 0, 1) := by decide +kernel
theorem d_Z_type_119 : decode b_Z_type 119 = .ok (.getfield 74, 3) := by decide +kernel
theorem d_Z_type_122 : decode b_Z_type 122 = .ok (.iaload, 1) := by decide +kernel
theorem d_Z_type_123 : decode b_Z_type 123 = .ok (.iload 5, 2) := by decide +kernel
theorem d_Z_type_125 : decode b_Z_type 125 = .ok (.iadd, 1) := by decide +kernel
theorem d_Z_type_126 : decode b_Z_type 126 = .ok (.sipush 512, 3) := by decide +kernel
theorem d_Z_type_129 : decode b_Z_type 129 = .ok (.if_icmp .le 5, 3) := by decide +kernel
theorem d_Z_type_132 : decode b_Z_type 132 = .ok (.iconst (-1), 1) := by decide +kernel
theorem d_Z_type_133 : decode b_Z_type 133 = .ok (.ireturn, 1) := by decide +kernel
theorem d_Z_type_134 : decode b_Z_type 134 = .ok (.iconst 0, 1) := by decide +kernel
theorem d_Z_type_135 : decode b_Z_type 135 = .ok (.istore 7, 2) := by decide +kernel
theorem d_Z_type_137 : decode b_Z_type 137 = .ok (.iload 7, 2) := by decide +kernel
theorem d_Z_type_139 : decode b_Z_type 139 = .ok (.iload 5, 2) := by decide +kernel
theorem d_Z_type_141 : decode b_Z_type 141 = .ok (.if_icmp .ge 48, 3) := by decide +kernel
theorem d_Z_type_144 : decode b_Z_type 144 = .ok (.aload_n 0, 1) := by decide +kernel
theorem d_Z_type_145 : decode b_Z_type 145 = .ok (.getfield 60, 3) := by decide +kernel
theorem d_Z_type_148 : decode b_Z_type 148 = .ok (.sipush 512, 3) := by decide +kernel
theorem d_Z_type_151 : decode b_Z_type 151 = .ok (.aload_n 0, 1) := by decide +kernel
theorem d_Z_type_152 : decode b_Z_type 152 = .ok (.getfield 74, 3) := by decide +kernel
theorem d_Z_type_155 : decode b_Z_type 155 = .ok (.imul, 1) := by decide +kernel
theorem d_Z_type_156 : decode b_Z_type 156 = .ok (.aload_n 0, 1) := by decide +kernel
theorem d_Z_type_157 : decode b_Z_type 157 = .ok (.getfield 26, 3) := by decide +kernel
theorem d_Z_type_160 : decode b_Z_type 160 = .ok (.aload_n 0, 1) := by decide +kernel
theorem d_Z_type_161 : decode b_Z_type 161 = .ok (.getfield 74, 3) := by decide +kernel
theorem d_Z_type_164 : decode b_Z_type 164 = .ok (.iaload, 1) := by decide +kernel
theorem d_Z_type_165 : decode b_Z_type 165 = .ok (.iadd, 1) := by decide +kernel
theorem d_Z_type_166 : decode b_Z_type 166 = .ok (.iload 7, 2) := by decide +kernel
theorem d_Z_type_168 : decode b_Z_type 168 = .ok (.iadd, 1) := by decide +kernel
theorem d_Z_type_169 : decode b_Z_type 169 = .ok (.lload_n 3, 1) := by decide +kernel
theorem d_Z_type_170 : decode b_Z_type 170 = .ok (.bipush 8, 2) := by decide +kernel
theorem d_Z_type_172 : decode b_Z_type 172 = .ok (.iload 7, 2) := by decide +kernel
theorem d_Z_type_174 : decode b_Z_type 174 = .ok (.imul, 1) := by decide +kernel
theorem d_Z_type_175 : decode b_Z_type 175 = .ok (.lshr, 1) := by decide +kernel
theorem d_Z_type_176 : decode b_Z_type 176 = .ok (.ldc2_w 102, 3) := by decide +kernel
theorem d_Z_type_179 : decode b_Z_type 179 = .ok (.land, 1) := by decide +kernel
theorem d_Z_type_180 : decode b_Z_type 180 = .ok (.l2i, 1) := by decide +kernel
theorem d_Z_type_181 : decode b_Z_type 181 = .ok (.i2s, 1) := by decide +kernel
theorem d_Z_type_182 : decode b_Z_type 182 = .ok (.sastore, 1) := by decide +kernel
theorem d_Z_type_183 : decode b_Z_type 183 = .ok (.iinc 7 1, 3) := by decide +kernel
theorem d_Z_type_186 : decode b_Z_type 186 = .ok (.goto (-49), 3) := by decide +kernel
theorem d_Z_type_189 : decode b_Z_type 189 = .ok (.aload_n 0, 1) := by decide +kernel
theorem d_Z_type_190 : decode b_Z_type 190 = .ok (.iconst 0, 1) := by decide +kernel
theorem d_Z_type_191 : decode b_Z_type 191 = .ok (.iload_n 1, 1) := by decide +kernel
theorem d_Z_type_192 : decode b_Z_type 192 = .ok (.iload_n 2, 1) := by decide +kernel
theorem d_Z_type_193 : decode b_Z_type 193 = .ok (.iconst (-1), 1) := by decide +kernel
theorem d_Z_type_194 : decode b_Z_type 194 = .ok (.iload 5, 2) := by decide +kernel
theorem d_Z_type_196 : decode b_Z_type 196 = .ok (.invokevirtual 110, 3) := by decide +kernel
theorem d_Z_type_199 : decode b_Z_type 199 = .ok (.ireturn, 1) := by decide +kernel
theorem d_Z_end_0 : decode b_Z_end 0 = .ok (.aload_n 0, 1) := by decide +kernel
theorem d_Z_end_1 : decode b_Z_end 1 = .ok (.getfield 23, 3) := by decide +kernel
theorem d_Z_end_4 : decode b_Z_end 4 = .ok (.aload_n 0, 1) := by decide +kernel
theorem d_Z_end_5 : decode b_Z_end 5 = .ok (.getfield 74, 3) := by decide +kernel
theorem d_Z_end_8 : decode b_Z_end 8 = .ok (.iaload, 1) := by decide +kernel
theorem d_Z_end_9 : decode b_Z_end 9 = .ok (.bipush 40, 2) := by decide +kernel
theorem d_Z_end_11 : decode b_Z_end 11 = .ok (.if_icmp .eq 62, 3) := by decide +kernel
theorem d_Z_end_14 : decode b_Z_end 14 = .ok (.aload_n 0, 1) := by decide +kernel
theorem d_Z_end_15 : decode b_Z_end 15 = .ok (.iload_n 1, 1) := by decide +kernel
theorem d_Z_end_16 : decode b_Z_end 16 = .ok (.invokevirtual 90, 3) := by decide +kernel
theorem d_Z_end_19 : decode b_Z_end 19 = .ok (.ifCond .eq 54, 3) := by decide +kernel
theorem d_Z_end_22 : decode b_Z_end 22 = .ok (.aload_n 0, 1) := by decide +kernel
theorem d_Z_end_23 : decode b_Z_end 23 = .ok (.iload_n 2, 1) := by decide +kernel
theorem d_Z_end_24 : decode b_Z_end 24 = .ok (.invokevirtual 104, 3) := by decide +kernel
theorem d_Z_end_27 : decode b_Z_end 27 = .ok (.ifCond .eq 46, 3) := by decide +kernel
theorem d_Z_end_30 : decode b_Z_end 30 = .ok (.iload_n 3, 1) := by decide +kernel
theorem d_Z_end_31 : decode b_Z_end 31 = .ok (.iconst (-1), 1) := by decide +kernel
theorem d_Z_end_32 : decode b_Z_end 32 = .ok (.aload_n 0, 1) := by decide +kernel
theorem d_Z_end_33 : decode b_Z_end 33 = .ok (.getfield 13, 3) := by decide +kernel
theorem d_Z_end_36 : decode b_Z_end 36 = .ok (.aload_n 0, 1) := by decide +kernel
theorem d_Z_end_37 : decode b_Z_end 37 = .ok (.getfield 74, 3) := by decide +kernel
theorem d_Z_end_40 : decode b_Z_end 40 = .ok (.iaload, 1) := by decide +kernel
theorem d_Z_end_41 : decode b_Z_end 41 = .ok (.iconst 1, 1) := by decide +kernel
theorem d_Z_end_42 : decode b_Z_end 42 = .ok (.isub, 1) := by decide +kernel
theorem d_Z_end_43 : decode b_Z_end 43 = .ok (.invokestatic 70, 3) := by decide +kernel
theorem d_Z_end_46 : decode b_Z_end 46 = .ok (.ifCond .eq 27, 3) := by decide +kernel
theorem d_Z_end_49 : decode b_Z_end 49 = .ok (.iload 4, 2) := by decide +kernel
theorem d_Z_end_51 : decode b_Z_end 51 = .ok (.iconst 1, 1) := by decide +kernel
theorem d_Z_end_52 : decode b_Z_end 52 = .ok (.if_icmp .lt 21, 3) := by decide +kernel
theorem d_Z_end_55 : decode b_Z_end 55 = .ok (.iload 4, 2) := by decide +kernel
theorem d_Z_end_57 : decode b_Z_end 57 = .ok (.sipush 512, 3) := by decide +kernel
theorem d_Z_end_60 : decode b_Z_end 60 = .ok (.aload_n 0, 1) := by decide +kernel
theorem d_Z_end_61 : decode b_Z_end 61 = .ok (.getfield 26, 3) := by decide +kernel
theorem d_Z_end_64 : decode b_Z_end 64 = .ok (.aload_n 0, 1) := by decide +kernel
theorem d_Z_end_65 : decode b_Z_end 65 = .ok (.getfield 74, 3) := by decide +kernel
theorem d_Z_end_68 : decode b_Z_end 68 = .ok (.iaload, 1) := by decide +kernel
theorem d_Z_end_69 : decode b_Z_end 69 = .ok (.isub, 1) := by decide +kernel
theorem d_Z_end_70 : decode b_Z_end 70 = .ok (.if_icmp .le 5, 3) := by decide +kernel
theorem d_Z_end_73 : decode b_Z_end 73 = .ok (.iconst (-1), 1) := by decide +kernel
theorem d_Z_end_74 : decode b_Z_end 74 = .ok (.ireturn, 1) := by decide +kernel
theorem d_Z_end_75 : decode b_Z_end 75 = .ok (.iconst 0, 1) := by decide +kernel
theorem d_Z_end_76 : decode b_Z_end 76 = .ok (.istore 5, 2) := by decide +kernel
theorem d_Z_end_78 : decode b_Z_end 78 = .ok (.iload 5, 2) := by decide +kernel
theorem d_Z_end_80 : decode b_Z_end 80 = .ok (.iload 4, 2) := by decide +kernel
theorem d_Z_end_82 : decode b_Z_end 82 = .ok (.if_icmp .ge 37, 3) := by decide +kernel
theorem d_Z_end_85 : decode b_Z_end 85 = .ok (.aload_n 0, 1) := by decide +kernel
theorem d_Z_end_86 : decode b_Z_end 86 = .ok (.getfield 60, 3) := by decide +kernel
theorem d_Z_end_89 : decode b_Z_end 89 = .ok (.sipush 512, 3) := by decide +kernel
theorem d_Z_end_92 : decode b_Z_end 92 = .ok (.aload_n 0, 1) := by decide +kernel
theorem d_Z_end_93 : decode b_Z_end 93 = .ok (.getfield 74, 3) := by decide +kernel
theorem d_Z_end_96 : decode b_Z_end 96 = .ok (.imul, 1) := by decide +kernel
theorem d_Z_end_97 : decode b_Z_end 97 = .ok (.aload_n 0, 1) := by decide +kernel
theorem d_Z_end_98 : decode b_Z_end 98 = .ok (.getfield 26, 3) := by decide +kernel
theorem d_Z_end_101 : decode b_Z_end 101 = .ok (.aload_n 0, 1) := by decide +kernel
theorem d_Z_end_102 : decode b_Z_end 102 = .ok (.getfield 74, 3) := by decide +kernel
theorem d_Z_end_105 : decode b_Z_end 105 = .ok (.iaload, 1) := by decide +kernel
theorem d_Z_end_106 : decode b_Z_end 106 = .ok (.iadd, 1) := by decide +kernel
theorem d_Z_end_107 : decode b_Z_end 107 = .ok (.iload 5, 2) := by decide +kernel
theorem d_Z_end_109 : decode b_Z_end 109 = .ok (.iadd, 1) := by decide +kernel
theorem d_Z_end_110 : decode b_Z_end 110 = .ok (.bipush 10, 2) := by decide +kernel
theorem d_Z_end_112 : decode b_Z_end 112 = .ok (.sastore, 1) := by decide +kernel
theorem d_Z_end_113 : decode b_Z_end 113 = .ok (.iinc 5 1, 3) := by decide +kernel
theorem d_Z_end_116 : decode b_Z_end 116 = .ok (.goto (-38), 3) := by decide +kernel
theorem d_Z_end_119 : decode b_Z_end 119 = .ok (.aload_n 0, 1) := by decide +kernel
theorem d_Z_end_120 : decode b_Z_end 120 = .ok (.iconst 1, 1) := by decide +kernel
theorem d_Z_end_121 : decode b_Z_end 121 = .ok (.iload_n 1, 1) := by decide +kernel
theorem d_Z_end_122 : decode b_Z_end 122 = .ok (.iload_n 2, 1) := by decide +kernel
theorem d_Z_end_123 : decode b_Z_end 123 = .ok (.iload_n 3, 1) := by decide +kernel
theorem d_Z_end_124 : decode b_Z_end 124 = .ok (.iload 4, 2) := by decide +kernel
theorem d_Z_end_126 : decode b_Z_end 126 = .ok (.invokevirtual 110, 3) := by decide +kernel
theorem d_Z_end_129 : decode b_Z_end 129 = .ok (.ireturn, 1) := by decide +kernel
theorem d_Z_count_0 : decode b_Z_count 0 = .ok (.iload_n 1, 1) := by decide +kernel
theorem d_Z_count_1 : decode b_Z_count 1 = .ok (.tableswitch 94 0 5 #[39, 49, 59, 69, 79, 89], 39) := by decide +kernel
theorem d_Z_count_40 : decode b_Z_count 40 = .ok (.aload_n 0, 1) := by decide +kernel
theorem d_Z_count_41 : decode b_Z_count 41 = .ok (.getfield 13, 3) := by decide +kernel
theorem d_Z_count_44 : decode b_Z_count 44 = .ok (.aload_n 0, 1) := by decide +kernel
theorem d_Z_count_45 : decode b_Z_count 45 = .ok (.getfield 74, 3) := by decide +kernel
theorem d_Z_count_48 : decode b_Z_count 48 = .ok (.iaload, 1) := by decide +kernel
theorem d_Z_count_49 : decode b_Z_count 49 = .ok (.ireturn, 1) := by decide +kernel
theorem d_Z_count_50 : decode b_Z_count 50 = .ok (.aload_n 0, 1) := by decide +kernel
theorem d_Z_count_51 : decode b_Z_count 51 = .ok (.getfield 17, 3) := by decide +kernel
theorem d_Z_count_54 : decode b_Z_count 54 = .ok (.aload_n 0, 1) := by decide +kernel
theorem d_Z_count_55 : decode b_Z_count 55 = .ok (.getfield 74, 3) := by decide +kernel
theorem d_Z_count_58 : decode b_Z_count 58 = .ok (.iaload, 1) := by decide +kernel
theorem d_Z_count_59 : decode b_Z_count 59 = .ok (.ireturn, 1) := by decide +kernel
theorem d_Z_count_60 : decode b_Z_count 60 = .ok (.aload_n 0, 1) := by decide +kernel
theorem d_Z_count_61 : decode b_Z_count 61 = .ok (.getfield 20, 3) := by decide +kernel
theorem d_Z_count_64 : decode b_Z_count 64 = .ok (.aload_n 0, 1) := by decide +kernel
theorem d_Z_count_65 : decode b_Z_count 65 = .ok (.getfield 74, 3) := by decide +kernel
theorem d_Z_count_68 : decode b_Z_count 68 = .ok (.iaload, 1) := by decide +kernel
theorem d_Z_count_69 : decode b_Z_count 69 = .ok (.ireturn, 1) := by decide +kernel
theorem d_Z_count_70 : decode b_Z_count 70 = .ok (.aload_n 0, 1) := by decide +kernel
theorem d_Z_count_71 : decode b_Z_count 71 = .ok (.getfield 23, 3) := by decide +kernel
theorem d_Z_count_74 : decode b_Z_count 74 = .ok (.aload_n 0, 1) := by decide +kernel
theorem d_Z_count_75 : decode b_Z_count 75 = .ok (.getfield 74, 3) := by decide +kernel
theorem d_Z_count_78 : decode b_Z_count 78 = .ok (.iaload, 1) := by decide +kernel
theorem d_Z_count_79 : decode b_Z_count 79 = .ok (.ireturn, 1) := by decide +kernel
theorem d_Z_count_80 : decode b_Z_count 80 = .ok (.aload_n 0, 1) := by decide +kernel
theorem d_Z_count_81 : decode b_Z_count 81 = .ok (.getfield 26, 3) := by decide +kernel
theorem d_Z_count_84 : decode b_Z_count 84 = .ok (.aload_n 0, 1) := by decide +kernel
theorem d_Z_count_85 : decode b_Z_count 85 = .ok (.getfield 74, 3) := by decide +kernel
theorem d_Z_count_88 : decode b_Z_count 88 = .ok (.iaload, 1) := by decide +kernel
theorem d_Z_count_89 : decode b_Z_count 89 = .ok (.ireturn, 1) := by decide +kernel
theorem d_Z_count_90 : decode b_Z_count 90 = .ok (.aload_n 0, 1) := by decide +kernel
theorem d_Z_count_91 : decode b_Z_count 91 = .ok (.getfield 114, 3) := by decide +kernel
theorem d_Z_count_94 : decode b_Z_count 94 = .ok (.ireturn, 1) := by decide +kernel
theorem d_Z_count_95 : decode b_Z_count 95 = .ok (.iconst (-1), 1) := by decide +kernel
theorem d_Z_count_96 : decode b_Z_count 96 = .ok (.ireturn, 1) := by decide +kernel
theorem d_Z_base_0 : decode b_Z_base 0 = .ok (.iload_n 1, 1) := by decide +kernel
theorem d_Z_base_1 : decode b_Z_base 1 = .ok (.iconst 0, 1) := by decide +kernel
theorem d_Z_base_2 : decode b_Z_base 2 = .ok (.aload_n 0, 1) := by decide +kernel
theorem d_Z_base_3 : decode b_Z_base 3 = .ok (.getfield 13, 3) := by decide +kernel
theorem d_Z_base_6 : decode b_Z_base 6 = .ok (.aload_n 0, 1) := by decide +kernel
theorem d_Z_base_7 : decode b_Z_base 7 = .ok (.getfield 74, 3) := by decide +kernel
theorem d_Z_base_10 : decode b_Z_base 10 = .ok (.iaload, 1) := by decide +kernel
theorem d_Z_base_11 : decode b_Z_base 11 = .ok (.iconst 1, 1) := by decide +kernel
theorem d_Z_base_12 : decode b_Z_base 12 = .ok (.isub, 1) := by decide +kernel
theorem d_Z_base_13 : decode b_Z_base 13 = .ok (.invokestatic 70, 3) := by decide +kernel
theorem d_Z_base_16 : decode b_Z_base 16 = .ok (.ifCond .eq 20, 3) := by decide +kernel
theorem d_Z_base_19 : decode b_Z_base 19 = .ok (.aload_n 0, 1) := by decide +kernel
theorem d_Z_base_20 : decode b_Z_base 20 = .ok (.getfield 29, 3) := by decide +kernel
theorem d_Z_base_23 : decode b_Z_base 23 = .ok (.bipush 16, 2) := by decide +kernel
theorem d_Z_base_25 : decode b_Z_base 25 = .ok (.aload_n 0, 1) := by decide +kernel
theorem d_Z_base_26 : decode b_Z_base 26 = .ok (.getfield 74, 3) := by decide +kernel
theorem d_Z_base_29 : decode b_Z_base 29 = .ok (.imul, 1) := by decide +kernel
theorem d_Z_base_30 : decode b_Z_base 30 = .ok (.iload_n 1, 1) := by decide +kernel
theorem d_Z_base_31 : decode b_Z_base 31 = .ok (.iadd, 1) := by decide +kernel
theorem d_Z_base_32 : decode b_Z_base 32 = .ok (.iaload, 1) := by decide +kernel
theorem d_Z_base_33 : decode b_Z_base 33 = .ok (.goto 5, 3) := by decide +kernel
theorem d_Z_base_36 : decode b_Z_base 36 = .ok (.bipush (-2), 2) := by decide +kernel
theorem d_Z_base_38 : decode b_Z_base 38 = .ok (.ireturn, 1) := by decide +kernel
theorem d_Z_value_0 : decode b_Z_value 0 = .ok (.aload_n 0, 1) := by decide +kernel
theorem d_Z_value_1 : decode b_Z_value 1 = .ok (.iload_n 1, 1) := by decide +kernel
theorem d_Z_value_2 : decode b_Z_value 2 = .ok (.iload_n 2, 1) := by decide +kernel
theorem d_Z_value_3 : decode b_Z_value 3 = .ok (.invokevirtual 94, 3) := by decide +kernel
theorem d_Z_value_6 : decode b_Z_value 6 = .ok (.ifCond .eq 34, 3) := by decide +kernel
theorem d_Z_value_9 : decode b_Z_value 9 = .ok (.iload_n 3, 1) := by decide +kernel
theorem d_Z_value_10 : decode b_Z_value 10 = .ok (.iconst 0, 1) := by decide +kernel
theorem d_Z_value_11 : decode b_Z_value 11 = .ok (.bipush 23, 2) := by decide +kernel
theorem d_Z_value_13 : decode b_Z_value 13 = .ok (.invokestatic 70, 3) := by decide +kernel
theorem d_Z_value_16 : decode b_Z_value 16 = .ok (.ifCond .eq 24, 3) := by decide +kernel
theorem d_Z_value_19 : decode b_Z_value 19 = .ok (.aload_n 0, 1) := by decide +kernel
theorem d_Z_value_20 : decode b_Z_value 20 = .ok (.getfield 32, 3) := by decide +kernel
theorem d_Z_value_23 : decode b_Z_value 23 = .ok (.aload_n 0, 1) := by decide +kernel
theorem d_Z_value_24 : decode b_Z_value 24 = .ok (.getfield 74, 3) := by decide +kernel
theorem d_Z_value_27 : decode b_Z_value 27 = .ok (.iload_n 1, 1) := by decide +kernel
theorem d_Z_value_28 : decode b_Z_value 28 = .ok (.iload_n 2, 1) := by decide +kernel
theorem d_Z_value_29 : decode b_Z_value 29 = .ok (.invokestatic 78, 3) := by decide +kernel
theorem d_Z_value_32 : decode b_Z_value 32 = .ok (.iload_n 3, 1) := by decide +kernel
theorem d_Z_value_33 : decode b_Z_value 33 = .ok (.iadd, 1) := by decide +kernel
theorem d_Z_value_34 : decode b_Z_value 34 = .ok (.iaload, 1) := by decide +kernel
theorem d_Z_value_35 : decode b_Z_value 35 = .ok (.iconst 1, 1) := by decide +kernel
theorem d_Z_value_36 : decode b_Z_value 36 = .ok (.isub, 1) := by decide +kernel
theorem d_Z_value_37 : decode b_Z_value 37 = .ok (.goto 5, 3) := by decide +kernel
theorem d_Z_value_40 : decode b_Z_value 40 = .ok (.bipush (-2), 2) := by decide +kernel
theorem d_Z_value_42 : decode b_Z_value 42 = .ok (.ireturn, 1) := by decide +kernel
theorem d_Z_changes_0 : decode b_Z_changes 0 = .ok (.aload_n 0, 1) := by decide +kernel
theorem d_Z_changes_1 : decode b_Z_changes 1 = .ok (.iload_n 1, 1) := by decide +kernel
theorem d_Z_changes_2 : decode b_Z_changes 2 = .ok (.invokevirtual 104, 3) := by decide +kernel
theorem d_Z_changes_5 : decode b_Z_changes 5 = .ok (.ifCond .eq 12, 3) := by decide +kernel
theorem d_Z_changes_8 : decode b_Z_changes 8 = .ok (.iload_n 2, 1) := by decide +kernel
theorem d_Z_changes_9 : decode b_Z_changes 9 = .ok (.iconst 0, 1) := by decide +kernel
theorem d_Z_changes_10 : decode b_Z_changes 10 = .ok (.iconst 2, 1) := by decide +kernel
theorem d_Z_changes_11 : decode b_Z_changes 11 = .ok (.invokestatic 70, 3) := by decide +kernel
theorem d_Z_changes_14 : decode b_Z_changes 14 = .ok (.ifCond .ne 6, 3) := by decide +kernel
theorem d_Z_changes_17 : decode b_Z_changes 17 = .ok (.bipush (-2), 2) := by decide +kernel
theorem d_Z_changes_19 : decode b_Z_changes 19 = .ok (.ireturn, 1) := by decide +kernel
theorem d_Z_changes_20 : decode b_Z_changes 20 = .ok (.bipush 24, 2) := by decide +kernel
theorem d_Z_changes_22 : decode b_Z_changes 22 = .ok (.aload_n 0, 1) := by decide +kernel
theorem d_Z_changes_23 : decode b_Z_changes 23 = .ok (.getfield 74, 3) := by decide +kernel
theorem d_Z_changes_26 : decode b_Z_changes 26 = .ok (.imul, 1) := by decide +kernel
theorem d_Z_changes_27 : decode b_Z_changes 27 = .ok (.iload_n 1, 1) := by decide +kernel
theorem d_Z_changes_28 : decode b_Z_changes 28 = .ok (.iadd, 1) := by decide +kernel
theorem d_Z_changes_29 : decode b_Z_changes 29 = .ok (.istore_n 3, 1) := by decide +kernel
theorem d_Z_changes_30 : decode b_Z_changes 30 = .ok (.iload_n 2, 1) := by decide +kernel
theorem d_Z_changes_31 : decode b_Z_changes 31 = .ok (.ifCond .ne 12, 3) := by decide +kernel
theorem d_Z_changes_34 : decode b_Z_changes 34 = .ok (.aload_n 0, 1) := by decide +kernel
theorem d_Z_changes_35 : decode b_Z_changes 35 = .ok (.getfield 35, 3) := by decide +kernel
theorem d_Z_changes_38 : decode b_Z_changes 38 = .ok (.iload_n 3, 1) := by decide +kernel
theorem d_Z_changes_39 : decode b_Z_changes 39 = .ok (.saload, 1) := by decide +kernel
theorem d_Z_changes_40 : decode b_Z_changes 40 = .ok (.goto 23, 3) := by decide +kernel
theorem d_Z_changes_43 : decode b_Z_changes 43 = .ok (.iload_n 2, 1) := by decide +kernel
theorem d_Z_changes_44 : decode b_Z_changes 44 = .ok (.iconst 1, 1) := by decide +kernel
theorem d_Z_changes_45 : decode b_Z_changes 45 = .ok (.if_icmp .ne 12, 3) := by decide +kernel
theorem d_Z_changes_48 : decode b_Z_changes 48 = .ok (.aload_n 0, 1) := by decide +kernel
theorem d_Z_changes_49 : decode b_Z_changes 49 = .ok (.getfield 39, 3) := by decide +kernel
theorem d_Z_changes_52 : decode b_Z_changes 52 = .ok (.iload_n 3, 1) := by decide +kernel
theorem d_Z_changes_53 : decode b_Z_changes 53 = .ok (.saload, 1) := by decide +kernel
theorem d_Z_changes_54 : decode b_Z_changes 54 = .ok (.goto 9, 3) := by decide +kernel
theorem d_Z_changes_57 : decode b_Z_changes 57 = .ok (.aload_n 0, 1) := by decide +kernel
theorem d_Z_changes_58 : decode b_Z_changes 58 = .ok (.getfield 42, 3) := by decide +kernel
theorem d_Z_changes_61 : decode b_Z_changes 61 = .ok (.iload_n 3, 1) := by decide +kernel
theorem d_Z_changes_62 : decode b_Z_changes 62 = .ok (.saload, 1) := by decide +kernel
theorem d_Z_changes_63 : decode b_Z_changes 63 = .ok (.ireturn, 1) := by decide +kernel
theorem d_Z_run_0 : decode b_Z_run 0 = .ok (.iload_n 1, 1) := by decide +kernel
theorem d_Z_run_1 : decode b_Z_run 1 = .ok (.iconst 0, 1) := by decide +kernel
theorem d_Z_run_2 : decode b_Z_run 2 = .ok (.aload_n 0, 1) := by decide +kernel
theorem d_Z_run_3 : decode b_Z_run 3 = .ok (.getfield 23, 3) := by decide +kernel
theorem d_Z_run_6 : decode b_Z_run 6 = .ok (.aload_n 0, 1) := by decide +kernel
theorem d_Z_run_7 : decode b_Z_run 7 = .ok (.getfield 74, 3) := by decide +kernel
theorem d_Z_run_10 : decode b_Z_run 10 = .ok (.iaload, 1) := by decide +kernel
theorem d_Z_run_11 : decode b_Z_run 11 = .ok (.iconst 1, 1) := by decide +kernel
theorem d_Z_run_12 : decode b_Z_run 12 = .ok (.isub, 1) := by decide +kernel
theorem d_Z_run_13 : decode b_Z_run 13 = .ok (.invokestatic 70, 3) := by decide +kernel
theorem d_Z_run_16 : decode b_Z_run 16 = .ok (.ifCond .eq 12, 3) := by decide +kernel
theorem d_Z_run_19 : decode b_Z_run 19 = .ok (.iload_n 2, 1) := by decide +kernel
theorem d_Z_run_20 : decode b_Z_run 20 = .ok (.iconst 0, 1) := by decide +kernel
theorem d_Z_run_21 : decode b_Z_run 21 = .ok (.iconst 5, 1) := by decide +kernel
theorem d_Z_run_22 : decode b_Z_run 22 = .ok (.invokestatic 70, 3) := by decide +kernel
theorem d_Z_run_25 : decode b_Z_run 25 = .ok (.ifCond .ne 6, 3) := by decide +kernel
theorem d_Z_run_28 : decode b_Z_run 28 = .ok (.bipush (-2), 2) := by decide +kernel
theorem d_Z_run_30 : decode b_Z_run 30 = .ok (.ireturn, 1) := by decide +kernel
theorem d_Z_run_31 : decode b_Z_run 31 = .ok (.bipush 40, 2) := by decide +kernel
theorem d_Z_run_33 : decode b_Z_run 33 = .ok (.aload_n 0, 1) := by decide +kernel
theorem d_Z_run_34 : decode b_Z_run 34 = .ok (.getfield 74, 3) := by decide +kernel
theorem d_Z_run_37 : decode b_Z_run 37 = .ok (.imul, 1) := by decide +kernel
theorem d_Z_run_38 : decode b_Z_run 38 = .ok (.iload_n 1, 1) := by decide +kernel
theorem d_Z_run_39 : decode b_Z_run 39 = .ok (.iadd, 1) := by decide +kernel
theorem d_Z_run_40 : decode b_Z_run 40 = .ok (.istore_n 3, 1) := by decide +kernel
theorem d_Z_run_41 : decode b_Z_run 41 = .ok (.iconst 0, 1) := by decide +kernel
theorem d_Z_run_42 : decode b_Z_run 42 = .ok (.istore 4, 2) := by decide +kernel
theorem d_Z_run_44 : decode b_Z_run 44 = .ok (.bipush 40, 2) := by decide +kernel
theorem d_Z_run_46 : decode b_Z_run 46 = .ok (.aload_n 0, 1) := by decide +kernel
theorem d_Z_run_47 : decode b_Z_run 47 = .ok (.getfield 74, 3) := by decide +kernel
theorem d_Z_run_50 : decode b_Z_run 50 = .ok (.imul, 1) := by decide +kernel
theorem d_Z_run_51 : decode b_Z_run 51 = .ok (.istore 5, 2) := by decide +kernel
theorem d_Z_run_53 : decode b_Z_run 53 = .ok (.iload 5, 2) := by decide +kernel
theorem d_Z_run_55 : decode b_Z_run 55 = .ok (.iload_n 3, 1) := by decide +kernel
theorem d_Z_run_56 : decode b_Z_run 56 = .ok (.if_icmp .ge 21, 3) := by decide +kernel
theorem d_Z_run_59 : decode b_Z_run 59 = .ok (.iload 4, 2) := by decide +kernel
theorem d_Z_run_61 : decode b_Z_run 61 = .ok (.aload_n 0, 1) := by decide +kernel
theorem d_Z_run_62 : decode b_Z_run 62 = .ok (.getfield 57, 3) := by decide +kernel
theorem d_Z_run_65 : decode b_Z_run 65 = .ok (.iload 5, 2) := by decide +kernel
theorem d_Z_run_67 : decode b_Z_run 67 = .ok (.saload, 1) := by decide +kernel
theorem d_Z_run_68 : decode b_Z_run 68 = .ok (.iadd, 1) := by decide +kernel
theorem d_Z_run_69 : decode b_Z_run 69 = .ok (.istore 4, 2) := by decide +kernel
theorem d_Z_run_71 : decode b_Z_run 71 = .ok (.iinc 5 1, 3) := by decide +kernel
theorem d_Z_run_74 : decode b_Z_run 74 = .ok (.goto (-21), 3) := by decide +kernel
theorem d_Z_run_77 : decode b_Z_run 77 = .ok (.iload_n 2, 1) := by decide +kernel
theorem d_Z_run_78 : decode b_Z_run 78 = .ok (.ifCond .ne 12, 3) := by decide +kernel
theorem d_Z_run_81 : decode b_Z_run 81 = .ok (.aload_n 0, 1) := by decide +kernel
theorem d_Z_run_82 : decode b_Z_run 82 = .ok (.getfield 45, 3) := by decide +kernel
theorem d_Z_run_85 : decode b_Z_run 85 = .ok (.iload_n 3, 1) := by decide +kernel
theorem d_Z_run_86 : decode b_Z_run 86 = .ok (.saload, 1) := by decide +kernel
theorem d_Z_run_87 : decode b_Z_run 87 = .ok (.goto 61, 3) := by decide +kernel
theorem d_Z_run_90 : decode b_Z_run 90 = .ok (.iload_n 2, 1) := by decide +kernel
theorem d_Z_run_91 : decode b_Z_run 91 = .ok (.iconst 1, 1) := by decide +kernel
theorem d_Z_run_92 : decode b_Z_run 92 = .ok (.if_icmp .ne 12, 3) := by decide +kernel
theorem d_Z_run_95 : decode b_Z_run 95 = .ok (.aload_n 0, 1) := by decide +kernel
theorem d_Z_run_96 : decode b_Z_run 96 = .ok (.getfield 48, 3) := by decide +kernel
theorem d_Z_run_99 : decode b_Z_run 99 = .ok (.iload_n 3, 1) := by decide +kernel
theorem d_Z_run_100 : decode b_Z_run 100 = .ok (.saload, 1) := by decide +kernel
theorem d_Z_run_101 : decode b_Z_run 101 = .ok (.goto 47, 3) := by decide +kernel
theorem d_Z_run_104 : decode b_Z_run 104 = .ok (.iload_n 2, 1) := by decide +kernel
theorem d_Z_run_105 : decode b_Z_run 105 = .ok (.iconst 2, 1) := by decide +kernel
theorem d_Z_run_106 : decode b_Z_run 106 = .ok (.if_icmp .ne 12, 3) := by decide +kernel
theorem d_Z_run_109 : decode b_Z_run 109 = .ok (.aload_n 0, 1) := by decide +kernel
theorem d_Z_run_110 : decode b_Z_run 110 = .ok (.getfield 51, 3) := by decide +kernel
theorem d_Z_run_113 : decode b_Z_run 113 = .ok (.iload_n 3, 1) := by decide +kernel
theorem d_Z_run_114 : decode b_Z_run 114 = .ok (.saload, 1) := by decide +kernel
theorem d_Z_run_115 : decode b_Z_run 115 = .ok (.goto 33, 3) := by decide +kernel
theorem d_Z_run_118 : decode b_Z_run 118 = .ok (.iload_n 2, 1) := by decide +kernel
theorem d_Z_run_119 : decode b_Z_run 119 = .ok (.iconst 3, 1) := by decide +kernel
theorem d_Z_run_120 : decode b_Z_run 120 = .ok (.if_icmp .ne 12, 3) := by decide +kernel
theorem d_Z_run_123 : decode b_Z_run 123 = .ok (.aload_n 0, 1) := by decide +kernel
theorem d_Z_run_124 : decode b_Z_run 124 = .ok (.getfield 54, 3) := by decide +kernel
theorem d_Z_run_127 : decode b_Z_run 127 = .ok (.iload_n 3, 1) := by decide +kernel
theorem d_Z_run_128 : decode b_Z_run 128 = .ok (.saload, 1) := by decide +kernel
theorem d_Z_run_129 : decode b_Z_run 129 = .ok (.goto 19, 3) := by decide +kernel
theorem d_Z_run_132 : decode b_Z_run 132 = .ok (.iload_n 2, 1) := by decide +kernel
theorem d_Z_run_133 : decode b_Z_run 133 = .ok (.iconst 4, 1) := by decide +kernel
theorem d_Z_run_134 : decode b_Z_run 134 = .ok (.if_icmp .ne 8, 3) := by decide +kernel
theorem d_Z_run_137 : decode b_Z_run 137 = .ok (.iload 4, 2) := by decide +kernel
theorem d_Z_run_139 : decode b_Z_run 139 = .ok (.goto 9, 3) := by decide +kernel
theorem d_Z_run_142 : decode b_Z_run 142 = .ok (.aload_n 0, 1) := by decide +kernel
theorem d_Z_run_143 : decode b_Z_run 143 = .ok (.getfield 57, 3) := by decide +kernel
theorem d_Z_run_146 : decode b_Z_run 146 = .ok (.iload_n 3, 1) := by decide +kernel
theorem d_Z_run_147 : decode b_Z_run 147 = .ok (.saload, 1) := by decide +kernel
theorem d_Z_run_148 : decode b_Z_run 148 = .ok (.ireturn, 1) := by decide +kernel
