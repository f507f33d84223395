theorem dJ9_max_7cf53_0 : decode cJ9_max_7cf53 0 = .ok (.iload_n 0, 1) := by decide +kernel
theorem dJ9_max_7cf53_1 : decode cJ9_max_7cf53 1 = .ok (.iload_n 1, 1) := by decide +kernel
theorem dJ9_max_7cf53_2 : decode cJ9_max_7cf53 2 = .ok (.if_icmp .lt 7, 3) := by decide +kernel
theorem dJ9_max_7cf53_5 : decode cJ9_max_7cf53 5 = .ok (.iload_n 0, 1) := by decide +kernel
theorem dJ9_max_7cf53_6 : decode cJ9_max_7cf53 6 = .ok (.goto 4, 3) := by decide +kernel
theorem dJ9_max_7cf53_9 : decode cJ9_max_7cf53 9 = .ok (.iload_n 1, 1) := by decide +kernel
theorem dJ9_max_7cf53_10 : decode cJ9_max_7cf53 10 = .ok (.ireturn, 1) := by decide +kernel
theorem dJ9_min_7cf53_0 : decode cJ9_min_7cf53 0 = .ok (.iload_n 0, 1) := by decide +kernel
theorem dJ9_min_7cf53_1 : decode cJ9_min_7cf53 1 = .ok (.iload_n 1, 1) := by decide +kernel
theorem dJ9_min_7cf53_2 : decode cJ9_min_7cf53 2 = .ok (.if_icmp .gt 7, 3) := by decide +kernel
theorem dJ9_min_7cf53_5 : decode cJ9_min_7cf53 5 = .ok (.iload_n 0, 1) := by decide +kernel
theorem dJ9_min_7cf53_6 : decode cJ9_min_7cf53 6 = .ok (.goto 4, 3) := by decide +kernel
theorem dJ9_min_7cf53_9 : decode cJ9_min_7cf53 9 = .ok (.iload_n 1, 1) := by decide +kernel
theorem dJ9_min_7cf53_10 : decode cJ9_min_7cf53 10 = .ok (.ireturn, 1) := by decide +kernel
theorem dL_cell_0 : decode cL_cell 0 = .ok (.iload_n 1, 1) := by decide +kernel
theorem dL_cell_1 : decode cL_cell 1 = .ok (.aload_n 0, 1) := by decide +kernel
theorem dL_cell_2 : decode cL_cell 2 = .ok (.arraylength, 1) := by decide +kernel
theorem dL_cell_3 : decode cL_cell 3 = .ok (.if_icmp .ge 9, 3) := by decide +kernel
theorem dL_cell_6 : decode cL_cell 6 = .ok (.aload_n 0, 1) := by decide +kernel
theorem dL_cell_7 : decode cL_cell 7 = .ok (.iload_n 1, 1) := by decide +kernel
theorem dL_cell_8 : decode cL_cell 8 = .ok (.iaload, 1) := by decide +kernel
theorem dL_cell_9 : decode cL_cell 9 = .ok (.goto 11, 3) := by decide +kernel
theorem dL_cell_12 : decode cL_cell 12 = .ok (.ldc 7, 2) := by decide +kernel
theorem dL_cell_14 : decode cL_cell 14 = .ok (.iload_n 1, 1) := by decide +kernel
theorem dL_cell_15 : decode cL_cell 15 = .ok (.imul, 1) := by decide +kernel
theorem dL_cell_16 : decode cL_cell 16 = .ok (.sipush 977, 3) := by decide +kernel
theorem dL_cell_19 : decode cL_cell 19 = .ok (.iadd, 1) := by decide +kernel
theorem dL_cell_20 : decode cL_cell 20 = .ok (.ireturn, 1) := by decide +kernel
theorem dL_low_0 : decode cL_low 0 = .ok (.iload_n 0, 1) := by decide +kernel
theorem dL_low_1 : decode cL_low 1 = .ok (.ldc 8, 2) := by decide +kernel
theorem dL_low_3 : decode cL_low 3 = .ok (.iand, 1) := by decide +kernel
theorem dL_low_4 : decode cL_low 4 = .ok (.iload_n 1, 1) := by decide +kernel
theorem dL_low_5 : decode cL_low 5 = .ok (.irem, 1) := by decide +kernel
theorem dL_low_6 : decode cL_low 6 = .ok (.ireturn, 1) := by decide +kernel
theorem dL_number_0 : decode cL_number 0 = .ok (.iload_n 1, 1) := by decide +kernel
theorem dL_number_1 : decode cL_number 1 = .ok (.bipush 9, 2) := by decide +kernel
theorem dL_number_3 : decode cL_number 3 = .ok (.if_icmp .le 16, 3) := by decide +kernel
theorem dL_number_6 : decode cL_number 6 = .ok (.aload_n 0, 1) := by decide +kernel
theorem dL_number_7 : decode cL_number 7 = .ok (.bipush 48, 2) := by decide +kernel
theorem dL_number_9 : decode cL_number 9 = .ok (.iload_n 1, 1) := by decide +kernel
theorem dL_number_10 : decode cL_number 10 = .ok (.bipush 10, 2) := by decide +kernel
theorem dL_number_12 : decode cL_number 12 = .ok (.idiv, 1) := by decide +kernel
theorem dL_number_13 : decode cL_number 13 = .ok (.iadd, 1) := by decide +kernel
theorem dL_number_14 : decode cL_number 14 = .ok (.i2l, 1) := by decide +kernel
theorem dL_number_15 : decode cL_number 15 = .ok (.invokevirtual 9, 3) := by decide +kernel
theorem dL_number_18 : decode cL_number 18 = .ok (.pop, 1) := by decide +kernel
theorem dL_number_19 : decode cL_number 19 = .ok (.aload_n 0, 1) := by decide +kernel
theorem dL_number_20 : decode cL_number 20 = .ok (.bipush 48, 2) := by decide +kernel
theorem dL_number_22 : decode cL_number 22 = .ok (.iload_n 1, 1) := by decide +kernel
theorem dL_number_23 : decode cL_number 23 = .ok (.bipush 10, 2) := by decide +kernel
theorem dL_number_25 : decode cL_number 25 = .ok (.irem, 1) := by decide +kernel
theorem dL_number_26 : decode cL_number 26 = .ok (.iadd, 1) := by decide +kernel
theorem dL_number_27 : decode cL_number 27 = .ok (.i2l, 1) := by decide +kernel
theorem dL_number_28 : decode cL_number 28 = .ok (.invokevirtual 9, 3) := by decide +kernel
theorem dL_number_31 : decode cL_number 31 = .ok (.pop, 1) := by decide +kernel
theorem dL_number_32 : decode cL_number 32 = .ok (.return_, 1) := by decide +kernel
theorem dL_letters_0 : decode cL_letters 0 = .ok (.iconst 0, 1) := by decide +kernel
theorem dL_letters_1 : decode cL_letters 1 = .ok (.istore_n 2, 1) := by decide +kernel
theorem dL_letters_2 : decode cL_letters 2 = .ok (.iload_n 2, 1) := by decide +kernel
theorem dL_letters_3 : decode cL_letters 3 = .ok (.iconst 1, 1) := by decide +kernel
theorem dL_letters_4 : decode cL_letters 4 = .ok (.iload_n 1, 1) := by decide +kernel
theorem dL_letters_5 : decode cL_letters 5 = .ok (.iconst 2, 1) := by decide +kernel
theorem dL_letters_6 : decode cL_letters 6 = .ok (.invokestatic 15, 3) := by decide +kernel
theorem dL_letters_9 : decode cL_letters 9 = .ok (.iadd, 1) := by decide +kernel
theorem dL_letters_10 : decode cL_letters 10 = .ok (.if_icmp .ge 25, 3) := by decide +kernel
theorem dL_letters_13 : decode cL_letters 13 = .ok (.aload_n 0, 1) := by decide +kernel
theorem dL_letters_14 : decode cL_letters 14 = .ok (.bipush 97, 2) := by decide +kernel
theorem dL_letters_16 : decode cL_letters 16 = .ok (.iload_n 1, 1) := by decide +kernel
theorem dL_letters_17 : decode cL_letters 17 = .ok (.iconst 2, 1) := by decide +kernel
theorem dL_letters_18 : decode cL_letters 18 = .ok (.iload_n 2, 1) := by decide +kernel
theorem dL_letters_19 : decode cL_letters 19 = .ok (.iadd, 1) := by decide +kernel
theorem dL_letters_20 : decode cL_letters 20 = .ok (.ishr, 1) := by decide +kernel
theorem dL_letters_21 : decode cL_letters 21 = .ok (.iconst 1, 1) := by decide +kernel
theorem dL_letters_22 : decode cL_letters 22 = .ok (.iand, 1) := by decide +kernel
theorem dL_letters_23 : decode cL_letters 23 = .ok (.iadd, 1) := by decide +kernel
theorem dL_letters_24 : decode cL_letters 24 = .ok (.i2l, 1) := by decide +kernel
theorem dL_letters_25 : decode cL_letters 25 = .ok (.invokevirtual 9, 3) := by decide +kernel
theorem dL_letters_28 : decode cL_letters 28 = .ok (.pop, 1) := by decide +kernel
theorem dL_letters_29 : decode cL_letters 29 = .ok (.iinc 2 1, 3) := by decide +kernel
theorem dL_letters_32 : decode cL_letters 32 = .ok (.goto (-30), 3) := by decide +kernel
theorem dL_letters_35 : decode cL_letters 35 = .ok (.return_, 1) := by decide +kernel
theorem dL_first_0 : decode cL_first 0 = .ok (.aload_n 0, 1) := by decide +kernel
theorem dL_first_1 : decode cL_first 1 = .ok (.iload_n 1, 1) := by decide +kernel
theorem dL_first_2 : decode cL_first 2 = .ok (.bipush 8, 2) := by decide +kernel
theorem dL_first_4 : decode cL_first 4 = .ok (.invokevirtual 21, 3) := by decide +kernel
theorem dL_first_7 : decode cL_first 7 = .ok (.istore_n 3, 1) := by decide +kernel
theorem dL_first_8 : decode cL_first 8 = .ok (.iconst 0, 1) := by decide +kernel
theorem dL_first_9 : decode cL_first 9 = .ok (.istore 4, 2) := by decide +kernel
theorem dL_first_11 : decode cL_first 11 = .ok (.iload 4, 2) := by decide +kernel
theorem dL_first_13 : decode cL_first 13 = .ok (.iload_n 3, 1) := by decide +kernel
theorem dL_first_14 : decode cL_first 14 = .ok (.if_icmp .ge 29, 3) := by decide +kernel
theorem dL_first_17 : decode cL_first 17 = .ok (.iload_n 2, 1) := by decide +kernel
theorem dL_first_18 : decode cL_first 18 = .ok (.ifCond .eq 25, 3) := by decide +kernel
theorem dL_first_21 : decode cL_first 21 = .ok (.aload_n 0, 1) := by decide +kernel
theorem dL_first_22 : decode cL_first 22 = .ok (.aload_n 0, 1) := by decide +kernel
theorem dL_first_23 : decode cL_first 23 = .ok (.iload_n 1, 1) := by decide +kernel
theorem dL_first_24 : decode cL_first 24 = .ok (.bipush 9, 2) := by decide +kernel
theorem dL_first_26 : decode cL_first 26 = .ok (.iload 4, 2) := by decide +kernel
theorem dL_first_28 : decode cL_first 28 = .ok (.iadd, 1) := by decide +kernel
theorem dL_first_29 : decode cL_first 29 = .ok (.invokevirtual 21, 3) := by decide +kernel
theorem dL_first_32 : decode cL_first 32 = .ok (.i2l, 1) := by decide +kernel
theorem dL_first_33 : decode cL_first 33 = .ok (.invokevirtual 9, 3) := by decide +kernel
theorem dL_first_36 : decode cL_first 36 = .ok (.pop, 1) := by decide +kernel
theorem dL_first_37 : decode cL_first 37 = .ok (.iinc 4 1, 3) := by decide +kernel
theorem dL_first_40 : decode cL_first 40 = .ok (.goto (-29), 3) := by decide +kernel
theorem dL_first_43 : decode cL_first 43 = .ok (.iload_n 2, 1) := by decide +kernel
theorem dL_first_44 : decode cL_first 44 = .ok (.ifCond .eq 7, 3) := by decide +kernel
theorem dL_first_47 : decode cL_first 47 = .ok (.iload_n 3, 1) := by decide +kernel
theorem dL_first_48 : decode cL_first 48 = .ok (.ifCond .ge 11, 3) := by decide +kernel
theorem dL_first_51 : decode cL_first 51 = .ok (.aload_n 0, 1) := by decide +kernel
theorem dL_first_52 : decode cL_first 52 = .ok (.ldc2_w 24, 3) := by decide +kernel
theorem dL_first_55 : decode cL_first 55 = .ok (.invokevirtual 9, 3) := by decide +kernel
theorem dL_first_58 : decode cL_first 58 = .ok (.pop, 1) := by decide +kernel
theorem dL_first_59 : decode cL_first 59 = .ok (.iload_n 2, 1) := by decide +kernel
theorem dL_first_60 : decode cL_first 60 = .ok (.ifCond .eq 11, 3) := by decide +kernel
theorem dL_first_63 : decode cL_first 63 = .ok (.iload_n 3, 1) := by decide +kernel
theorem dL_first_64 : decode cL_first 64 = .ok (.ifCond .le 7, 3) := by decide +kernel
theorem dL_first_67 : decode cL_first 67 = .ok (.iconst 1, 1) := by decide +kernel
theorem dL_first_68 : decode cL_first 68 = .ok (.goto 4, 3) := by decide +kernel
theorem dL_first_71 : decode cL_first 71 = .ok (.iconst 0, 1) := by decide +kernel
theorem dL_first_72 : decode cL_first 72 = .ok (.ireturn, 1) := by decide +kernel
theorem dL_answers_0 : decode cL_answers 0 = .ok (.iload 4, 2) := by decide +kernel
theorem dL_answers_2 : decode cL_answers 2 = .ok (.iconst 3, 1) := by decide +kernel
theorem dL_answers_3 : decode cL_answers 3 = .ok (.iand, 1) := by decide +kernel
theorem dL_answers_4 : decode cL_answers 4 = .ok (.ifCond .eq 7, 3) := by decide +kernel
theorem dL_answers_7 : decode cL_answers 7 = .ok (.iconst 1, 1) := by decide +kernel
theorem dL_answers_8 : decode cL_answers 8 = .ok (.goto 4, 3) := by decide +kernel
theorem dL_answers_11 : decode cL_answers 11 = .ok (.iconst 0, 1) := by decide +kernel
theorem dL_answers_12 : decode cL_answers 12 = .ok (.istore 5, 2) := by decide +kernel
theorem dL_answers_14 : decode cL_answers 14 = .ok (.iconst 1, 1) := by decide +kernel
theorem dL_answers_15 : decode cL_answers 15 = .ok (.iload 4, 2) := by decide +kernel
theorem dL_answers_17 : decode cL_answers 17 = .ok (.iconst 2, 1) := by decide +kernel
theorem dL_answers_18 : decode cL_answers 18 = .ok (.ishr, 1) := by decide +kernel
theorem dL_answers_19 : decode cL_answers 19 = .ok (.bipush 12, 2) := by decide +kernel
theorem dL_answers_21 : decode cL_answers 21 = .ok (.invokestatic 15, 3) := by decide +kernel
theorem dL_answers_24 : decode cL_answers 24 = .ok (.iadd, 1) := by decide +kernel
theorem dL_answers_25 : decode cL_answers 25 = .ok (.istore 6, 2) := by decide +kernel
theorem dL_answers_27 : decode cL_answers 27 = .ok (.aload_n 0, 1) := by decide +kernel
theorem dL_answers_28 : decode cL_answers 28 = .ok (.iload_n 1, 1) := by decide +kernel
theorem dL_answers_29 : decode cL_answers 29 = .ok (.iconst 0, 1) := by decide +kernel
theorem dL_answers_30 : decode cL_answers 30 = .ok (.invokevirtual 26, 3) := by decide +kernel
theorem dL_answers_33 : decode cL_answers 33 = .ok (.istore 7, 2) := by decide +kernel
theorem dL_answers_35 : decode cL_answers 35 = .ok (.aload_n 0, 1) := by decide +kernel
theorem dL_answers_36 : decode cL_answers 36 = .ok (.iload_n 3, 1) := by decide +kernel
theorem dL_answers_37 : decode cL_answers 37 = .ok (.iconst 0, 1) := by decide +kernel
theorem dL_answers_38 : decode cL_answers 38 = .ok (.invokevirtual 21, 3) := by decide +kernel
theorem dL_answers_41 : decode cL_answers 41 = .ok (.istore 8, 2) := by decide +kernel
theorem dL_answers_43 : decode cL_answers 43 = .ok (.iload_n 2, 1) := by decide +kernel
theorem dL_answers_44 : decode cL_answers 44 = .ok (.aload_n 0, 1) := by decide +kernel
theorem dL_answers_45 : decode cL_answers 45 = .ok (.bipush 6, 2) := by decide +kernel
theorem dL_answers_47 : decode cL_answers 47 = .ok (.invokevirtual 29, 3) := by decide +kernel
theorem dL_answers_50 : decode cL_answers 50 = .ok (.if_icmp .ge 42, 3) := by decide +kernel
theorem dL_answers_53 : decode cL_answers 53 = .ok (.iload_n 3, 1) := by decide +kernel
theorem dL_answers_54 : decode cL_answers 54 = .ok (.aload_n 0, 1) := by decide +kernel
theorem dL_answers_55 : decode cL_answers 55 = .ok (.bipush 6, 2) := by decide +kernel
theorem dL_answers_57 : decode cL_answers 57 = .ok (.invokevirtual 29, 3) := by decide +kernel
theorem dL_answers_60 : decode cL_answers 60 = .ok (.if_icmp .ge 32, 3) := by decide +kernel
theorem dL_answers_63 : decode cL_answers 63 = .ok (.aload_n 0, 1) := by decide +kernel
theorem dL_answers_64 : decode cL_answers 64 = .ok (.iload_n 2, 1) := by decide +kernel
theorem dL_answers_65 : decode cL_answers 65 = .ok (.iconst 0, 1) := by decide +kernel
theorem dL_answers_66 : decode cL_answers 66 = .ok (.invokevirtual 21, 3) := by decide +kernel
theorem dL_answers_69 : decode cL_answers 69 = .ok (.ifCond .eq 13, 3) := by decide +kernel
theorem dL_answers_72 : decode cL_answers 72 = .ok (.aload_n 0, 1) := by decide +kernel
theorem dL_answers_73 : decode cL_answers 73 = .ok (.iload_n 2, 1) := by decide +kernel
theorem dL_answers_74 : decode cL_answers 74 = .ok (.iconst 0, 1) := by decide +kernel
theorem dL_answers_75 : decode cL_answers 75 = .ok (.invokevirtual 21, 3) := by decide +kernel
theorem dL_answers_78 : decode cL_answers 78 = .ok (.iconst 2, 1) := by decide +kernel
theorem dL_answers_79 : decode cL_answers 79 = .ok (.if_icmp .ne 13, 3) := by decide +kernel
theorem dL_answers_82 : decode cL_answers 82 = .ok (.iload 8, 2) := by decide +kernel
theorem dL_answers_84 : decode cL_answers 84 = .ok (.iconst 1, 1) := by decide +kernel
theorem dL_answers_85 : decode cL_answers 85 = .ok (.if_icmp .ne 7, 3) := by decide +kernel
theorem dL_answers_88 : decode cL_answers 88 = .ok (.iconst 1, 1) := by decide +kernel
theorem dL_answers_89 : decode cL_answers 89 = .ok (.goto 4, 3) := by decide +kernel
theorem dL_answers_92 : decode cL_answers 92 = .ok (.iconst 0, 1) := by decide +kernel
theorem dL_answers_93 : decode cL_answers 93 = .ok (.istore 9, 2) := by decide +kernel
theorem dL_answers_95 : decode cL_answers 95 = .ok (.aload_n 0, 1) := by decide +kernel
theorem dL_answers_96 : decode cL_answers 96 = .ok (.iload_n 3, 1) := by decide +kernel
theorem dL_answers_97 : decode cL_answers 97 = .ok (.iconst 2, 1) := by decide +kernel
theorem dL_answers_98 : decode cL_answers 98 = .ok (.invokevirtual 21, 3) := by decide +kernel
theorem dL_answers_101 : decode cL_answers 101 = .ok (.istore 10, 2) := by decide +kernel
theorem dL_answers_103 : decode cL_answers 103 = .ok (.aload_n 0, 1) := by decide +kernel
theorem dL_answers_104 : decode cL_answers 104 = .ok (.iload_n 2, 1) := by decide +kernel
theorem dL_answers_105 : decode cL_answers 105 = .ok (.bipush 7, 2) := by decide +kernel
theorem dL_answers_107 : decode cL_answers 107 = .ok (.invokevirtual 21, 3) := by decide +kernel
theorem dL_answers_110 : decode cL_answers 110 = .ok (.istore 11, 2) := by decide +kernel
theorem dL_answers_112 : decode cL_answers 112 = .ok (.aload_n 0, 1) := by decide +kernel
theorem dL_answers_113 : decode cL_answers 113 = .ok (.bipush 11, 2) := by decide +kernel
theorem dL_answers_115 : decode cL_answers 115 = .ok (.invokevirtual 29, 3) := by decide +kernel
theorem dL_answers_118 : decode cL_answers 118 = .ok (.istore 12, 2) := by decide +kernel
theorem dL_answers_120 : decode cL_answers 120 = .ok (.aload_n 0, 1) := by decide +kernel
theorem dL_answers_121 : decode cL_answers 121 = .ok (.iload_n 1, 1) := by decide +kernel
theorem dL_answers_122 : decode cL_answers 122 = .ok (.invokestatic 33, 3) := by decide +kernel
theorem dL_answers_125 : decode cL_answers 125 = .ok (.aload_n 0, 1) := by decide +kernel
theorem dL_answers_126 : decode cL_answers 126 = .ok (.ldc2_w 37, 3) := by decide +kernel
theorem dL_answers_129 : decode cL_answers 129 = .ok (.invokevirtual 9, 3) := by decide +kernel
theorem dL_answers_132 : decode cL_answers 132 = .ok (.pop, 1) := by decide +kernel
theorem dL_answers_133 : decode cL_answers 133 = .ok (.aload_n 0, 1) := by decide +kernel
theorem dL_answers_134 : decode cL_answers 134 = .ok (.iload_n 2, 1) := by decide +kernel
theorem dL_answers_135 : decode cL_answers 135 = .ok (.invokestatic 33, 3) := by decide +kernel
theorem dL_answers_138 : decode cL_answers 138 = .ok (.aload_n 0, 1) := by decide +kernel
theorem dL_answers_139 : decode cL_answers 139 = .ok (.ldc2_w 39, 3) := by decide +kernel
theorem dL_answers_142 : decode cL_answers 142 = .ok (.invokevirtual 9, 3) := by decide +kernel
theorem dL_answers_145 : decode cL_answers 145 = .ok (.pop, 1) := by decide +kernel
theorem dL_answers_146 : decode cL_answers 146 = .ok (.aload_n 0, 1) := by decide +kernel
theorem dL_answers_147 : decode cL_answers 147 = .ok (.iload_n 2, 1) := by decide +kernel
theorem dL_answers_148 : decode cL_answers 148 = .ok (.iload 5, 2) := by decide +kernel
theorem dL_answers_150 : decode cL_answers 150 = .ok (.invokestatic 41, 3) := by decide +kernel
theorem dL_answers_153 : decode cL_answers 153 = .ok (.istore 13, 2) := by decide +kernel
theorem dL_answers_155 : decode cL_answers 155 = .ok (.aload_n 0, 1) := by decide +kernel
theorem dL_answers_156 : decode cL_answers 156 = .ok (.ldc2_w 45, 3) := by decide +kernel
theorem dL_answers_159 : decode cL_answers 159 = .ok (.invokevirtual 9, 3) := by decide +kernel
theorem dL_answers_162 : decode cL_answers 162 = .ok (.pop, 1) := by decide +kernel
theorem dL_answers_163 : decode cL_answers 163 = .ok (.aload_n 0, 1) := by decide +kernel
theorem dL_answers_164 : decode cL_answers 164 = .ok (.iload_n 3, 1) := by decide +kernel
theorem dL_answers_165 : decode cL_answers 165 = .ok (.invokestatic 33, 3) := by decide +kernel
theorem dL_answers_168 : decode cL_answers 168 = .ok (.aload_n 0, 1) := by decide +kernel
theorem dL_answers_169 : decode cL_answers 169 = .ok (.ldc2_w 39, 3) := by decide +kernel
theorem dL_answers_172 : decode cL_answers 172 = .ok (.invokevirtual 9, 3) := by decide +kernel
theorem dL_answers_175 : decode cL_answers 175 = .ok (.pop, 1) := by decide +kernel
theorem dL_answers_176 : decode cL_answers 176 = .ok (.aload_n 0, 1) := by decide +kernel
theorem dL_answers_177 : decode cL_answers 177 = .ok (.iload 4, 2) := by decide +kernel
theorem dL_answers_179 : decode cL_answers 179 = .ok (.iconst 5, 1) := by decide +kernel
theorem dL_answers_180 : decode cL_answers 180 = .ok (.ishr, 1) := by decide +kernel
theorem dL_answers_181 : decode cL_answers 181 = .ok (.invokestatic 47, 3) := by decide +kernel
theorem dL_answers_184 : decode cL_answers 184 = .ok (.aload_n 0, 1) := by decide +kernel
theorem dL_answers_185 : decode cL_answers 185 = .ok (.ldc2_w 50, 3) := by decide +kernel
theorem dL_answers_188 : decode cL_answers 188 = .ok (.invokevirtual 9, 3) := by decide +kernel
theorem dL_answers_191 : decode cL_answers 191 = .ok (.pop, 1) := by decide +kernel
theorem dL_answers_192 : decode cL_answers 192 = .ok (.aload_n 0, 1) := by decide +kernel
theorem dL_answers_193 : decode cL_answers 193 = .ok (.iload 6, 2) := by decide +kernel
theorem dL_answers_195 : decode cL_answers 195 = .ok (.invokestatic 33, 3) := by decide +kernel
theorem dL_answers_198 : decode cL_answers 198 = .ok (.aload_n 0, 1) := by decide +kernel
theorem dL_answers_199 : decode cL_answers 199 = .ok (.invokevirtual 52, 3) := by decide +kernel
theorem dL_answers_202 : decode cL_answers 202 = .ok (.bipush (-6), 2) := by decide +kernel
theorem dL_answers_204 : decode cL_answers 204 = .ok (.if_icmp .ne 10, 3) := by decide +kernel
theorem dL_answers_207 : decode cL_answers 207 = .ok (.aload_n 0, 1) := by decide +kernel
theorem dL_answers_208 : decode cL_answers 208 = .ok (.invokevirtual 56, 3) := by decide +kernel
theorem dL_answers_211 : decode cL_answers 211 = .ok (.goto 5, 3) := by decide +kernel
theorem dL_answers_214 : decode cL_answers 214 = .ok (.bipush (-9), 2) := by decide +kernel
theorem dL_answers_216 : decode cL_answers 216 = .ok (.istore 14, 2) := by decide +kernel
theorem dL_answers_218 : decode cL_answers 218 = .ok (.iload 9, 2) := by decide +kernel
theorem dL_answers_220 : decode cL_answers 220 = .ok (.ifCond .ne 70, 3) := by decide +kernel
theorem dL_answers_223 : decode cL_answers 223 = .ok (.iload 14, 2) := by decide +kernel
theorem dL_answers_225 : decode cL_answers 225 = .ok (.iload_n 2, 1) := by decide +kernel
theorem dL_answers_226 : decode cL_answers 226 = .ok (.aload_n 0, 1) := by decide +kernel
theorem dL_answers_227 : decode cL_answers 227 = .ok (.bipush 6, 2) := by decide +kernel
theorem dL_answers_229 : decode cL_answers 229 = .ok (.invokevirtual 29, 3) := by decide +kernel
theorem dL_answers_232 : decode cL_answers 232 = .ok (.if_icmp .ge 18, 3) := by decide +kernel
theorem dL_answers_235 : decode cL_answers 235 = .ok (.iload_n 3, 1) := by decide +kernel
theorem dL_answers_236 : decode cL_answers 236 = .ok (.aload_n 0, 1) := by decide +kernel
theorem dL_answers_237 : decode cL_answers 237 = .ok (.bipush 6, 2) := by decide +kernel
theorem dL_answers_239 : decode cL_answers 239 = .ok (.invokevirtual 29, 3) := by decide +kernel
theorem dL_answers_242 : decode cL_answers 242 = .ok (.if_icmp .ge 8, 3) := by decide +kernel
theorem dL_answers_245 : decode cL_answers 245 = .ok (.bipush (-5), 2) := by decide +kernel
theorem dL_answers_247 : decode cL_answers 247 = .ok (.goto 4, 3) := by decide +kernel
theorem dL_answers_250 : decode cL_answers 250 = .ok (.iconst (-1), 1) := by decide +kernel
theorem dL_answers_251 : decode cL_answers 251 = .ok (.if_icmp .ne 7, 3) := by decide +kernel
theorem dL_answers_254 : decode cL_answers 254 = .ok (.iconst 1, 1) := by decide +kernel
theorem dL_answers_255 : decode cL_answers 255 = .ok (.goto 4, 3) := by decide +kernel
theorem dL_answers_258 : decode cL_answers 258 = .ok (.iconst 0, 1) := by decide +kernel
theorem dL_answers_259 : decode cL_answers 259 = .ok (.istore 15, 2) := by decide +kernel
theorem dL_answers_261 : decode cL_answers 261 = .ok (.aload_n 0, 1) := by decide +kernel
theorem dL_answers_262 : decode cL_answers 262 = .ok (.invokevirtual 59, 3) := by decide +kernel
theorem dL_answers_265 : decode cL_answers 265 = .ok (.ifCond .le 23, 3) := by decide +kernel
theorem dL_answers_268 : decode cL_answers 268 = .ok (.iload 15, 2) := by decide +kernel
theorem dL_answers_270 : decode cL_answers 270 = .ok (.ifCond .eq 18, 3) := by decide +kernel
theorem dL_answers_273 : decode cL_answers 273 = .ok (.aload_n 0, 1) := by decide +kernel
theorem dL_answers_274 : decode cL_answers 274 = .ok (.bipush 11, 2) := by decide +kernel
theorem dL_answers_276 : decode cL_answers 276 = .ok (.invokevirtual 29, 3) := by decide +kernel
theorem dL_answers_279 : decode cL_answers 279 = .ok (.iload 12, 2) := by decide +kernel
theorem dL_answers_281 : decode cL_answers 281 = .ok (.if_icmp .ne 7, 3) := by decide +kernel
theorem dL_answers_284 : decode cL_answers 284 = .ok (.iconst 1, 1) := by decide +kernel
theorem dL_answers_285 : decode cL_answers 285 = .ok (.goto 4, 3) := by decide +kernel
theorem dL_answers_288 : decode cL_answers 288 = .ok (.iconst 0, 1) := by decide +kernel
theorem dL_answers_289 : decode cL_answers 289 = .ok (.ireturn, 1) := by decide +kernel
theorem dL_answers_290 : decode cL_answers 290 = .ok (.iload 13, 2) := by decide +kernel
theorem dL_answers_292 : decode cL_answers 292 = .ok (.ifCond .eq 14, 3) := by decide +kernel
theorem dL_answers_295 : decode cL_answers 295 = .ok (.iload 7, 2) := by decide +kernel
theorem dL_answers_297 : decode cL_answers 297 = .ok (.aload_n 0, 1) := by decide +kernel
theorem dL_answers_298 : decode cL_answers 298 = .ok (.iconst 4, 1) := by decide +kernel
theorem dL_answers_299 : decode cL_answers 299 = .ok (.invokevirtual 29, 3) := by decide +kernel
theorem dL_answers_302 : decode cL_answers 302 = .ok (.iadd, 1) := by decide +kernel
theorem dL_answers_303 : decode cL_answers 303 = .ok (.goto 11, 3) := by decide +kernel
theorem dL_answers_306 : decode cL_answers 306 = .ok (.iload 7, 2) := by decide +kernel
theorem dL_answers_308 : decode cL_answers 308 = .ok (.aload_n 0, 1) := by decide +kernel
theorem dL_answers_309 : decode cL_answers 309 = .ok (.iconst 5, 1) := by decide +kernel
theorem dL_answers_310 : decode cL_answers 310 = .ok (.invokevirtual 29, 3) := by decide +kernel
theorem dL_answers_313 : decode cL_answers 313 = .ok (.isub, 1) := by decide +kernel
theorem dL_answers_314 : decode cL_answers 314 = .ok (.istore 15, 2) := by decide +kernel
theorem dL_answers_316 : decode cL_answers 316 = .ok (.iload 15, 2) := by decide +kernel
theorem dL_answers_318 : decode cL_answers 318 = .ok (.bipush 100, 2) := by decide +kernel
theorem dL_answers_320 : decode cL_answers 320 = .ok (.if_icmp .le 8, 3) := by decide +kernel
theorem dL_answers_323 : decode cL_answers 323 = .ok (.bipush 100, 2) := by decide +kernel
theorem dL_answers_325 : decode cL_answers 325 = .ok (.goto 14, 3) := by decide +kernel
theorem dL_answers_328 : decode cL_answers 328 = .ok (.iload 15, 2) := by decide +kernel
theorem dL_answers_330 : decode cL_answers 330 = .ok (.ifCond .ge 7, 3) := by decide +kernel
theorem dL_answers_333 : decode cL_answers 333 = .ok (.iconst 0, 1) := by decide +kernel
theorem dL_answers_334 : decode cL_answers 334 = .ok (.goto 5, 3) := by decide +kernel
theorem dL_answers_337 : decode cL_answers 337 = .ok (.iload 15, 2) := by decide +kernel
theorem dL_answers_339 : decode cL_answers 339 = .ok (.istore 15, 2) := by decide +kernel
theorem dL_answers_341 : decode cL_answers 341 = .ok (.iload 14, 2) := by decide +kernel
theorem dL_answers_343 : decode cL_answers 343 = .ok (.aload_n 0, 1) := by decide +kernel
theorem dL_answers_344 : decode cL_answers 344 = .ok (.iload_n 3, 1) := by decide +kernel
theorem dL_answers_345 : decode cL_answers 345 = .ok (.iconst 0, 1) := by decide +kernel
theorem dL_answers_346 : decode cL_answers 346 = .ok (.invokevirtual 21, 3) := by decide +kernel
theorem dL_answers_349 : decode cL_answers 349 = .ok (.if_icmp .ne 76, 3) := by decide +kernel
theorem dL_answers_352 : decode cL_answers 352 = .ok (.aload_n 0, 1) := by decide +kernel
theorem dL_answers_353 : decode cL_answers 353 = .ok (.iload_n 1, 1) := by decide +kernel
theorem dL_answers_354 : decode cL_answers 354 = .ok (.iconst 0, 1) := by decide +kernel
theorem dL_answers_355 : decode cL_answers 355 = .ok (.invokevirtual 26, 3) := by decide +kernel
theorem dL_answers_358 : decode cL_answers 358 = .ok (.iload 15, 2) := by decide +kernel
theorem dL_answers_360 : decode cL_answers 360 = .ok (.if_icmp .ne 65, 3) := by decide +kernel
theorem dL_answers_363 : decode cL_answers 363 = .ok (.aload_n 0, 1) := by decide +kernel
theorem dL_answers_364 : decode cL_answers 364 = .ok (.bipush 11, 2) := by decide +kernel
theorem dL_answers_366 : decode cL_answers 366 = .ok (.invokevirtual 29, 3) := by decide +kernel
theorem dL_answers_369 : decode cL_answers 369 = .ok (.iload 12, 2) := by decide +kernel
theorem dL_answers_371 : decode cL_answers 371 = .ok (.iconst 1, 1) := by decide +kernel
theorem dL_answers_372 : decode cL_answers 372 = .ok (.iadd, 1) := by decide +kernel
theorem dL_answers_373 : decode cL_answers 373 = .ok (.if_icmp .ne 52, 3) := by decide +kernel
theorem dL_answers_376 : decode cL_answers 376 = .ok (.aload_n 0, 1) := by decide +kernel
theorem dL_answers_377 : decode cL_answers 377 = .ok (.iload_n 3, 1) := by decide +kernel
theorem dL_answers_378 : decode cL_answers 378 = .ok (.iconst 2, 1) := by decide +kernel
theorem dL_answers_379 : decode cL_answers 379 = .ok (.invokevirtual 21, 3) := by decide +kernel
theorem dL_answers_382 : decode cL_answers 382 = .ok (.iload 10, 2) := by decide +kernel
theorem dL_answers_384 : decode cL_answers 384 = .ok (.iload 13, 2) := by decide +kernel
theorem dL_answers_386 : decode cL_answers 386 = .ok (.ifCond .eq 7, 3) := by decide +kernel
theorem dL_answers_389 : decode cL_answers 389 = .ok (.iconst 1, 1) := by decide +kernel
theorem dL_answers_390 : decode cL_answers 390 = .ok (.goto 4, 3) := by decide +kernel
theorem dL_answers_393 : decode cL_answers 393 = .ok (.iconst 0, 1) := by decide +kernel
theorem dL_answers_394 : decode cL_answers 394 = .ok (.iadd, 1) := by decide +kernel
theorem dL_answers_395 : decode cL_answers 395 = .ok (.if_icmp .ne 30, 3) := by decide +kernel
theorem dL_answers_398 : decode cL_answers 398 = .ok (.aload_n 0, 1) := by decide +kernel
theorem dL_answers_399 : decode cL_answers 399 = .ok (.iload_n 2, 1) := by decide +kernel
theorem dL_answers_400 : decode cL_answers 400 = .ok (.bipush 7, 2) := by decide +kernel
theorem dL_answers_402 : decode cL_answers 402 = .ok (.invokevirtual 21, 3) := by decide +kernel
theorem dL_answers_405 : decode cL_answers 405 = .ok (.iload 11, 2) := by decide +kernel
theorem dL_answers_407 : decode cL_answers 407 = .ok (.iload 13, 2) := by decide +kernel
theorem dL_answers_409 : decode cL_answers 409 = .ok (.ifCond .eq 7, 3) := by decide +kernel
theorem dL_answers_412 : decode cL_answers 412 = .ok (.iconst 0, 1) := by decide +kernel
theorem dL_answers_413 : decode cL_answers 413 = .ok (.goto 4, 3) := by decide +kernel
theorem dL_answers_416 : decode cL_answers 416 = .ok (.iconst 1, 1) := by decide +kernel
theorem dL_answers_417 : decode cL_answers 417 = .ok (.iadd, 1) := by decide +kernel
theorem dL_answers_418 : decode cL_answers 418 = .ok (.if_icmp .ne 7, 3) := by decide +kernel
theorem dL_answers_421 : decode cL_answers 421 = .ok (.iconst 1, 1) := by decide +kernel
theorem dL_answers_422 : decode cL_answers 422 = .ok (.goto 4, 3) := by decide +kernel
theorem dL_answers_425 : decode cL_answers 425 = .ok (.iconst 0, 1) := by decide +kernel
theorem dL_answers_426 : decode cL_answers 426 = .ok (.istore 16, 2) := by decide +kernel
theorem dL_answers_428 : decode cL_answers 428 = .ok (.iload 16, 2) := by decide +kernel
theorem dL_answers_430 : decode cL_answers 430 = .ok (.ifCond .eq 18, 3) := by decide +kernel
theorem dL_answers_433 : decode cL_answers 433 = .ok (.iload 13, 2) := by decide +kernel
theorem dL_answers_435 : decode cL_answers 435 = .ok (.ifCond .ne 9, 3) := by decide +kernel
theorem dL_answers_438 : decode cL_answers 438 = .ok (.iload 14, 2) := by decide +kernel
theorem dL_answers_440 : decode cL_answers 440 = .ok (.iconst 1, 1) := by decide +kernel
theorem dL_answers_441 : decode cL_answers 441 = .ok (.if_icmp .ne 7, 3) := by decide +kernel
theorem dL_answers_444 : decode cL_answers 444 = .ok (.iconst 1, 1) := by decide +kernel
theorem dL_answers_445 : decode cL_answers 445 = .ok (.goto 4, 3) := by decide +kernel
theorem dL_answers_448 : decode cL_answers 448 = .ok (.iconst 0, 1) := by decide +kernel
theorem dL_answers_449 : decode cL_answers 449 = .ok (.ireturn, 1) := by decide +kernel
theorem dL_change_0 : decode cL_change 0 = .ok (.iload_n 2, 1) := by decide +kernel
theorem dL_change_1 : decode cL_change 1 = .ok (.aload_n 0, 1) := by decide +kernel
theorem dL_change_2 : decode cL_change 2 = .ok (.bipush 6, 2) := by decide +kernel
theorem dL_change_4 : decode cL_change 4 = .ok (.invokevirtual 29, 3) := by decide +kernel
theorem dL_change_7 : decode cL_change 7 = .ok (.iconst 1, 1) := by decide +kernel
theorem dL_change_8 : decode cL_change 8 = .ok (.iadd, 1) := by decide +kernel
theorem dL_change_9 : decode cL_change 9 = .ok (.invokestatic 15, 3) := by decide +kernel
theorem dL_change_12 : decode cL_change 12 = .ok (.istore 4, 2) := by decide +kernel
theorem dL_change_14 : decode cL_change 14 = .ok (.iload_n 1, 1) := by decide +kernel
theorem dL_change_15 : decode cL_change 15 = .ok (.tableswitch 125 0 6 #[41, 58, 58, 84, 84, 95, 108], 41) := by decide +kernel
theorem dL_change_56 : decode cL_change 56 = .ok (.aload_n 0, 1) := by decide +kernel
theorem dL_change_57 : decode cL_change 57 = .ok (.iload_n 2, 1) := by decide +kernel
theorem dL_change_58 : decode cL_change 58 = .ok (.bipush 7, 2) := by decide +kernel
theorem dL_change_60 : decode cL_change 60 = .ok (.invokestatic 15, 3) := by decide +kernel
theorem dL_change_63 : decode cL_change 63 = .ok (.iload_n 3, 1) := by decide +kernel
theorem dL_change_64 : decode cL_change 64 = .ok (.bipush 120, 2) := by decide +kernel
theorem dL_change_66 : decode cL_change 66 = .ok (.invokestatic 15, 3) := by decide +kernel
theorem dL_change_69 : decode cL_change 69 = .ok (.invokevirtual 62, 3) := by decide +kernel
theorem dL_change_72 : decode cL_change 72 = .ok (.ireturn, 1) := by decide +kernel
theorem dL_change_73 : decode cL_change 73 = .ok (.aload_n 0, 1) := by decide +kernel
theorem dL_change_74 : decode cL_change 74 = .ok (.iload_n 3, 1) := by decide +kernel
theorem dL_change_75 : decode cL_change 75 = .ok (.invokestatic 47, 3) := by decide +kernel
theorem dL_change_78 : decode cL_change 78 = .ok (.aload_n 0, 1) := by decide +kernel
theorem dL_change_79 : decode cL_change 79 = .ok (.iload_n 2, 1) := by decide +kernel
theorem dL_change_80 : decode cL_change 80 = .ok (.bipush 11, 2) := by decide +kernel
theorem dL_change_82 : decode cL_change 82 = .ok (.invokestatic 15, 3) := by decide +kernel
theorem dL_change_85 : decode cL_change 85 = .ok (.invokevirtual 65, 3) := by decide +kernel
theorem dL_change_88 : decode cL_change 88 = .ok (.istore 5, 2) := by decide +kernel
theorem dL_change_90 : decode cL_change 90 = .ok (.aload_n 0, 1) := by decide +kernel
theorem dL_change_91 : decode cL_change 91 = .ok (.invokevirtual 59, 3) := by decide +kernel
theorem dL_change_94 : decode cL_change 94 = .ok (.istore 6, 2) := by decide +kernel
theorem dL_change_96 : decode cL_change 96 = .ok (.iload 5, 2) := by decide +kernel
theorem dL_change_98 : decode cL_change 98 = .ok (.ireturn, 1) := by decide +kernel
theorem dL_change_99 : decode cL_change 99 = .ok (.aload_n 0, 1) := by decide +kernel
theorem dL_change_100 : decode cL_change 100 = .ok (.iload_n 2, 1) := by decide +kernel
theorem dL_change_101 : decode cL_change 101 = .ok (.bipush 11, 2) := by decide +kernel
theorem dL_change_103 : decode cL_change 103 = .ok (.invokestatic 15, 3) := by decide +kernel
theorem dL_change_106 : decode cL_change 106 = .ok (.invokevirtual 68, 3) := by decide +kernel
theorem dL_change_109 : decode cL_change 109 = .ok (.ireturn, 1) := by decide +kernel
theorem dL_change_110 : decode cL_change 110 = .ok (.aload_n 0, 1) := by decide +kernel
theorem dL_change_111 : decode cL_change 111 = .ok (.iload 4, 2) := by decide +kernel
theorem dL_change_113 : decode cL_change 113 = .ok (.iload_n 3, 1) := by decide +kernel
theorem dL_change_114 : decode cL_change 114 = .ok (.bipush 11, 2) := by decide +kernel
theorem dL_change_116 : decode cL_change 116 = .ok (.invokestatic 15, 3) := by decide +kernel
theorem dL_change_119 : decode cL_change 119 = .ok (.invokevirtual 71, 3) := by decide +kernel
theorem dL_change_122 : decode cL_change 122 = .ok (.ireturn, 1) := by decide +kernel
theorem dL_change_123 : decode cL_change 123 = .ok (.iload_n 3, 1) := by decide +kernel
theorem dL_change_124 : decode cL_change 124 = .ok (.iconst 3, 1) := by decide +kernel
theorem dL_change_125 : decode cL_change 125 = .ok (.iand, 1) := by decide +kernel
theorem dL_change_126 : decode cL_change 126 = .ok (.ifCond .ne 12, 3) := by decide +kernel
theorem dL_change_129 : decode cL_change 129 = .ok (.aload_n 0, 1) := by decide +kernel
theorem dL_change_130 : decode cL_change 130 = .ok (.iload 4, 2) := by decide +kernel
theorem dL_change_132 : decode cL_change 132 = .ok (.invokevirtual 74, 3) := by decide +kernel
theorem dL_change_135 : decode cL_change 135 = .ok (.goto 4, 3) := by decide +kernel
theorem dL_change_138 : decode cL_change 138 = .ok (.iconst (-1), 1) := by decide +kernel
theorem dL_change_139 : decode cL_change 139 = .ok (.ireturn, 1) := by decide +kernel
theorem dL_change_140 : decode cL_change 140 = .ok (.aload_n 0, 1) := by decide +kernel
theorem dL_change_141 : decode cL_change 141 = .ok (.iload_n 2, 1) := by decide +kernel
theorem dL_change_142 : decode cL_change 142 = .ok (.bipush 7, 2) := by decide +kernel
theorem dL_change_144 : decode cL_change 144 = .ok (.invokestatic 15, 3) := by decide +kernel
theorem dL_change_147 : decode cL_change 147 = .ok (.iload_n 3, 1) := by decide +kernel
theorem dL_change_148 : decode cL_change 148 = .ok (.bipush 102, 2) := by decide +kernel
theorem dL_change_150 : decode cL_change 150 = .ok (.invokestatic 15, 3) := by decide +kernel
theorem dL_change_153 : decode cL_change 153 = .ok (.invokevirtual 77, 3) := by decide +kernel
theorem dL_change_156 : decode cL_change 156 = .ok (.ireturn, 1) := by decide +kernel
theorem dL_areVotes_0 : decode cL_areVotes 0 = .ok (.aload_n 0, 1) := by decide +kernel
theorem dL_areVotes_1 : decode cL_areVotes 1 = .ok (.iload_n 1, 1) := by decide +kernel
theorem dL_areVotes_2 : decode cL_areVotes 2 = .ok (.iconst 3, 1) := by decide +kernel
theorem dL_areVotes_3 : decode cL_areVotes 3 = .ok (.invokevirtual 21, 3) := by decide +kernel
theorem dL_areVotes_6 : decode cL_areVotes 6 = .ok (.istore_n 2, 1) := by decide +kernel
theorem dL_areVotes_7 : decode cL_areVotes 7 = .ok (.iconst 0, 1) := by decide +kernel
theorem dL_areVotes_8 : decode cL_areVotes 8 = .ok (.istore_n 3, 1) := by decide +kernel
theorem dL_areVotes_9 : decode cL_areVotes 9 = .ok (.iconst 0, 1) := by decide +kernel
theorem dL_areVotes_10 : decode cL_areVotes 10 = .ok (.istore 4, 2) := by decide +kernel
theorem dL_areVotes_12 : decode cL_areVotes 12 = .ok (.iconst 0, 1) := by decide +kernel
theorem dL_areVotes_13 : decode cL_areVotes 13 = .ok (.istore 5, 2) := by decide +kernel
theorem dL_areVotes_15 : decode cL_areVotes 15 = .ok (.iconst 0, 1) := by decide +kernel
theorem dL_areVotes_16 : decode cL_areVotes 16 = .ok (.istore 6, 2) := by decide +kernel
theorem dL_areVotes_18 : decode cL_areVotes 18 = .ok (.iconst 1, 1) := by decide +kernel
theorem dL_areVotes_19 : decode cL_areVotes 19 = .ok (.istore 7, 2) := by decide +kernel
theorem dL_areVotes_21 : decode cL_areVotes 21 = .ok (.iconst 0, 1) := by decide +kernel
theorem dL_areVotes_22 : decode cL_areVotes 22 = .ok (.istore 8, 2) := by decide +kernel
theorem dL_areVotes_24 : decode cL_areVotes 24 = .ok (.iload 8, 2) := by decide +kernel
theorem dL_areVotes_26 : decode cL_areVotes 26 = .ok (.iload_n 2, 1) := by decide +kernel
theorem dL_areVotes_27 : decode cL_areVotes 27 = .ok (.if_icmp .ge 145, 3) := by decide +kernel
theorem dL_areVotes_30 : decode cL_areVotes 30 = .ok (.iload 7, 2) := by decide +kernel
theorem dL_areVotes_32 : decode cL_areVotes 32 = .ok (.ifCond .eq 140, 3) := by decide +kernel
theorem dL_areVotes_35 : decode cL_areVotes 35 = .ok (.aload_n 0, 1) := by decide +kernel
theorem dL_areVotes_36 : decode cL_areVotes 36 = .ok (.iload_n 1, 1) := by decide +kernel
theorem dL_areVotes_37 : decode cL_areVotes 37 = .ok (.iload 8, 2) := by decide +kernel
theorem dL_areVotes_39 : decode cL_areVotes 39 = .ok (.iconst 1, 1) := by decide +kernel
theorem dL_areVotes_40 : decode cL_areVotes 40 = .ok (.invokevirtual 80, 3) := by decide +kernel
theorem dL_areVotes_43 : decode cL_areVotes 43 = .ok (.istore 9, 2) := by decide +kernel
theorem dL_areVotes_45 : decode cL_areVotes 45 = .ok (.iload_n 3, 1) := by decide +kernel
theorem dL_areVotes_46 : decode cL_areVotes 46 = .ok (.aload_n 0, 1) := by decide +kernel
theorem dL_areVotes_47 : decode cL_areVotes 47 = .ok (.iload_n 1, 1) := by decide +kernel
theorem dL_areVotes_48 : decode cL_areVotes 48 = .ok (.iload 8, 2) := by decide +kernel
theorem dL_areVotes_50 : decode cL_areVotes 50 = .ok (.iconst 0, 1) := by decide +kernel
theorem dL_areVotes_51 : decode cL_areVotes 51 = .ok (.invokevirtual 80, 3) := by decide +kernel
theorem dL_areVotes_54 : decode cL_areVotes 54 = .ok (.iadd, 1) := by decide +kernel
theorem dL_areVotes_55 : decode cL_areVotes 55 = .ok (.istore_n 3, 1) := by decide +kernel
theorem dL_areVotes_56 : decode cL_areVotes 56 = .ok (.iload 9, 2) := by decide +kernel
theorem dL_areVotes_58 : decode cL_areVotes 58 = .ok (.iload 4, 2) := by decide +kernel
theorem dL_areVotes_60 : decode cL_areVotes 60 = .ok (.if_icmp .le 8, 3) := by decide +kernel
theorem dL_areVotes_63 : decode cL_areVotes 63 = .ok (.iload 4, 2) := by decide +kernel
theorem dL_areVotes_65 : decode cL_areVotes 65 = .ok (.goto 17, 3) := by decide +kernel
theorem dL_areVotes_68 : decode cL_areVotes 68 = .ok (.iload 9, 2) := by decide +kernel
theorem dL_areVotes_70 : decode cL_areVotes 70 = .ok (.iload 5, 2) := by decide +kernel
theorem dL_areVotes_72 : decode cL_areVotes 72 = .ok (.if_icmp .le 8, 3) := by decide +kernel
theorem dL_areVotes_75 : decode cL_areVotes 75 = .ok (.iload 9, 2) := by decide +kernel
theorem dL_areVotes_77 : decode cL_areVotes 77 = .ok (.goto 5, 3) := by decide +kernel
theorem dL_areVotes_80 : decode cL_areVotes 80 = .ok (.iload 5, 2) := by decide +kernel
theorem dL_areVotes_82 : decode cL_areVotes 82 = .ok (.istore 5, 2) := by decide +kernel
theorem dL_areVotes_84 : decode cL_areVotes 84 = .ok (.iload 9, 2) := by decide +kernel
theorem dL_areVotes_86 : decode cL_areVotes 86 = .ok (.iload 4, 2) := by decide +kernel
theorem dL_areVotes_88 : decode cL_areVotes 88 = .ok (.if_icmp .le 8, 3) := by decide +kernel
theorem dL_areVotes_91 : decode cL_areVotes 91 = .ok (.iload 9, 2) := by decide +kernel
theorem dL_areVotes_93 : decode cL_areVotes 93 = .ok (.goto 5, 3) := by decide +kernel
theorem dL_areVotes_96 : decode cL_areVotes 96 = .ok (.iload 4, 2) := by decide +kernel
theorem dL_areVotes_98 : decode cL_areVotes 98 = .ok (.istore 4, 2) := by decide +kernel
theorem dL_areVotes_100 : decode cL_areVotes 100 = .ok (.iload 6, 2) := by decide +kernel
theorem dL_areVotes_102 : decode cL_areVotes 102 = .ok (.iconst 1, 1) := by decide +kernel
theorem dL_areVotes_103 : decode cL_areVotes 103 = .ok (.aload_n 0, 1) := by decide +kernel
theorem dL_areVotes_104 : decode cL_areVotes 104 = .ok (.iload_n 1, 1) := by decide +kernel
theorem dL_areVotes_105 : decode cL_areVotes 105 = .ok (.iload 8, 2) := by decide +kernel
theorem dL_areVotes_107 : decode cL_areVotes 107 = .ok (.iconst 2, 1) := by decide +kernel
theorem dL_areVotes_108 : decode cL_areVotes 108 = .ok (.invokevirtual 80, 3) := by decide +kernel
theorem dL_areVotes_111 : decode cL_areVotes 111 = .ok (.ishl, 1) := by decide +kernel
theorem dL_areVotes_112 : decode cL_areVotes 112 = .ok (.ior, 1) := by decide +kernel
theorem dL_areVotes_113 : decode cL_areVotes 113 = .ok (.istore 6, 2) := by decide +kernel
theorem dL_areVotes_115 : decode cL_areVotes 115 = .ok (.aload_n 0, 1) := by decide +kernel
theorem dL_areVotes_116 : decode cL_areVotes 116 = .ok (.iload_n 1, 1) := by decide +kernel
theorem dL_areVotes_117 : decode cL_areVotes 117 = .ok (.iload 8, 2) := by decide +kernel
theorem dL_areVotes_119 : decode cL_areVotes 119 = .ok (.iconst 0, 1) := by decide +kernel
theorem dL_areVotes_120 : decode cL_areVotes 120 = .ok (.invokevirtual 80, 3) := by decide +kernel
theorem dL_areVotes_123 : decode cL_areVotes 123 = .ok (.ifCond .le 40, 3) := by decide +kernel
theorem dL_areVotes_126 : decode cL_areVotes 126 = .ok (.aload_n 0, 1) := by decide +kernel
theorem dL_areVotes_127 : decode cL_areVotes 127 = .ok (.iload_n 1, 1) := by decide +kernel
theorem dL_areVotes_128 : decode cL_areVotes 128 = .ok (.iload 8, 2) := by decide +kernel
theorem dL_areVotes_130 : decode cL_areVotes 130 = .ok (.iconst 3, 1) := by decide +kernel
theorem dL_areVotes_131 : decode cL_areVotes 131 = .ok (.invokevirtual 80, 3) := by decide +kernel
theorem dL_areVotes_134 : decode cL_areVotes 134 = .ok (.ifCond .le 29, 3) := by decide +kernel
theorem dL_areVotes_137 : decode cL_areVotes 137 = .ok (.aload_n 0, 1) := by decide +kernel
theorem dL_areVotes_138 : decode cL_areVotes 138 = .ok (.iload_n 1, 1) := by decide +kernel
theorem dL_areVotes_139 : decode cL_areVotes 139 = .ok (.iload 8, 2) := by decide +kernel
theorem dL_areVotes_141 : decode cL_areVotes 141 = .ok (.iconst 2, 1) := by decide +kernel
theorem dL_areVotes_142 : decode cL_areVotes 142 = .ok (.invokevirtual 80, 3) := by decide +kernel
theorem dL_areVotes_145 : decode cL_areVotes 145 = .ok (.ifCond .gt 14, 3) := by decide +kernel
theorem dL_areVotes_148 : decode cL_areVotes 148 = .ok (.iload 9, 2) := by decide +kernel
theorem dL_areVotes_150 : decode cL_areVotes 150 = .ok (.aload_n 0, 1) := by decide +kernel
theorem dL_areVotes_151 : decode cL_areVotes 151 = .ok (.iload_n 1, 1) := by decide +kernel
theorem dL_areVotes_152 : decode cL_areVotes 152 = .ok (.iconst 4, 1) := by decide +kernel
theorem dL_areVotes_153 : decode cL_areVotes 153 = .ok (.invokevirtual 21, 3) := by decide +kernel
theorem dL_areVotes_156 : decode cL_areVotes 156 = .ok (.if_icmp .ne 7, 3) := by decide +kernel
theorem dL_areVotes_159 : decode cL_areVotes 159 = .ok (.iconst 1, 1) := by decide +kernel
theorem dL_areVotes_160 : decode cL_areVotes 160 = .ok (.goto 4, 3) := by decide +kernel
theorem dL_areVotes_163 : decode cL_areVotes 163 = .ok (.iconst 0, 1) := by decide +kernel
theorem dL_areVotes_164 : decode cL_areVotes 164 = .ok (.istore 7, 2) := by decide +kernel
theorem dL_areVotes_166 : decode cL_areVotes 166 = .ok (.iinc 8 1, 3) := by decide +kernel
theorem dL_areVotes_169 : decode cL_areVotes 169 = .ok (.goto (-145), 3) := by decide +kernel
theorem dL_areVotes_172 : decode cL_areVotes 172 = .ok (.iload 7, 2) := by decide +kernel
theorem dL_areVotes_174 : decode cL_areVotes 174 = .ok (.ifCond .eq 63, 3) := by decide +kernel
theorem dL_areVotes_177 : decode cL_areVotes 177 = .ok (.iload 6, 2) := by decide +kernel
theorem dL_areVotes_179 : decode cL_areVotes 179 = .ok (.iconst 1, 1) := by decide +kernel
theorem dL_areVotes_180 : decode cL_areVotes 180 = .ok (.iload_n 2, 1) := by decide +kernel
theorem dL_areVotes_181 : decode cL_areVotes 181 = .ok (.ishl, 1) := by decide +kernel
theorem dL_areVotes_182 : decode cL_areVotes 182 = .ok (.iconst 1, 1) := by decide +kernel
theorem dL_areVotes_183 : decode cL_areVotes 183 = .ok (.isub, 1) := by decide +kernel
theorem dL_areVotes_184 : decode cL_areVotes 184 = .ok (.if_icmp .ne 53, 3) := by decide +kernel
theorem dL_areVotes_187 : decode cL_areVotes 187 = .ok (.iload_n 3, 1) := by decide +kernel
theorem dL_areVotes_188 : decode cL_areVotes 188 = .ok (.aload_n 0, 1) := by decide +kernel
theorem dL_areVotes_189 : decode cL_areVotes 189 = .ok (.iload_n 1, 1) := by decide +kernel
theorem dL_areVotes_190 : decode cL_areVotes 190 = .ok (.iconst 2, 1) := by decide +kernel
theorem dL_areVotes_191 : decode cL_areVotes 191 = .ok (.invokevirtual 21, 3) := by decide +kernel
theorem dL_areVotes_194 : decode cL_areVotes 194 = .ok (.if_icmp .ne 43, 3) := by decide +kernel
theorem dL_areVotes_197 : decode cL_areVotes 197 = .ok (.aload_n 0, 1) := by decide +kernel
theorem dL_areVotes_198 : decode cL_areVotes 198 = .ok (.iload_n 1, 1) := by decide +kernel
theorem dL_areVotes_199 : decode cL_areVotes 199 = .ok (.iconst 4, 1) := by decide +kernel
theorem dL_areVotes_200 : decode cL_areVotes 200 = .ok (.invokevirtual 21, 3) := by decide +kernel
theorem dL_areVotes_203 : decode cL_areVotes 203 = .ok (.iload 4, 2) := by decide +kernel
theorem dL_areVotes_205 : decode cL_areVotes 205 = .ok (.if_icmp .ne 32, 3) := by decide +kernel
theorem dL_areVotes_208 : decode cL_areVotes 208 = .ok (.aload_n 0, 1) := by decide +kernel
theorem dL_areVotes_209 : decode cL_areVotes 209 = .ok (.iload_n 1, 1) := by decide +kernel
theorem dL_areVotes_210 : decode cL_areVotes 210 = .ok (.iconst 5, 1) := by decide +kernel
theorem dL_areVotes_211 : decode cL_areVotes 211 = .ok (.invokevirtual 21, 3) := by decide +kernel
theorem dL_areVotes_214 : decode cL_areVotes 214 = .ok (.iload 4, 2) := by decide +kernel
theorem dL_areVotes_216 : decode cL_areVotes 216 = .ok (.iload 5, 2) := by decide +kernel
theorem dL_areVotes_218 : decode cL_areVotes 218 = .ok (.isub, 1) := by decide +kernel
theorem dL_areVotes_219 : decode cL_areVotes 219 = .ok (.if_icmp .ne 18, 3) := by decide +kernel
theorem dL_areVotes_222 : decode cL_areVotes 222 = .ok (.aload_n 0, 1) := by decide +kernel
theorem dL_areVotes_223 : decode cL_areVotes 223 = .ok (.iload_n 1, 1) := by decide +kernel
theorem dL_areVotes_224 : decode cL_areVotes 224 = .ok (.iload_n 2, 1) := by decide +kernel
theorem dL_areVotes_225 : decode cL_areVotes 225 = .ok (.iconst 0, 1) := by decide +kernel
theorem dL_areVotes_226 : decode cL_areVotes 226 = .ok (.invokevirtual 80, 3) := by decide +kernel
theorem dL_areVotes_229 : decode cL_areVotes 229 = .ok (.iconst (-1), 1) := by decide +kernel
theorem dL_areVotes_230 : decode cL_areVotes 230 = .ok (.if_icmp .ne 7, 3) := by decide +kernel
theorem dL_areVotes_233 : decode cL_areVotes 233 = .ok (.iconst 1, 1) := by decide +kernel
theorem dL_areVotes_234 : decode cL_areVotes 234 = .ok (.goto 4, 3) := by decide +kernel
theorem dL_areVotes_237 : decode cL_areVotes 237 = .ok (.iconst 0, 1) := by decide +kernel
theorem dL_areVotes_238 : decode cL_areVotes 238 = .ok (.istore 7, 2) := by decide +kernel
theorem dL_areVotes_240 : decode cL_areVotes 240 = .ok (.iload 7, 2) := by decide +kernel
theorem dL_areVotes_242 : decode cL_areVotes 242 = .ok (.ifCond .eq 21, 3) := by decide +kernel
theorem dL_areVotes_245 : decode cL_areVotes 245 = .ok (.iload_n 3, 1) := by decide +kernel
theorem dL_areVotes_246 : decode cL_areVotes 246 = .ok (.ifCond .gt 13, 3) := by decide +kernel
theorem dL_areVotes_249 : decode cL_areVotes 249 = .ok (.aload_n 0, 1) := by decide +kernel
theorem dL_areVotes_250 : decode cL_areVotes 250 = .ok (.iload_n 1, 1) := by decide +kernel
theorem dL_areVotes_251 : decode cL_areVotes 251 = .ok (.bipush 6, 2) := by decide +kernel
theorem dL_areVotes_253 : decode cL_areVotes 253 = .ok (.invokevirtual 21, 3) := by decide +kernel
theorem dL_areVotes_256 : decode cL_areVotes 256 = .ok (.ifCond .ne 7, 3) := by decide +kernel
theorem dL_areVotes_259 : decode cL_areVotes 259 = .ok (.iconst 1, 1) := by decide +kernel
theorem dL_areVotes_260 : decode cL_areVotes 260 = .ok (.goto 4, 3) := by decide +kernel
theorem dL_areVotes_263 : decode cL_areVotes 263 = .ok (.iconst 0, 1) := by decide +kernel
theorem dL_areVotes_264 : decode cL_areVotes 264 = .ok (.ireturn, 1) := by decide +kernel
theorem dL_isUnknown_0 : decode cL_isUnknown 0 = .ok (.aload_n 0, 1) := by decide +kernel
theorem dL_isUnknown_1 : decode cL_isUnknown 1 = .ok (.iload_n 1, 1) := by decide +kernel
theorem dL_isUnknown_2 : decode cL_isUnknown 2 = .ok (.invokevirtual 84, 3) := by decide +kernel
theorem dL_isUnknown_5 : decode cL_isUnknown 5 = .ok (.istore_n 2, 1) := by decide +kernel
theorem dL_isUnknown_6 : decode cL_isUnknown 6 = .ok (.aload_n 0, 1) := by decide +kernel
theorem dL_isUnknown_7 : decode cL_isUnknown 7 = .ok (.iconst 0, 1) := by decide +kernel
theorem dL_isUnknown_8 : decode cL_isUnknown 8 = .ok (.invokevirtual 29, 3) := by decide +kernel
theorem dL_isUnknown_11 : decode cL_isUnknown 11 = .ok (.bipush 10, 2) := by decide +kernel
theorem dL_isUnknown_13 : decode cL_isUnknown 13 = .ok (.aload_n 0, 1) := by decide +kernel
theorem dL_isUnknown_14 : decode cL_isUnknown 14 = .ok (.iload_n 1, 1) := by decide +kernel
theorem dL_isUnknown_15 : decode cL_isUnknown 15 = .ok (.iconst 1, 1) := by decide +kernel
theorem dL_isUnknown_16 : decode cL_isUnknown 16 = .ok (.invokevirtual 21, 3) := by decide +kernel
theorem dL_isUnknown_19 : decode cL_isUnknown 19 = .ok (.imul, 1) := by decide +kernel
theorem dL_isUnknown_20 : decode cL_isUnknown 20 = .ok (.iadd, 1) := by decide +kernel
theorem dL_isUnknown_21 : decode cL_isUnknown 21 = .ok (.aload_n 0, 1) := by decide +kernel
theorem dL_isUnknown_22 : decode cL_isUnknown 22 = .ok (.iload_n 1, 1) := by decide +kernel
theorem dL_isUnknown_23 : decode cL_isUnknown 23 = .ok (.iconst 4, 1) := by decide +kernel
theorem dL_isUnknown_24 : decode cL_isUnknown 24 = .ok (.invokevirtual 21, 3) := by decide +kernel
theorem dL_isUnknown_27 : decode cL_isUnknown 27 = .ok (.isub, 1) := by decide +kernel
theorem dL_isUnknown_28 : decode cL_isUnknown 28 = .ok (.istore_n 3, 1) := by decide +kernel
theorem dL_isUnknown_29 : decode cL_isUnknown 29 = .ok (.aload_n 0, 1) := by decide +kernel
theorem dL_isUnknown_30 : decode cL_isUnknown 30 = .ok (.iconst 1, 1) := by decide +kernel
theorem dL_isUnknown_31 : decode cL_isUnknown 31 = .ok (.invokevirtual 29, 3) := by decide +kernel
theorem dL_isUnknown_34 : decode cL_isUnknown 34 = .ok (.aload_n 0, 1) := by decide +kernel
theorem dL_isUnknown_35 : decode cL_isUnknown 35 = .ok (.iload_n 1, 1) := by decide +kernel
theorem dL_isUnknown_36 : decode cL_isUnknown 36 = .ok (.iconst 5, 1) := by decide +kernel
theorem dL_isUnknown_37 : decode cL_isUnknown 37 = .ok (.invokevirtual 21, 3) := by decide +kernel
theorem dL_isUnknown_40 : decode cL_isUnknown 40 = .ok (.isub, 1) := by decide +kernel
theorem dL_isUnknown_41 : decode cL_isUnknown 41 = .ok (.istore 4, 2) := by decide +kernel
theorem dL_isUnknown_43 : decode cL_isUnknown 43 = .ok (.iload_n 3, 1) := by decide +kernel
theorem dL_isUnknown_44 : decode cL_isUnknown 44 = .ok (.iload 4, 2) := by decide +kernel
theorem dL_isUnknown_46 : decode cL_isUnknown 46 = .ok (.if_icmp .le 7, 3) := by decide +kernel
theorem dL_isUnknown_49 : decode cL_isUnknown 49 = .ok (.iload_n 3, 1) := by decide +kernel
theorem dL_isUnknown_50 : decode cL_isUnknown 50 = .ok (.goto 5, 3) := by decide +kernel
theorem dL_isUnknown_53 : decode cL_isUnknown 53 = .ok (.iload 4, 2) := by decide +kernel
theorem dL_isUnknown_55 : decode cL_isUnknown 55 = .ok (.istore 5, 2) := by decide +kernel
theorem dL_isUnknown_57 : decode cL_isUnknown 57 = .ok (.iload_n 2, 1) := by decide +kernel
theorem dL_isUnknown_58 : decode cL_isUnknown 58 = .ok (.iload 5, 2) := by decide +kernel
theorem dL_isUnknown_60 : decode cL_isUnknown 60 = .ok (.ifCond .le 8, 3) := by decide +kernel
theorem dL_isUnknown_63 : decode cL_isUnknown 63 = .ok (.iload 5, 2) := by decide +kernel
theorem dL_isUnknown_65 : decode cL_isUnknown 65 = .ok (.goto 4, 3) := by decide +kernel
theorem dL_isUnknown_68 : decode cL_isUnknown 68 = .ok (.iconst 0, 1) := by decide +kernel
theorem dL_isUnknown_69 : decode cL_isUnknown 69 = .ok (.if_icmp .ne 31, 3) := by decide +kernel
theorem dL_isUnknown_72 : decode cL_isUnknown 72 = .ok (.aload_n 0, 1) := by decide +kernel
theorem dL_isUnknown_73 : decode cL_isUnknown 73 = .ok (.iload_n 1, 1) := by decide +kernel
theorem dL_isUnknown_74 : decode cL_isUnknown 74 = .ok (.bipush 8, 2) := by decide +kernel
theorem dL_isUnknown_76 : decode cL_isUnknown 76 = .ok (.invokevirtual 21, 3) := by decide +kernel
theorem dL_isUnknown_79 : decode cL_isUnknown 79 = .ok (.bipush (-6), 2) := by decide +kernel
theorem dL_isUnknown_81 : decode cL_isUnknown 81 = .ok (.if_icmp .ne 19, 3) := by decide +kernel
theorem dL_isUnknown_84 : decode cL_isUnknown 84 = .ok (.aload_n 0, 1) := by decide +kernel
theorem dL_isUnknown_85 : decode cL_isUnknown 85 = .ok (.aload_n 0, 1) := by decide +kernel
theorem dL_isUnknown_86 : decode cL_isUnknown 86 = .ok (.invokevirtual 87, 3) := by decide +kernel
theorem dL_isUnknown_89 : decode cL_isUnknown 89 = .ok (.invokevirtual 84, 3) := by decide +kernel
theorem dL_isUnknown_92 : decode cL_isUnknown 92 = .ok (.iload_n 2, 1) := by decide +kernel
theorem dL_isUnknown_93 : decode cL_isUnknown 93 = .ok (.if_icmp .gt 7, 3) := by decide +kernel
theorem dL_isUnknown_96 : decode cL_isUnknown 96 = .ok (.iconst 1, 1) := by decide +kernel
theorem dL_isUnknown_97 : decode cL_isUnknown 97 = .ok (.goto 4, 3) := by decide +kernel
theorem dL_isUnknown_100 : decode cL_isUnknown 100 = .ok (.iconst 0, 1) := by decide +kernel
theorem dL_isUnknown_101 : decode cL_isUnknown 101 = .ok (.istore 6, 2) := by decide +kernel
theorem dL_isUnknown_103 : decode cL_isUnknown 103 = .ok (.iload_n 1, 1) := by decide +kernel
theorem dL_isUnknown_104 : decode cL_isUnknown 104 = .ok (.bipush 6, 2) := by decide +kernel
theorem dL_isUnknown_106 : decode cL_isUnknown 106 = .ok (.irem, 1) := by decide +kernel
theorem dL_isUnknown_107 : decode cL_isUnknown 107 = .ok (.istore 7, 2) := by decide +kernel
theorem dL_isUnknown_109 : decode cL_isUnknown 109 = .ok (.aload_n 0, 1) := by decide +kernel
theorem dL_isUnknown_110 : decode cL_isUnknown 110 = .ok (.iload 7, 2) := by decide +kernel
theorem dL_isUnknown_112 : decode cL_isUnknown 112 = .ok (.iload_n 1, 1) := by decide +kernel
theorem dL_isUnknown_113 : decode cL_isUnknown 113 = .ok (.invokevirtual 90, 3) := by decide +kernel
theorem dL_isUnknown_116 : decode cL_isUnknown 116 = .ok (.istore 8, 2) := by decide +kernel
theorem dL_isUnknown_118 : decode cL_isUnknown 118 = .ok (.aload_n 0, 1) := by decide +kernel
theorem dL_isUnknown_119 : decode cL_isUnknown 119 = .ok (.iload 7, 2) := by decide +kernel
theorem dL_isUnknown_121 : decode cL_isUnknown 121 = .ok (.iconst 0, 1) := by decide +kernel
theorem dL_isUnknown_122 : decode cL_isUnknown 122 = .ok (.invokevirtual 26, 3) := by decide +kernel
theorem dL_isUnknown_125 : decode cL_isUnknown 125 = .ok (.istore 9, 2) := by decide +kernel
theorem dL_isUnknown_127 : decode cL_isUnknown 127 = .ok (.iconst 0, 1) := by decide +kernel
theorem dL_isUnknown_128 : decode cL_isUnknown 128 = .ok (.istore 10, 2) := by decide +kernel
theorem dL_isUnknown_130 : decode cL_isUnknown 130 = .ok (.iconst 1, 1) := by decide +kernel
theorem dL_isUnknown_131 : decode cL_isUnknown 131 = .ok (.istore 11, 2) := by decide +kernel
theorem dL_isUnknown_133 : decode cL_isUnknown 133 = .ok (.iload 11, 2) := by decide +kernel
theorem dL_isUnknown_135 : decode cL_isUnknown 135 = .ok (.iload 8, 2) := by decide +kernel
theorem dL_isUnknown_137 : decode cL_isUnknown 137 = .ok (.bipush (-6), 2) := by decide +kernel
theorem dL_isUnknown_139 : decode cL_isUnknown 139 = .ok (.if_icmp .ne 8, 3) := by decide +kernel
theorem dL_isUnknown_142 : decode cL_isUnknown 142 = .ok (.bipush 101, 2) := by decide +kernel
theorem dL_isUnknown_144 : decode cL_isUnknown 144 = .ok (.goto 5, 3) := by decide +kernel
theorem dL_isUnknown_147 : decode cL_isUnknown 147 = .ok (.iload 8, 2) := by decide +kernel
theorem dL_isUnknown_149 : decode cL_isUnknown 149 = .ok (.if_icmp .ge 44, 3) := by decide +kernel
theorem dL_isUnknown_152 : decode cL_isUnknown 152 = .ok (.iload 10, 2) := by decide +kernel
theorem dL_isUnknown_154 : decode cL_isUnknown 154 = .ok (.iload 9, 2) := by decide +kernel
theorem dL_isUnknown_156 : decode cL_isUnknown 156 = .ok (.iadd, 1) := by decide +kernel
theorem dL_isUnknown_157 : decode cL_isUnknown 157 = .ok (.istore 10, 2) := by decide +kernel
theorem dL_isUnknown_159 : decode cL_isUnknown 159 = .ok (.iload 9, 2) := by decide +kernel
theorem dL_isUnknown_161 : decode cL_isUnknown 161 = .ok (.aload_n 0, 1) := by decide +kernel
theorem dL_isUnknown_162 : decode cL_isUnknown 162 = .ok (.iconst 4, 1) := by decide +kernel
theorem dL_isUnknown_163 : decode cL_isUnknown 163 = .ok (.invokevirtual 29, 3) := by decide +kernel
theorem dL_isUnknown_166 : decode cL_isUnknown 166 = .ok (.iadd, 1) := by decide +kernel
theorem dL_isUnknown_167 : decode cL_isUnknown 167 = .ok (.bipush 100, 2) := by decide +kernel
theorem dL_isUnknown_169 : decode cL_isUnknown 169 = .ok (.if_icmp .le 8, 3) := by decide +kernel
theorem dL_isUnknown_172 : decode cL_isUnknown 172 = .ok (.bipush 100, 2) := by decide +kernel
theorem dL_isUnknown_174 : decode cL_isUnknown 174 = .ok (.goto 11, 3) := by decide +kernel
theorem dL_isUnknown_177 : decode cL_isUnknown 177 = .ok (.iload 9, 2) := by decide +kernel
theorem dL_isUnknown_179 : decode cL_isUnknown 179 = .ok (.aload_n 0, 1) := by decide +kernel
theorem dL_isUnknown_180 : decode cL_isUnknown 180 = .ok (.iconst 4, 1) := by decide +kernel
theorem dL_isUnknown_181 : decode cL_isUnknown 181 = .ok (.invokevirtual 29, 3) := by decide +kernel
theorem dL_isUnknown_184 : decode cL_isUnknown 184 = .ok (.iadd, 1) := by decide +kernel
theorem dL_isUnknown_185 : decode cL_isUnknown 185 = .ok (.istore 9, 2) := by decide +kernel
theorem dL_isUnknown_187 : decode cL_isUnknown 187 = .ok (.iinc 11 1, 3) := by decide +kernel
theorem dL_isUnknown_190 : decode cL_isUnknown 190 = .ok (.goto (-57), 3) := by decide +kernel
theorem dL_isUnknown_193 : decode cL_isUnknown 193 = .ok (.iload 6, 2) := by decide +kernel
theorem dL_isUnknown_195 : decode cL_isUnknown 195 = .ok (.ifCond .eq 44, 3) := by decide +kernel
theorem dL_isUnknown_198 : decode cL_isUnknown 198 = .ok (.iload 8, 2) := by decide +kernel
theorem dL_isUnknown_200 : decode cL_isUnknown 200 = .ok (.bipush (-6), 2) := by decide +kernel
theorem dL_isUnknown_202 : decode cL_isUnknown 202 = .ok (.if_icmp .ne 12, 3) := by decide +kernel
theorem dL_isUnknown_205 : decode cL_isUnknown 205 = .ok (.iload 10, 2) := by decide +kernel
theorem dL_isUnknown_207 : decode cL_isUnknown 207 = .ok (.iload_n 2, 1) := by decide +kernel
theorem dL_isUnknown_208 : decode cL_isUnknown 208 = .ok (.if_icmp .ge 31, 3) := by decide +kernel
theorem dL_isUnknown_211 : decode cL_isUnknown 211 = .ok (.goto 24, 3) := by decide +kernel
theorem dL_isUnknown_214 : decode cL_isUnknown 214 = .ok (.iload 8, 2) := by decide +kernel
theorem dL_isUnknown_216 : decode cL_isUnknown 216 = .ok (.iconst 1, 1) := by decide +kernel
theorem dL_isUnknown_217 : decode cL_isUnknown 217 = .ok (.if_icmp .eq 9, 3) := by decide +kernel
theorem dL_isUnknown_220 : decode cL_isUnknown 220 = .ok (.iload 10, 2) := by decide +kernel
theorem dL_isUnknown_222 : decode cL_isUnknown 222 = .ok (.iload_n 2, 1) := by decide +kernel
theorem dL_isUnknown_223 : decode cL_isUnknown 223 = .ok (.if_icmp .ge 16, 3) := by decide +kernel
theorem dL_isUnknown_226 : decode cL_isUnknown 226 = .ok (.iload 10, 2) := by decide +kernel
theorem dL_isUnknown_228 : decode cL_isUnknown 228 = .ok (.iload 9, 2) := by decide +kernel
theorem dL_isUnknown_230 : decode cL_isUnknown 230 = .ok (.iadd, 1) := by decide +kernel
theorem dL_isUnknown_231 : decode cL_isUnknown 231 = .ok (.iload_n 2, 1) := by decide +kernel
theorem dL_isUnknown_232 : decode cL_isUnknown 232 = .ok (.if_icmp .lt 7, 3) := by decide +kernel
theorem dL_isUnknown_235 : decode cL_isUnknown 235 = .ok (.iconst 1, 1) := by decide +kernel
theorem dL_isUnknown_236 : decode cL_isUnknown 236 = .ok (.goto 4, 3) := by decide +kernel
theorem dL_isUnknown_239 : decode cL_isUnknown 239 = .ok (.iconst 0, 1) := by decide +kernel
theorem dL_isUnknown_240 : decode cL_isUnknown 240 = .ok (.istore 6, 2) := by decide +kernel
theorem dL_isUnknown_242 : decode cL_isUnknown 242 = .ok (.aload_n 0, 1) := by decide +kernel
theorem dL_isUnknown_243 : decode cL_isUnknown 243 = .ok (.iload 7, 2) := by decide +kernel
theorem dL_isUnknown_245 : decode cL_isUnknown 245 = .ok (.iconst 0, 1) := by decide +kernel
theorem dL_isUnknown_246 : decode cL_isUnknown 246 = .ok (.invokevirtual 26, 3) := by decide +kernel
theorem dL_isUnknown_249 : decode cL_isUnknown 249 = .ok (.iload_n 2, 1) := by decide +kernel
theorem dL_isUnknown_250 : decode cL_isUnknown 250 = .ok (.if_icmp .lt 7, 3) := by decide +kernel
theorem dL_isUnknown_253 : decode cL_isUnknown 253 = .ok (.iconst 1, 1) := by decide +kernel
theorem dL_isUnknown_254 : decode cL_isUnknown 254 = .ok (.goto 4, 3) := by decide +kernel
theorem dL_isUnknown_257 : decode cL_isUnknown 257 = .ok (.iconst 0, 1) := by decide +kernel
theorem dL_isUnknown_258 : decode cL_isUnknown 258 = .ok (.istore 11, 2) := by decide +kernel
theorem dL_isUnknown_260 : decode cL_isUnknown 260 = .ok (.iload 6, 2) := by decide +kernel
theorem dL_isUnknown_262 : decode cL_isUnknown 262 = .ok (.ifCond .eq 64, 3) := by decide +kernel
theorem dL_isUnknown_265 : decode cL_isUnknown 265 = .ok (.aload_n 0, 1) := by decide +kernel
theorem dL_isUnknown_266 : decode cL_isUnknown 266 = .ok (.iload_n 1, 1) := by decide +kernel
theorem dL_isUnknown_267 : decode cL_isUnknown 267 = .ok (.iconst 2, 1) := by decide +kernel
theorem dL_isUnknown_268 : decode cL_isUnknown 268 = .ok (.invokevirtual 21, 3) := by decide +kernel
theorem dL_isUnknown_271 : decode cL_isUnknown 271 = .ok (.ifCond .ne 20, 3) := by decide +kernel
theorem dL_isUnknown_274 : decode cL_isUnknown 274 = .ok (.aload_n 0, 1) := by decide +kernel
theorem dL_isUnknown_275 : decode cL_isUnknown 275 = .ok (.iload 7, 2) := by decide +kernel
theorem dL_isUnknown_277 : decode cL_isUnknown 277 = .ok (.iload_n 1, 1) := by decide +kernel
theorem dL_isUnknown_278 : decode cL_isUnknown 278 = .ok (.bipush 9, 2) := by decide +kernel
theorem dL_isUnknown_280 : decode cL_isUnknown 280 = .ok (.invokevirtual 93, 3) := by decide +kernel
theorem dL_isUnknown_283 : decode cL_isUnknown 283 = .ok (.bipush (-5), 2) := by decide +kernel
theorem dL_isUnknown_285 : decode cL_isUnknown 285 = .ok (.if_icmp .ne 41, 3) := by decide +kernel
theorem dL_isUnknown_288 : decode cL_isUnknown 288 = .ok (.goto 34, 3) := by decide +kernel
theorem dL_isUnknown_291 : decode cL_isUnknown 291 = .ok (.aload_n 0, 1) := by decide +kernel
theorem dL_isUnknown_292 : decode cL_isUnknown 292 = .ok (.iload 7, 2) := by decide +kernel
theorem dL_isUnknown_294 : decode cL_isUnknown 294 = .ok (.iload_n 1, 1) := by decide +kernel
theorem dL_isUnknown_295 : decode cL_isUnknown 295 = .ok (.bipush 9, 2) := by decide +kernel
theorem dL_isUnknown_297 : decode cL_isUnknown 297 = .ok (.invokevirtual 93, 3) := by decide +kernel
theorem dL_isUnknown_300 : decode cL_isUnknown 300 = .ok (.iconst 1, 1) := by decide +kernel
theorem dL_isUnknown_301 : decode cL_isUnknown 301 = .ok (.if_icmp .ne 7, 3) := by decide +kernel
theorem dL_isUnknown_304 : decode cL_isUnknown 304 = .ok (.iconst 1, 1) := by decide +kernel
theorem dL_isUnknown_305 : decode cL_isUnknown 305 = .ok (.goto 4, 3) := by decide +kernel
theorem dL_isUnknown_308 : decode cL_isUnknown 308 = .ok (.iconst 0, 1) := by decide +kernel
theorem dL_isUnknown_309 : decode cL_isUnknown 309 = .ok (.iload 11, 2) := by decide +kernel
theorem dL_isUnknown_311 : decode cL_isUnknown 311 = .ok (.ifCond .ne 7, 3) := by decide +kernel
theorem dL_isUnknown_314 : decode cL_isUnknown 314 = .ok (.iconst 1, 1) := by decide +kernel
theorem dL_isUnknown_315 : decode cL_isUnknown 315 = .ok (.goto 4, 3) := by decide +kernel
theorem dL_isUnknown_318 : decode cL_isUnknown 318 = .ok (.iconst 0, 1) := by decide +kernel
theorem dL_isUnknown_319 : decode cL_isUnknown 319 = .ok (.if_icmp .ne 7, 3) := by decide +kernel
theorem dL_isUnknown_322 : decode cL_isUnknown 322 = .ok (.iconst 1, 1) := by decide +kernel
theorem dL_isUnknown_323 : decode cL_isUnknown 323 = .ok (.goto 4, 3) := by decide +kernel
theorem dL_isUnknown_326 : decode cL_isUnknown 326 = .ok (.iconst 0, 1) := by decide +kernel
theorem dL_isUnknown_327 : decode cL_isUnknown 327 = .ok (.ireturn, 1) := by decide +kernel
theorem dL_holds_0 : decode cL_holds 0 = .ok (.aload_n 0, 1) := by decide +kernel
theorem dL_holds_1 : decode cL_holds 1 = .ok (.bipush 6, 2) := by decide +kernel
theorem dL_holds_3 : decode cL_holds 3 = .ok (.invokevirtual 29, 3) := by decide +kernel
theorem dL_holds_6 : decode cL_holds 6 = .ok (.istore_n 1, 1) := by decide +kernel
theorem dL_holds_7 : decode cL_holds 7 = .ok (.iconst 0, 1) := by decide +kernel
theorem dL_holds_8 : decode cL_holds 8 = .ok (.istore_n 2, 1) := by decide +kernel
theorem dL_holds_9 : decode cL_holds 9 = .ok (.iconst 0, 1) := by decide +kernel
theorem dL_holds_10 : decode cL_holds 10 = .ok (.istore_n 3, 1) := by decide +kernel
theorem dL_holds_11 : decode cL_holds 11 = .ok (.iconst 0, 1) := by decide +kernel
theorem dL_holds_12 : decode cL_holds 12 = .ok (.istore 4, 2) := by decide +kernel
theorem dL_holds_14 : decode cL_holds 14 = .ok (.iconst 0, 1) := by decide +kernel
theorem dL_holds_15 : decode cL_holds 15 = .ok (.istore 5, 2) := by decide +kernel
theorem dL_holds_17 : decode cL_holds 17 = .ok (.aload_n 0, 1) := by decide +kernel
theorem dL_holds_18 : decode cL_holds 18 = .ok (.invokevirtual 96, 3) := by decide +kernel
theorem dL_holds_21 : decode cL_holds 21 = .ok (.istore 6, 2) := by decide +kernel
theorem dL_holds_23 : decode cL_holds 23 = .ok (.iconst 1, 1) := by decide +kernel
theorem dL_holds_24 : decode cL_holds 24 = .ok (.istore 7, 2) := by decide +kernel
theorem dL_holds_26 : decode cL_holds 26 = .ok (.iconst 0, 1) := by decide +kernel
theorem dL_holds_27 : decode cL_holds 27 = .ok (.istore 8, 2) := by decide +kernel
theorem dL_holds_29 : decode cL_holds 29 = .ok (.iload 8, 2) := by decide +kernel
theorem dL_holds_31 : decode cL_holds 31 = .ok (.bipush 6, 2) := by decide +kernel
theorem dL_holds_33 : decode cL_holds 33 = .ok (.if_icmp .ge 118, 3) := by decide +kernel
theorem dL_holds_36 : decode cL_holds 36 = .ok (.iload_n 3, 1) := by decide +kernel
theorem dL_holds_37 : decode cL_holds 37 = .ok (.aload_n 0, 1) := by decide +kernel
theorem dL_holds_38 : decode cL_holds 38 = .ok (.iload 8, 2) := by decide +kernel
theorem dL_holds_40 : decode cL_holds 40 = .ok (.iconst 1, 1) := by decide +kernel
theorem dL_holds_41 : decode cL_holds 41 = .ok (.invokevirtual 26, 3) := by decide +kernel
theorem dL_holds_44 : decode cL_holds 44 = .ok (.iadd, 1) := by decide +kernel
theorem dL_holds_45 : decode cL_holds 45 = .ok (.istore_n 3, 1) := by decide +kernel
theorem dL_holds_46 : decode cL_holds 46 = .ok (.iload_n 2, 1) := by decide +kernel
theorem dL_holds_47 : decode cL_holds 47 = .ok (.aload_n 0, 1) := by decide +kernel
theorem dL_holds_48 : decode cL_holds 48 = .ok (.iload 8, 2) := by decide +kernel
theorem dL_holds_50 : decode cL_holds 50 = .ok (.iconst 2, 1) := by decide +kernel
theorem dL_holds_51 : decode cL_holds 51 = .ok (.invokevirtual 26, 3) := by decide +kernel
theorem dL_holds_54 : decode cL_holds 54 = .ok (.iadd, 1) := by decide +kernel
theorem dL_holds_55 : decode cL_holds 55 = .ok (.istore_n 2, 1) := by decide +kernel
theorem dL_holds_56 : decode cL_holds 56 = .ok (.iload 4, 2) := by decide +kernel
theorem dL_holds_58 : decode cL_holds 58 = .ok (.aload_n 0, 1) := by decide +kernel
theorem dL_holds_59 : decode cL_holds 59 = .ok (.iload 8, 2) := by decide +kernel
theorem dL_holds_61 : decode cL_holds 61 = .ok (.iconst 0, 1) := by decide +kernel
theorem dL_holds_62 : decode cL_holds 62 = .ok (.invokevirtual 26, 3) := by decide +kernel
theorem dL_holds_65 : decode cL_holds 65 = .ok (.iadd, 1) := by decide +kernel
theorem dL_holds_66 : decode cL_holds 66 = .ok (.istore 4, 2) := by decide +kernel
theorem dL_holds_68 : decode cL_holds 68 = .ok (.iload 5, 2) := by decide +kernel
theorem dL_holds_70 : decode cL_holds 70 = .ok (.iconst 1, 1) := by decide +kernel
theorem dL_holds_71 : decode cL_holds 71 = .ok (.aload_n 0, 1) := by decide +kernel
theorem dL_holds_72 : decode cL_holds 72 = .ok (.iload 8, 2) := by decide +kernel
theorem dL_holds_74 : decode cL_holds 74 = .ok (.iconst 3, 1) := by decide +kernel
theorem dL_holds_75 : decode cL_holds 75 = .ok (.invokevirtual 26, 3) := by decide +kernel
theorem dL_holds_78 : decode cL_holds 78 = .ok (.ishl, 1) := by decide +kernel
theorem dL_holds_79 : decode cL_holds 79 = .ok (.ior, 1) := by decide +kernel
theorem dL_holds_80 : decode cL_holds 80 = .ok (.istore 5, 2) := by decide +kernel
theorem dL_holds_82 : decode cL_holds 82 = .ok (.iload 7, 2) := by decide +kernel
theorem dL_holds_84 : decode cL_holds 84 = .ok (.ifCond .eq 58, 3) := by decide +kernel
theorem dL_holds_87 : decode cL_holds 87 = .ok (.aload_n 0, 1) := by decide +kernel
theorem dL_holds_88 : decode cL_holds 88 = .ok (.iload 8, 2) := by decide +kernel
theorem dL_holds_90 : decode cL_holds 90 = .ok (.iconst 0, 1) := by decide +kernel
theorem dL_holds_91 : decode cL_holds 91 = .ok (.invokevirtual 26, 3) := by decide +kernel
theorem dL_holds_94 : decode cL_holds 94 = .ok (.ifCond .lt 48, 3) := by decide +kernel
theorem dL_holds_97 : decode cL_holds 97 = .ok (.aload_n 0, 1) := by decide +kernel
theorem dL_holds_98 : decode cL_holds 98 = .ok (.iload 8, 2) := by decide +kernel
theorem dL_holds_100 : decode cL_holds 100 = .ok (.iconst 0, 1) := by decide +kernel
theorem dL_holds_101 : decode cL_holds 101 = .ok (.invokevirtual 26, 3) := by decide +kernel
theorem dL_holds_104 : decode cL_holds 104 = .ok (.bipush 100, 2) := by decide +kernel
theorem dL_holds_106 : decode cL_holds 106 = .ok (.if_icmp .gt 36, 3) := by decide +kernel
theorem dL_holds_109 : decode cL_holds 109 = .ok (.aload_n 0, 1) := by decide +kernel
theorem dL_holds_110 : decode cL_holds 110 = .ok (.iload 8, 2) := by decide +kernel
theorem dL_holds_112 : decode cL_holds 112 = .ok (.iconst 2, 1) := by decide +kernel
theorem dL_holds_113 : decode cL_holds 113 = .ok (.invokevirtual 26, 3) := by decide +kernel
theorem dL_holds_116 : decode cL_holds 116 = .ok (.aload_n 0, 1) := by decide +kernel
theorem dL_holds_117 : decode cL_holds 117 = .ok (.iload 8, 2) := by decide +kernel
theorem dL_holds_119 : decode cL_holds 119 = .ok (.iconst 1, 1) := by decide +kernel
theorem dL_holds_120 : decode cL_holds 120 = .ok (.invokevirtual 26, 3) := by decide +kernel
theorem dL_holds_123 : decode cL_holds 123 = .ok (.if_icmp .gt 19, 3) := by decide +kernel
theorem dL_holds_126 : decode cL_holds 126 = .ok (.aload_n 0, 1) := by decide +kernel
theorem dL_holds_127 : decode cL_holds 127 = .ok (.iload 8, 2) := by decide +kernel
theorem dL_holds_129 : decode cL_holds 129 = .ok (.iconst 4, 1) := by decide +kernel
theorem dL_holds_130 : decode cL_holds 130 = .ok (.invokevirtual 26, 3) := by decide +kernel
theorem dL_holds_133 : decode cL_holds 133 = .ok (.bipush 60, 2) := by decide +kernel
theorem dL_holds_135 : decode cL_holds 135 = .ok (.if_icmp .gt 7, 3) := by decide +kernel
theorem dL_holds_138 : decode cL_holds 138 = .ok (.iconst 1, 1) := by decide +kernel
theorem dL_holds_139 : decode cL_holds 139 = .ok (.goto 4, 3) := by decide +kernel
theorem dL_holds_142 : decode cL_holds 142 = .ok (.iconst 0, 1) := by decide +kernel
theorem dL_holds_143 : decode cL_holds 143 = .ok (.istore 7, 2) := by decide +kernel
theorem dL_holds_145 : decode cL_holds 145 = .ok (.iinc 8 1, 3) := by decide +kernel
theorem dL_holds_148 : decode cL_holds 148 = .ok (.goto (-119), 3) := by decide +kernel
theorem dL_holds_151 : decode cL_holds 151 = .ok (.iconst 0, 1) := by decide +kernel
theorem dL_holds_152 : decode cL_holds 152 = .ok (.istore 8, 2) := by decide +kernel
theorem dL_holds_154 : decode cL_holds 154 = .ok (.iload 8, 2) := by decide +kernel
theorem dL_holds_156 : decode cL_holds 156 = .ok (.iload_n 1, 1) := by decide +kernel
theorem dL_holds_157 : decode cL_holds 157 = .ok (.if_icmp .ge 194, 3) := by decide +kernel
theorem dL_holds_160 : decode cL_holds 160 = .ok (.iload 7, 2) := by decide +kernel
theorem dL_holds_162 : decode cL_holds 162 = .ok (.ifCond .eq 189, 3) := by decide +kernel
theorem dL_holds_165 : decode cL_holds 165 = .ok (.aload_n 0, 1) := by decide +kernel
theorem dL_holds_166 : decode cL_holds 166 = .ok (.iload 8, 2) := by decide +kernel
theorem dL_holds_168 : decode cL_holds 168 = .ok (.iconst 0, 1) := by decide +kernel
theorem dL_holds_169 : decode cL_holds 169 = .ok (.invokevirtual 21, 3) := by decide +kernel
theorem dL_holds_172 : decode cL_holds 172 = .ok (.istore 9, 2) := by decide +kernel
theorem dL_holds_174 : decode cL_holds 174 = .ok (.aload_n 0, 1) := by decide +kernel
theorem dL_holds_175 : decode cL_holds 175 = .ok (.iload 8, 2) := by decide +kernel
theorem dL_holds_177 : decode cL_holds 177 = .ok (.invokestatic 99, 3) := by decide +kernel
theorem dL_holds_180 : decode cL_holds 180 = .ok (.ifCond .eq 36, 3) := by decide +kernel
theorem dL_holds_183 : decode cL_holds 183 = .ok (.iload 9, 2) := by decide +kernel
theorem dL_holds_185 : decode cL_holds 185 = .ok (.iconst 1, 1) := by decide +kernel
theorem dL_holds_186 : decode cL_holds 186 = .ok (.if_icmp .ne 15, 3) := by decide +kernel
theorem dL_holds_189 : decode cL_holds 189 = .ok (.aload_n 0, 1) := by decide +kernel
theorem dL_holds_190 : decode cL_holds 190 = .ok (.iload 8, 2) := by decide +kernel
theorem dL_holds_192 : decode cL_holds 192 = .ok (.invokestatic 103, 3) := by decide +kernel
theorem dL_holds_195 : decode cL_holds 195 = .ok (.ifCond .eq 21, 3) := by decide +kernel
theorem dL_holds_198 : decode cL_holds 198 = .ok (.goto 14, 3) := by decide +kernel
theorem dL_holds_201 : decode cL_holds 201 = .ok (.aload_n 0, 1) := by decide +kernel
theorem dL_holds_202 : decode cL_holds 202 = .ok (.iload 8, 2) := by decide +kernel
theorem dL_holds_204 : decode cL_holds 204 = .ok (.invokevirtual 84, 3) := by decide +kernel
theorem dL_holds_207 : decode cL_holds 207 = .ok (.bipush (-5), 2) := by decide +kernel
theorem dL_holds_209 : decode cL_holds 209 = .ok (.if_icmp .ne 7, 3) := by decide +kernel
theorem dL_holds_212 : decode cL_holds 212 = .ok (.iconst 1, 1) := by decide +kernel
theorem dL_holds_213 : decode cL_holds 213 = .ok (.goto 4, 3) := by decide +kernel
theorem dL_holds_216 : decode cL_holds 216 = .ok (.iconst 0, 1) := by decide +kernel
theorem dL_holds_217 : decode cL_holds 217 = .ok (.istore 7, 2) := by decide +kernel
theorem dL_holds_219 : decode cL_holds 219 = .ok (.iload 7, 2) := by decide +kernel
theorem dL_holds_221 : decode cL_holds 221 = .ok (.ifCond .eq 60, 3) := by decide +kernel
theorem dL_holds_224 : decode cL_holds 224 = .ok (.iload 9, 2) := by decide +kernel
theorem dL_holds_226 : decode cL_holds 226 = .ok (.ifCond .eq 9, 3) := by decide +kernel
theorem dL_holds_229 : decode cL_holds 229 = .ok (.iload 9, 2) := by decide +kernel
theorem dL_holds_231 : decode cL_holds 231 = .ok (.iconst 2, 1) := by decide +kernel
theorem dL_holds_232 : decode cL_holds 232 = .ok (.if_icmp .ne 17, 3) := by decide +kernel
theorem dL_holds_235 : decode cL_holds 235 = .ok (.aload_n 0, 1) := by decide +kernel
theorem dL_holds_236 : decode cL_holds 236 = .ok (.iload 8, 2) := by decide +kernel
theorem dL_holds_238 : decode cL_holds 238 = .ok (.bipush 8, 2) := by decide +kernel
theorem dL_holds_240 : decode cL_holds 240 = .ok (.invokevirtual 21, 3) := by decide +kernel
theorem dL_holds_243 : decode cL_holds 243 = .ok (.ifCond .le 38, 3) := by decide +kernel
theorem dL_holds_246 : decode cL_holds 246 = .ok (.goto 16, 3) := by decide +kernel
theorem dL_holds_249 : decode cL_holds 249 = .ok (.aload_n 0, 1) := by decide +kernel
theorem dL_holds_250 : decode cL_holds 250 = .ok (.iload 8, 2) := by decide +kernel
theorem dL_holds_252 : decode cL_holds 252 = .ok (.bipush 8, 2) := by decide +kernel
theorem dL_holds_254 : decode cL_holds 254 = .ok (.invokevirtual 21, 3) := by decide +kernel
theorem dL_holds_257 : decode cL_holds 257 = .ok (.bipush (-6), 2) := by decide +kernel
theorem dL_holds_259 : decode cL_holds 259 = .ok (.if_icmp .ne 22, 3) := by decide +kernel
theorem dL_holds_262 : decode cL_holds 262 = .ok (.iload 9, 2) := by decide +kernel
theorem dL_holds_264 : decode cL_holds 264 = .ok (.ifCond .gt 13, 3) := by decide +kernel
theorem dL_holds_267 : decode cL_holds 267 = .ok (.aload_n 0, 1) := by decide +kernel
theorem dL_holds_268 : decode cL_holds 268 = .ok (.iload 8, 2) := by decide +kernel
theorem dL_holds_270 : decode cL_holds 270 = .ok (.iconst 2, 1) := by decide +kernel
theorem dL_holds_271 : decode cL_holds 271 = .ok (.invokevirtual 21, 3) := by decide +kernel
theorem dL_holds_274 : decode cL_holds 274 = .ok (.ifCond .ne 7, 3) := by decide +kernel
theorem dL_holds_277 : decode cL_holds 277 = .ok (.iconst 1, 1) := by decide +kernel
theorem dL_holds_278 : decode cL_holds 278 = .ok (.goto 4, 3) := by decide +kernel
theorem dL_holds_281 : decode cL_holds 281 = .ok (.iconst 0, 1) := by decide +kernel
theorem dL_holds_282 : decode cL_holds 282 = .ok (.istore 7, 2) := by decide +kernel
theorem dL_holds_284 : decode cL_holds 284 = .ok (.iload 7, 2) := by decide +kernel
theorem dL_holds_286 : decode cL_holds 286 = .ok (.ifCond .eq 56, 3) := by decide +kernel
theorem dL_holds_289 : decode cL_holds 289 = .ok (.iload 9, 2) := by decide +kernel
theorem dL_holds_291 : decode cL_holds 291 = .ok (.iconst 1, 1) := by decide +kernel
theorem dL_holds_292 : decode cL_holds 292 = .ok (.if_icmp .eq 46, 3) := by decide +kernel
theorem dL_holds_295 : decode cL_holds 295 = .ok (.iload 9, 2) := by decide +kernel
theorem dL_holds_297 : decode cL_holds 297 = .ok (.iconst 3, 1) := by decide +kernel
theorem dL_holds_298 : decode cL_holds 298 = .ok (.if_icmp .eq 40, 3) := by decide +kernel
theorem dL_holds_301 : decode cL_holds 301 = .ok (.aload_n 0, 1) := by decide +kernel
theorem dL_holds_302 : decode cL_holds 302 = .ok (.iload 8, 2) := by decide +kernel
theorem dL_holds_304 : decode cL_holds 304 = .ok (.bipush 7, 2) := by decide +kernel
theorem dL_holds_306 : decode cL_holds 306 = .ok (.invokevirtual 21, 3) := by decide +kernel
theorem dL_holds_309 : decode cL_holds 309 = .ok (.ifCond .eq 29, 3) := by decide +kernel
theorem dL_holds_312 : decode cL_holds 312 = .ok (.iload 6, 2) := by decide +kernel
theorem dL_holds_314 : decode cL_holds 314 = .ok (.bipush (-6), 2) := by decide +kernel
theorem dL_holds_316 : decode cL_holds 316 = .ok (.if_icmp .eq 26, 3) := by decide +kernel
theorem dL_holds_319 : decode cL_holds 319 = .ok (.aload_n 0, 1) := by decide +kernel
theorem dL_holds_320 : decode cL_holds 320 = .ok (.iload 6, 2) := by decide +kernel
theorem dL_holds_322 : decode cL_holds 322 = .ok (.bipush 7, 2) := by decide +kernel
theorem dL_holds_324 : decode cL_holds 324 = .ok (.invokevirtual 21, 3) := by decide +kernel
theorem dL_holds_327 : decode cL_holds 327 = .ok (.aload_n 0, 1) := by decide +kernel
theorem dL_holds_328 : decode cL_holds 328 = .ok (.iload 8, 2) := by decide +kernel
theorem dL_holds_330 : decode cL_holds 330 = .ok (.bipush 7, 2) := by decide +kernel
theorem dL_holds_332 : decode cL_holds 332 = .ok (.invokevirtual 21, 3) := by decide +kernel
theorem dL_holds_335 : decode cL_holds 335 = .ok (.if_icmp .lt 7, 3) := by decide +kernel
theorem dL_holds_338 : decode cL_holds 338 = .ok (.iconst 1, 1) := by decide +kernel
theorem dL_holds_339 : decode cL_holds 339 = .ok (.goto 4, 3) := by decide +kernel
theorem dL_holds_342 : decode cL_holds 342 = .ok (.iconst 0, 1) := by decide +kernel
theorem dL_holds_343 : decode cL_holds 343 = .ok (.istore 7, 2) := by decide +kernel
theorem dL_holds_345 : decode cL_holds 345 = .ok (.iinc 8 1, 3) := by decide +kernel
theorem dL_holds_348 : decode cL_holds 348 = .ok (.goto (-194), 3) := by decide +kernel
theorem dL_holds_351 : decode cL_holds 351 = .ok (.iload 7, 2) := by decide +kernel
theorem dL_holds_353 : decode cL_holds 353 = .ok (.ifCond .eq 55, 3) := by decide +kernel
theorem dL_holds_356 : decode cL_holds 356 = .ok (.iload_n 3, 1) := by decide +kernel
theorem dL_holds_357 : decode cL_holds 357 = .ok (.aload_n 0, 1) := by decide +kernel
theorem dL_holds_358 : decode cL_holds 358 = .ok (.bipush 11, 2) := by decide +kernel
theorem dL_holds_360 : decode cL_holds 360 = .ok (.invokevirtual 29, 3) := by decide +kernel
theorem dL_holds_363 : decode cL_holds 363 = .ok (.if_icmp .ne 45, 3) := by decide +kernel
theorem dL_holds_366 : decode cL_holds 366 = .ok (.iload_n 2, 1) := by decide +kernel
theorem dL_holds_367 : decode cL_holds 367 = .ok (.aload_n 0, 1) := by decide +kernel
theorem dL_holds_368 : decode cL_holds 368 = .ok (.bipush 12, 2) := by decide +kernel
theorem dL_holds_370 : decode cL_holds 370 = .ok (.invokevirtual 29, 3) := by decide +kernel
theorem dL_holds_373 : decode cL_holds 373 = .ok (.if_icmp .ne 35, 3) := by decide +kernel
theorem dL_holds_376 : decode cL_holds 376 = .ok (.iload 4, 2) := by decide +kernel
theorem dL_holds_378 : decode cL_holds 378 = .ok (.aload_n 0, 1) := by decide +kernel
theorem dL_holds_379 : decode cL_holds 379 = .ok (.bipush 15, 2) := by decide +kernel
theorem dL_holds_381 : decode cL_holds 381 = .ok (.invokevirtual 29, 3) := by decide +kernel
theorem dL_holds_384 : decode cL_holds 384 = .ok (.if_icmp .ne 24, 3) := by decide +kernel
theorem dL_holds_387 : decode cL_holds 387 = .ok (.iload 5, 2) := by decide +kernel
theorem dL_holds_389 : decode cL_holds 389 = .ok (.bipush 63, 2) := by decide +kernel
theorem dL_holds_391 : decode cL_holds 391 = .ok (.if_icmp .ne 17, 3) := by decide +kernel
theorem dL_holds_394 : decode cL_holds 394 = .ok (.aload_n 0, 1) := by decide +kernel
theorem dL_holds_395 : decode cL_holds 395 = .ok (.iload_n 1, 1) := by decide +kernel
theorem dL_holds_396 : decode cL_holds 396 = .ok (.iconst 0, 1) := by decide +kernel
theorem dL_holds_397 : decode cL_holds 397 = .ok (.invokevirtual 21, 3) := by decide +kernel
theorem dL_holds_400 : decode cL_holds 400 = .ok (.iconst (-1), 1) := by decide +kernel
theorem dL_holds_401 : decode cL_holds 401 = .ok (.if_icmp .ne 7, 3) := by decide +kernel
theorem dL_holds_404 : decode cL_holds 404 = .ok (.iconst 1, 1) := by decide +kernel
theorem dL_holds_405 : decode cL_holds 405 = .ok (.goto 4, 3) := by decide +kernel
theorem dL_holds_408 : decode cL_holds 408 = .ok (.iconst 0, 1) := by decide +kernel
theorem dL_holds_409 : decode cL_holds 409 = .ok (.istore 7, 2) := by decide +kernel
theorem dL_holds_411 : decode cL_holds 411 = .ok (.iload 7, 2) := by decide +kernel
theorem dL_holds_413 : decode cL_holds 413 = .ok (.ifCond .eq 69, 3) := by decide +kernel
theorem dL_holds_416 : decode cL_holds 416 = .ok (.aload_n 0, 1) := by decide +kernel
theorem dL_holds_417 : decode cL_holds 417 = .ok (.bipush 7, 2) := by decide +kernel
theorem dL_holds_419 : decode cL_holds 419 = .ok (.invokevirtual 29, 3) := by decide +kernel
theorem dL_holds_422 : decode cL_holds 422 = .ok (.aload_n 0, 1) := by decide +kernel
theorem dL_holds_423 : decode cL_holds 423 = .ok (.bipush 8, 2) := by decide +kernel
theorem dL_holds_425 : decode cL_holds 425 = .ok (.invokevirtual 29, 3) := by decide +kernel
theorem dL_holds_428 : decode cL_holds 428 = .ok (.iadd, 1) := by decide +kernel
theorem dL_holds_429 : decode cL_holds 429 = .ok (.aload_n 0, 1) := by decide +kernel
theorem dL_holds_430 : decode cL_holds 430 = .ok (.bipush 9, 2) := by decide +kernel
theorem dL_holds_432 : decode cL_holds 432 = .ok (.invokevirtual 29, 3) := by decide +kernel
theorem dL_holds_435 : decode cL_holds 435 = .ok (.iadd, 1) := by decide +kernel
theorem dL_holds_436 : decode cL_holds 436 = .ok (.aload_n 0, 1) := by decide +kernel
theorem dL_holds_437 : decode cL_holds 437 = .ok (.bipush 10, 2) := by decide +kernel
theorem dL_holds_439 : decode cL_holds 439 = .ok (.invokevirtual 29, 3) := by decide +kernel
theorem dL_holds_442 : decode cL_holds 442 = .ok (.iadd, 1) := by decide +kernel
theorem dL_holds_443 : decode cL_holds 443 = .ok (.iload_n 1, 1) := by decide +kernel
theorem dL_holds_444 : decode cL_holds 444 = .ok (.if_icmp .ne 38, 3) := by decide +kernel
theorem dL_holds_447 : decode cL_holds 447 = .ok (.aload_n 0, 1) := by decide +kernel
theorem dL_holds_448 : decode cL_holds 448 = .ok (.bipush 8, 2) := by decide +kernel
theorem dL_holds_450 : decode cL_holds 450 = .ok (.invokevirtual 29, 3) := by decide +kernel
theorem dL_holds_453 : decode cL_holds 453 = .ok (.ifCond .ne 7, 3) := by decide +kernel
theorem dL_holds_456 : decode cL_holds 456 = .ok (.iconst 1, 1) := by decide +kernel
theorem dL_holds_457 : decode cL_holds 457 = .ok (.goto 4, 3) := by decide +kernel
theorem dL_holds_460 : decode cL_holds 460 = .ok (.iconst 0, 1) := by decide +kernel
theorem dL_holds_461 : decode cL_holds 461 = .ok (.aload_n 0, 1) := by decide +kernel
theorem dL_holds_462 : decode cL_holds 462 = .ok (.invokevirtual 87, 3) := by decide +kernel
theorem dL_holds_465 : decode cL_holds 465 = .ok (.bipush (-6), 2) := by decide +kernel
theorem dL_holds_467 : decode cL_holds 467 = .ok (.if_icmp .ne 7, 3) := by decide +kernel
theorem dL_holds_470 : decode cL_holds 470 = .ok (.iconst 1, 1) := by decide +kernel
theorem dL_holds_471 : decode cL_holds 471 = .ok (.goto 4, 3) := by decide +kernel
theorem dL_holds_474 : decode cL_holds 474 = .ok (.iconst 0, 1) := by decide +kernel
theorem dL_holds_475 : decode cL_holds 475 = .ok (.if_icmp .ne 7, 3) := by decide +kernel
theorem dL_holds_478 : decode cL_holds 478 = .ok (.iconst 1, 1) := by decide +kernel
theorem dL_holds_479 : decode cL_holds 479 = .ok (.goto 4, 3) := by decide +kernel
theorem dL_holds_482 : decode cL_holds 482 = .ok (.iconst 0, 1) := by decide +kernel
theorem dL_holds_483 : decode cL_holds 483 = .ok (.ireturn, 1) := by decide +kernel
theorem dL_law_0 : decode cL_law 0 = .ok (.new 10, 3) := by decide +kernel
theorem dL_law_3 : decode cL_law 3 = .ok (.dup, 1) := by decide +kernel
theorem dL_law_4 : decode cL_law 4 = .ok (.invokespecial 106, 3) := by decide +kernel
theorem dL_law_7 : decode cL_law 7 = .ok (.astore_n 1, 1) := by decide +kernel
theorem dL_law_8 : decode cL_law 8 = .ok (.aload_n 1, 1) := by decide +kernel
theorem dL_law_9 : decode cL_law 9 = .ok (.invokestatic 107, 3) := by decide +kernel
theorem dL_law_12 : decode cL_law 12 = .ok (.ifCond .eq 16, 3) := by decide +kernel
theorem dL_law_15 : decode cL_law 15 = .ok (.aload_n 1, 1) := by decide +kernel
theorem dL_law_16 : decode cL_law 16 = .ok (.invokevirtual 111, 3) := by decide +kernel
theorem dL_law_19 : decode cL_law 19 = .ok (.bipush (-5), 2) := by decide +kernel
theorem dL_law_21 : decode cL_law 21 = .ok (.if_icmp .ne 7, 3) := by decide +kernel
theorem dL_law_24 : decode cL_law 24 = .ok (.iconst 1, 1) := by decide +kernel
theorem dL_law_25 : decode cL_law 25 = .ok (.goto 4, 3) := by decide +kernel
theorem dL_law_28 : decode cL_law 28 = .ok (.iconst 0, 1) := by decide +kernel
theorem dL_law_29 : decode cL_law 29 = .ok (.istore_n 2, 1) := by decide +kernel
theorem dL_law_30 : decode cL_law 30 = .ok (.aload_n 0, 1) := by decide +kernel
theorem dL_law_31 : decode cL_law 31 = .ok (.arraylength, 1) := by decide +kernel
theorem dL_law_32 : decode cL_law 32 = .ok (.iconst 3, 1) := by decide +kernel
theorem dL_law_33 : decode cL_law 33 = .ok (.idiv, 1) := by decide +kernel
theorem dL_law_34 : decode cL_law 34 = .ok (.bipush 36, 2) := by decide +kernel
theorem dL_law_36 : decode cL_law 36 = .ok (.if_icmp .le 8, 3) := by decide +kernel
theorem dL_law_39 : decode cL_law 39 = .ok (.bipush 36, 2) := by decide +kernel
theorem dL_law_41 : decode cL_law 41 = .ok (.goto 7, 3) := by decide +kernel
theorem dL_law_44 : decode cL_law 44 = .ok (.aload_n 0, 1) := by decide +kernel
theorem dL_law_45 : decode cL_law 45 = .ok (.arraylength, 1) := by decide +kernel
theorem dL_law_46 : decode cL_law 46 = .ok (.iconst 3, 1) := by decide +kernel
theorem dL_law_47 : decode cL_law 47 = .ok (.idiv, 1) := by decide +kernel
theorem dL_law_48 : decode cL_law 48 = .ok (.istore_n 3, 1) := by decide +kernel
theorem dL_law_49 : decode cL_law 49 = .ok (.iconst 0, 1) := by decide +kernel
theorem dL_law_50 : decode cL_law 50 = .ok (.istore 4, 2) := by decide +kernel
theorem dL_law_52 : decode cL_law 52 = .ok (.iload 4, 2) := by decide +kernel
theorem dL_law_54 : decode cL_law 54 = .ok (.iload_n 3, 1) := by decide +kernel
theorem dL_law_55 : decode cL_law 55 = .ok (.if_icmp .ge 268, 3) := by decide +kernel
theorem dL_law_58 : decode cL_law 58 = .ok (.iload_n 2, 1) := by decide +kernel
theorem dL_law_59 : decode cL_law 59 = .ok (.ifCond .eq 264, 3) := by decide +kernel
theorem dL_law_62 : decode cL_law 62 = .ok (.aload_n 0, 1) := by decide +kernel
theorem dL_law_63 : decode cL_law 63 = .ok (.iconst 3, 1) := by decide +kernel
theorem dL_law_64 : decode cL_law 64 = .ok (.iload 4, 2) := by decide +kernel
theorem dL_law_66 : decode cL_law 66 = .ok (.imul, 1) := by decide +kernel
theorem dL_law_67 : decode cL_law 67 = .ok (.invokestatic 114, 3) := by decide +kernel
theorem dL_law_70 : decode cL_law 70 = .ok (.bipush 20, 2) := by decide +kernel
theorem dL_law_72 : decode cL_law 72 = .ok (.invokestatic 15, 3) := by decide +kernel
theorem dL_law_75 : decode cL_law 75 = .ok (.istore 5, 2) := by decide +kernel
theorem dL_law_77 : decode cL_law 77 = .ok (.aload_n 0, 1) := by decide +kernel
theorem dL_law_78 : decode cL_law 78 = .ok (.iconst 3, 1) := by decide +kernel
theorem dL_law_79 : decode cL_law 79 = .ok (.iload 4, 2) := by decide +kernel
theorem dL_law_81 : decode cL_law 81 = .ok (.imul, 1) := by decide +kernel
theorem dL_law_82 : decode cL_law 82 = .ok (.iconst 1, 1) := by decide +kernel
theorem dL_law_83 : decode cL_law 83 = .ok (.iadd, 1) := by decide +kernel
theorem dL_law_84 : decode cL_law 84 = .ok (.invokestatic 114, 3) := by decide +kernel
theorem dL_law_87 : decode cL_law 87 = .ok (.istore 6, 2) := by decide +kernel
theorem dL_law_89 : decode cL_law 89 = .ok (.aload_n 0, 1) := by decide +kernel
theorem dL_law_90 : decode cL_law 90 = .ok (.iconst 3, 1) := by decide +kernel
theorem dL_law_91 : decode cL_law 91 = .ok (.iload 4, 2) := by decide +kernel
theorem dL_law_93 : decode cL_law 93 = .ok (.imul, 1) := by decide +kernel
theorem dL_law_94 : decode cL_law 94 = .ok (.iconst 2, 1) := by decide +kernel
theorem dL_law_95 : decode cL_law 95 = .ok (.iadd, 1) := by decide +kernel
theorem dL_law_96 : decode cL_law 96 = .ok (.invokestatic 114, 3) := by decide +kernel
theorem dL_law_99 : decode cL_law 99 = .ok (.istore 7, 2) := by decide +kernel
theorem dL_law_101 : decode cL_law 101 = .ok (.aload_n 1, 1) := by decide +kernel
theorem dL_law_102 : decode cL_law 102 = .ok (.bipush 17, 2) := by decide +kernel
theorem dL_law_104 : decode cL_law 104 = .ok (.invokevirtual 29, 3) := by decide +kernel
theorem dL_law_107 : decode cL_law 107 = .ok (.istore 8, 2) := by decide +kernel
theorem dL_law_109 : decode cL_law 109 = .ok (.aload_n 1, 1) := by decide +kernel
theorem dL_law_110 : decode cL_law 110 = .ok (.bipush 6, 2) := by decide +kernel
theorem dL_law_112 : decode cL_law 112 = .ok (.invokevirtual 29, 3) := by decide +kernel
theorem dL_law_115 : decode cL_law 115 = .ok (.istore 9, 2) := by decide +kernel
theorem dL_law_117 : decode cL_law 117 = .ok (.iload 5, 2) := by decide +kernel
theorem dL_law_119 : decode cL_law 119 = .ok (.bipush 8, 2) := by decide +kernel
theorem dL_law_121 : decode cL_law 121 = .ok (.if_icmp .ge 66, 3) := by decide +kernel
theorem dL_law_124 : decode cL_law 124 = .ok (.aload_n 1, 1) := by decide +kernel
theorem dL_law_125 : decode cL_law 125 = .ok (.iload 5, 2) := by decide +kernel
theorem dL_law_127 : decode cL_law 127 = .ok (.iload 6, 2) := by decide +kernel
theorem dL_law_129 : decode cL_law 129 = .ok (.iload 7, 2) := by decide +kernel
theorem dL_law_131 : decode cL_law 131 = .ok (.invokestatic 118, 3) := by decide +kernel
theorem dL_law_134 : decode cL_law 134 = .ok (.istore 10, 2) := by decide +kernel
theorem dL_law_136 : decode cL_law 136 = .ok (.aload_n 1, 1) := by decide +kernel
theorem dL_law_137 : decode cL_law 137 = .ok (.bipush 17, 2) := by decide +kernel
theorem dL_law_139 : decode cL_law 139 = .ok (.invokevirtual 29, 3) := by decide +kernel
theorem dL_law_142 : decode cL_law 142 = .ok (.iload 10, 2) := by decide +kernel
theorem dL_law_144 : decode cL_law 144 = .ok (.ifCond .ge 8, 3) := by decide +kernel
theorem dL_law_147 : decode cL_law 147 = .ok (.iload 8, 2) := by decide +kernel
theorem dL_law_149 : decode cL_law 149 = .ok (.goto 19, 3) := by decide +kernel
theorem dL_law_152 : decode cL_law 152 = .ok (.iload 8, 2) := by decide +kernel
theorem dL_law_154 : decode cL_law 154 = .ok (.bipush 6, 2) := by decide +kernel
theorem dL_law_156 : decode cL_law 156 = .ok (.if_icmp .ne 8, 3) := by decide +kernel
theorem dL_law_159 : decode cL_law 159 = .ok (.bipush 6, 2) := by decide +kernel
theorem dL_law_161 : decode cL_law 161 = .ok (.goto 7, 3) := by decide +kernel
theorem dL_law_164 : decode cL_law 164 = .ok (.iload 8, 2) := by decide +kernel
theorem dL_law_166 : decode cL_law 166 = .ok (.iconst 1, 1) := by decide +kernel
theorem dL_law_167 : decode cL_law 167 = .ok (.iadd, 1) := by decide +kernel
theorem dL_law_168 : decode cL_law 168 = .ok (.if_icmp .ne 14, 3) := by decide +kernel
theorem dL_law_171 : decode cL_law 171 = .ok (.aload_n 1, 1) := by decide +kernel
theorem dL_law_172 : decode cL_law 172 = .ok (.invokestatic 107, 3) := by decide +kernel
theorem dL_law_175 : decode cL_law 175 = .ok (.ifCond .eq 7, 3) := by decide +kernel
theorem dL_law_178 : decode cL_law 178 = .ok (.iconst 1, 1) := by decide +kernel
theorem dL_law_179 : decode cL_law 179 = .ok (.goto 4, 3) := by decide +kernel
theorem dL_law_182 : decode cL_law 182 = .ok (.iconst 0, 1) := by decide +kernel
theorem dL_law_183 : decode cL_law 183 = .ok (.istore_n 2, 1) := by decide +kernel
theorem dL_law_184 : decode cL_law 184 = .ok (.goto 133, 3) := by decide +kernel
theorem dL_law_187 : decode cL_law 187 = .ok (.aload_n 1, 1) := by decide +kernel
theorem dL_law_188 : decode cL_law 188 = .ok (.bipush 15, 2) := by decide +kernel
theorem dL_law_190 : decode cL_law 190 = .ok (.invokevirtual 29, 3) := by decide +kernel
theorem dL_law_193 : decode cL_law 193 = .ok (.istore 10, 2) := by decide +kernel
theorem dL_law_195 : decode cL_law 195 = .ok (.iload 9, 2) := by decide +kernel
theorem dL_law_197 : decode cL_law 197 = .ok (.bipush 12, 2) := by decide +kernel
theorem dL_law_199 : decode cL_law 199 = .ok (.if_icmp .ge 10, 3) := by decide +kernel
theorem dL_law_202 : decode cL_law 202 = .ok (.iload 9, 2) := by decide +kernel
theorem dL_law_204 : decode cL_law 204 = .ok (.iconst 1, 1) := by decide +kernel
theorem dL_law_205 : decode cL_law 205 = .ok (.iadd, 1) := by decide +kernel
theorem dL_law_206 : decode cL_law 206 = .ok (.goto 5, 3) := by decide +kernel
theorem dL_law_209 : decode cL_law 209 = .ok (.bipush 12, 2) := by decide +kernel
theorem dL_law_211 : decode cL_law 211 = .ok (.istore 11, 2) := by decide +kernel
theorem dL_law_213 : decode cL_law 213 = .ok (.aload_n 1, 1) := by decide +kernel
theorem dL_law_214 : decode cL_law 214 = .ok (.iload 6, 2) := by decide +kernel
theorem dL_law_216 : decode cL_law 216 = .ok (.bipush 6, 2) := by decide +kernel
theorem dL_law_218 : decode cL_law 218 = .ok (.invokestatic 15, 3) := by decide +kernel
theorem dL_law_221 : decode cL_law 221 = .ok (.iload 6, 2) := by decide +kernel
theorem dL_law_223 : decode cL_law 223 = .ok (.iconst 3, 1) := by decide +kernel
theorem dL_law_224 : decode cL_law 224 = .ok (.ishr, 1) := by decide +kernel
theorem dL_law_225 : decode cL_law 225 = .ok (.iload 11, 2) := by decide +kernel
theorem dL_law_227 : decode cL_law 227 = .ok (.invokestatic 15, 3) := by decide +kernel
theorem dL_law_230 : decode cL_law 230 = .ok (.iload 6, 2) := by decide +kernel
theorem dL_law_232 : decode cL_law 232 = .ok (.bipush 8, 2) := by decide +kernel
theorem dL_law_234 : decode cL_law 234 = .ok (.ishr, 1) := by decide +kernel
theorem dL_law_235 : decode cL_law 235 = .ok (.iload 11, 2) := by decide +kernel
theorem dL_law_237 : decode cL_law 237 = .ok (.invokestatic 15, 3) := by decide +kernel
theorem dL_law_240 : decode cL_law 240 = .ok (.iload 7, 2) := by decide +kernel
theorem dL_law_242 : decode cL_law 242 = .ok (.invokestatic 122, 3) := by decide +kernel
theorem dL_law_245 : decode cL_law 245 = .ok (.ifCond .eq 14, 3) := by decide +kernel
theorem dL_law_248 : decode cL_law 248 = .ok (.aload_n 1, 1) := by decide +kernel
theorem dL_law_249 : decode cL_law 249 = .ok (.invokestatic 107, 3) := by decide +kernel
theorem dL_law_252 : decode cL_law 252 = .ok (.ifCond .eq 7, 3) := by decide +kernel
theorem dL_law_255 : decode cL_law 255 = .ok (.iconst 1, 1) := by decide +kernel
theorem dL_law_256 : decode cL_law 256 = .ok (.goto 4, 3) := by decide +kernel
theorem dL_law_259 : decode cL_law 259 = .ok (.iconst 0, 1) := by decide +kernel
theorem dL_law_260 : decode cL_law 260 = .ok (.istore_n 2, 1) := by decide +kernel
theorem dL_law_261 : decode cL_law 261 = .ok (.iload_n 2, 1) := by decide +kernel
theorem dL_law_262 : decode cL_law 262 = .ok (.ifCond .eq 55, 3) := by decide +kernel
theorem dL_law_265 : decode cL_law 265 = .ok (.iload 4, 2) := by decide +kernel
theorem dL_law_267 : decode cL_law 267 = .ok (.iconst 5, 1) := by decide +kernel
theorem dL_law_268 : decode cL_law 268 = .ok (.irem, 1) := by decide +kernel
theorem dL_law_269 : decode cL_law 269 = .ok (.iconst 4, 1) := by decide +kernel
theorem dL_law_270 : decode cL_law 270 = .ok (.if_icmp .ne 47, 3) := by decide +kernel
theorem dL_law_273 : decode cL_law 273 = .ok (.aload_n 1, 1) := by decide +kernel
theorem dL_law_274 : decode cL_law 274 = .ok (.bipush 17, 2) := by decide +kernel
theorem dL_law_276 : decode cL_law 276 = .ok (.invokevirtual 29, 3) := by decide +kernel
theorem dL_law_279 : decode cL_law 279 = .ok (.iload 8, 2) := by decide +kernel
theorem dL_law_281 : decode cL_law 281 = .ok (.if_icmp .le 36, 3) := by decide +kernel
theorem dL_law_284 : decode cL_law 284 = .ok (.aload_n 1, 1) := by decide +kernel
theorem dL_law_285 : decode cL_law 285 = .ok (.invokevirtual 111, 3) := by decide +kernel
theorem dL_law_288 : decode cL_law 288 = .ok (.iload 8, 2) := by decide +kernel
theorem dL_law_290 : decode cL_law 290 = .ok (.if_icmp .ne 25, 3) := by decide +kernel
theorem dL_law_293 : decode cL_law 293 = .ok (.aload_n 1, 1) := by decide +kernel
theorem dL_law_294 : decode cL_law 294 = .ok (.bipush 15, 2) := by decide +kernel
theorem dL_law_296 : decode cL_law 296 = .ok (.invokevirtual 29, 3) := by decide +kernel
theorem dL_law_299 : decode cL_law 299 = .ok (.iload 10, 2) := by decide +kernel
theorem dL_law_301 : decode cL_law 301 = .ok (.if_icmp .ne 14, 3) := by decide +kernel
theorem dL_law_304 : decode cL_law 304 = .ok (.aload_n 1, 1) := by decide +kernel
theorem dL_law_305 : decode cL_law 305 = .ok (.invokestatic 107, 3) := by decide +kernel
theorem dL_law_308 : decode cL_law 308 = .ok (.ifCond .eq 7, 3) := by decide +kernel
theorem dL_law_311 : decode cL_law 311 = .ok (.iconst 1, 1) := by decide +kernel
theorem dL_law_312 : decode cL_law 312 = .ok (.goto 4, 3) := by decide +kernel
theorem dL_law_315 : decode cL_law 315 = .ok (.iconst 0, 1) := by decide +kernel
theorem dL_law_316 : decode cL_law 316 = .ok (.istore_n 2, 1) := by decide +kernel
theorem dL_law_317 : decode cL_law 317 = .ok (.iinc 4 1, 3) := by decide +kernel
theorem dL_law_320 : decode cL_law 320 = .ok (.goto (-268), 3) := by decide +kernel
theorem dL_law_323 : decode cL_law 323 = .ok (.iload_n 2, 1) := by decide +kernel
theorem dL_law_324 : decode cL_law 324 = .ok (.ireturn, 1) := by decide +kernel
