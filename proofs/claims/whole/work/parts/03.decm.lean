theorem dX8_init_0 : decode cX8_init 0 = .ok (.aload_n 0, 1) := by decide +kernel
theorem dX8_init_1 : decode cX8_init 1 = .ok (.invokespecial 1, 3) := by decide +kernel
theorem dX8_init_4 : decode cX8_init 4 = .ok (.aload_n 0, 1) := by decide +kernel
theorem dX8_init_5 : decode cX8_init 5 = .ok (.sipush 828, 3) := by decide +kernel
theorem dX8_init_8 : decode cX8_init 8 = .ok (.newarray .int, 2) := by decide +kernel
theorem dX8_init_10 : decode cX8_init 10 = .ok (.putfield 7, 3) := by decide +kernel
theorem dX8_init_13 : decode cX8_init 13 = .ok (.aload_n 0, 1) := by decide +kernel
theorem dX8_init_14 : decode cX8_init 14 = .ok (.sipush 4968, 3) := by decide +kernel
theorem dX8_init_17 : decode cX8_init 17 = .ok (.newarray .int, 2) := by decide +kernel
theorem dX8_init_19 : decode cX8_init 19 = .ok (.putfield 13, 3) := by decide +kernel
theorem dX8_init_22 : decode cX8_init 22 = .ok (.aload_n 0, 1) := by decide +kernel
theorem dX8_init_23 : decode cX8_init 23 = .ok (.sipush 1656, 3) := by decide +kernel
theorem dX8_init_26 : decode cX8_init 26 = .ok (.newarray .int, 2) := by decide +kernel
theorem dX8_init_28 : decode cX8_init 28 = .ok (.putfield 16, 3) := by decide +kernel
theorem dX8_init_31 : decode cX8_init 31 = .ok (.aload_n 0, 1) := by decide +kernel
theorem dX8_init_32 : decode cX8_init 32 = .ok (.iconst 2, 1) := by decide +kernel
theorem dX8_init_33 : decode cX8_init 33 = .ok (.newarray .boolean, 2) := by decide +kernel
theorem dX8_init_35 : decode cX8_init 35 = .ok (.putfield 19, 3) := by decide +kernel
theorem dX8_init_38 : decode cX8_init 38 = .ok (.aload_n 0, 1) := by decide +kernel
theorem dX8_init_39 : decode cX8_init 39 = .ok (.bipush 60, 2) := by decide +kernel
theorem dX8_init_41 : decode cX8_init 41 = .ok (.newarray .int, 2) := by decide +kernel
theorem dX8_init_43 : decode cX8_init 43 = .ok (.putfield 23, 3) := by decide +kernel
theorem dX8_init_46 : decode cX8_init 46 = .ok (.aload_n 0, 1) := by decide +kernel
theorem dX8_init_47 : decode cX8_init 47 = .ok (.bipush 6, 2) := by decide +kernel
theorem dX8_init_49 : decode cX8_init 49 = .ok (.newarray .int, 2) := by decide +kernel
theorem dX8_init_51 : decode cX8_init 51 = .ok (.putfield 26, 3) := by decide +kernel
theorem dX8_init_54 : decode cX8_init 54 = .ok (.aload_n 0, 1) := by decide +kernel
theorem dX8_init_55 : decode cX8_init 55 = .ok (.getfield 7, 3) := by decide +kernel
theorem dX8_init_58 : decode cX8_init 58 = .ok (.iconst 0, 1) := by decide +kernel
theorem dX8_init_59 : decode cX8_init 59 = .ok (.bipush 100, 2) := by decide +kernel
theorem dX8_init_61 : decode cX8_init 61 = .ok (.iastore, 1) := by decide +kernel
theorem dX8_init_62 : decode cX8_init 62 = .ok (.aload_n 0, 1) := by decide +kernel
theorem dX8_init_63 : decode cX8_init 63 = .ok (.getfield 7, 3) := by decide +kernel
theorem dX8_init_66 : decode cX8_init 66 = .ok (.iconst 1, 1) := by decide +kernel
theorem dX8_init_67 : decode cX8_init 67 = .ok (.bipush 30, 2) := by decide +kernel
theorem dX8_init_69 : decode cX8_init 69 = .ok (.iastore, 1) := by decide +kernel
theorem dX8_init_70 : decode cX8_init 70 = .ok (.aload_n 0, 1) := by decide +kernel
theorem dX8_init_71 : decode cX8_init 71 = .ok (.getfield 7, 3) := by decide +kernel
theorem dX8_init_74 : decode cX8_init 74 = .ok (.iconst 2, 1) := by decide +kernel
theorem dX8_init_75 : decode cX8_init 75 = .ok (.iconst 2, 1) := by decide +kernel
theorem dX8_init_76 : decode cX8_init 76 = .ok (.iastore, 1) := by decide +kernel
theorem dX8_init_77 : decode cX8_init 77 = .ok (.aload_n 0, 1) := by decide +kernel
theorem dX8_init_78 : decode cX8_init 78 = .ok (.getfield 7, 3) := by decide +kernel
theorem dX8_init_81 : decode cX8_init 81 = .ok (.iconst 3, 1) := by decide +kernel
theorem dX8_init_82 : decode cX8_init 82 = .ok (.iconst 5, 1) := by decide +kernel
theorem dX8_init_83 : decode cX8_init 83 = .ok (.iastore, 1) := by decide +kernel
theorem dX8_init_84 : decode cX8_init 84 = .ok (.aload_n 0, 1) := by decide +kernel
theorem dX8_init_85 : decode cX8_init 85 = .ok (.getfield 7, 3) := by decide +kernel
theorem dX8_init_88 : decode cX8_init 88 = .ok (.iconst 4, 1) := by decide +kernel
theorem dX8_init_89 : decode cX8_init 89 = .ok (.iconst 5, 1) := by decide +kernel
theorem dX8_init_90 : decode cX8_init 90 = .ok (.iastore, 1) := by decide +kernel
theorem dX8_init_91 : decode cX8_init 91 = .ok (.aload_n 0, 1) := by decide +kernel
theorem dX8_init_92 : decode cX8_init 92 = .ok (.getfield 7, 3) := by decide +kernel
theorem dX8_init_95 : decode cX8_init 95 = .ok (.iconst 5, 1) := by decide +kernel
theorem dX8_init_96 : decode cX8_init 96 = .ok (.bipush 10, 2) := by decide +kernel
theorem dX8_init_98 : decode cX8_init 98 = .ok (.iastore, 1) := by decide +kernel
theorem dX8_init_99 : decode cX8_init 99 = .ok (.iconst 0, 1) := by decide +kernel
theorem dX8_init_100 : decode cX8_init 100 = .ok (.istore_n 1, 1) := by decide +kernel
theorem dX8_init_101 : decode cX8_init 101 = .ok (.iload_n 1, 1) := by decide +kernel
theorem dX8_init_102 : decode cX8_init 102 = .ok (.bipush 6, 2) := by decide +kernel
theorem dX8_init_104 : decode cX8_init 104 = .ok (.if_icmp .ge 21, 3) := by decide +kernel
theorem dX8_init_107 : decode cX8_init 107 = .ok (.aload_n 0, 1) := by decide +kernel
theorem dX8_init_108 : decode cX8_init 108 = .ok (.getfield 7, 3) := by decide +kernel
theorem dX8_init_111 : decode cX8_init 111 = .ok (.iload_n 1, 1) := by decide +kernel
theorem dX8_init_112 : decode cX8_init 112 = .ok (.iconst 0, 1) := by decide +kernel
theorem dX8_init_113 : decode cX8_init 113 = .ok (.invokestatic 29, 3) := by decide +kernel
theorem dX8_init_116 : decode cX8_init 116 = .ok (.bipush 50, 2) := by decide +kernel
theorem dX8_init_118 : decode cX8_init 118 = .ok (.iastore, 1) := by decide +kernel
theorem dX8_init_119 : decode cX8_init 119 = .ok (.iinc 1 1, 3) := by decide +kernel
theorem dX8_init_122 : decode cX8_init 122 = .ok (.goto (-21), 3) := by decide +kernel
theorem dX8_init_125 : decode cX8_init 125 = .ok (.return_, 1) := by decide +kernel
theorem dX8_in_0 : decode cX8_in 0 = .ok (.iload_n 0, 1) := by decide +kernel
theorem dX8_in_1 : decode cX8_in 1 = .ok (.iload_n 1, 1) := by decide +kernel
theorem dX8_in_2 : decode cX8_in 2 = .ok (.if_icmp .lt 12, 3) := by decide +kernel
theorem dX8_in_5 : decode cX8_in 5 = .ok (.iload_n 0, 1) := by decide +kernel
theorem dX8_in_6 : decode cX8_in 6 = .ok (.iload_n 2, 1) := by decide +kernel
theorem dX8_in_7 : decode cX8_in 7 = .ok (.if_icmp .gt 7, 3) := by decide +kernel
theorem dX8_in_10 : decode cX8_in 10 = .ok (.iconst 1, 1) := by decide +kernel
theorem dX8_in_11 : decode cX8_in 11 = .ok (.goto 4, 3) := by decide +kernel
theorem dX8_in_14 : decode cX8_in 14 = .ok (.iconst 0, 1) := by decide +kernel
theorem dX8_in_15 : decode cX8_in 15 = .ok (.ireturn, 1) := by decide +kernel
theorem dX8_isSolver_0 : decode cX8_isSolver 0 = .ok (.iload_n 0, 1) := by decide +kernel
theorem dX8_isSolver_1 : decode cX8_isSolver 1 = .ok (.iconst 0, 1) := by decide +kernel
theorem dX8_isSolver_2 : decode cX8_isSolver 2 = .ok (.iconst 5, 1) := by decide +kernel
theorem dX8_isSolver_3 : decode cX8_isSolver 3 = .ok (.invokestatic 33, 3) := by decide +kernel
theorem dX8_isSolver_6 : decode cX8_isSolver 6 = .ok (.ireturn, 1) := by decide +kernel
theorem dX8_isWord_0 : decode cX8_isWord 0 = .ok (.iload_n 1, 1) := by decide +kernel
theorem dX8_isWord_1 : decode cX8_isWord 1 = .ok (.iconst 0, 1) := by decide +kernel
theorem dX8_isWord_2 : decode cX8_isWord 2 = .ok (.aload_n 0, 1) := by decide +kernel
theorem dX8_isWord_3 : decode cX8_isWord 3 = .ok (.getfield 7, 3) := by decide +kernel
theorem dX8_isWord_6 : decode cX8_isWord 6 = .ok (.bipush 6, 2) := by decide +kernel
theorem dX8_isWord_8 : decode cX8_isWord 8 = .ok (.iaload, 1) := by decide +kernel
theorem dX8_isWord_9 : decode cX8_isWord 9 = .ok (.iconst 1, 1) := by decide +kernel
theorem dX8_isWord_10 : decode cX8_isWord 10 = .ok (.isub, 1) := by decide +kernel
theorem dX8_isWord_11 : decode cX8_isWord 11 = .ok (.invokestatic 33, 3) := by decide +kernel
theorem dX8_isWord_14 : decode cX8_isWord 14 = .ok (.ireturn, 1) := by decide +kernel
theorem dX8_ofSolver_0 : decode cX8_ofSolver 0 = .ok (.bipush 12, 2) := by decide +kernel
theorem dX8_ofSolver_2 : decode cX8_ofSolver 2 = .ok (.iconst 4, 1) := by decide +kernel
theorem dX8_ofSolver_3 : decode cX8_ofSolver 3 = .ok (.iload_n 0, 1) := by decide +kernel
theorem dX8_ofSolver_4 : decode cX8_ofSolver 4 = .ok (.imul, 1) := by decide +kernel
theorem dX8_ofSolver_5 : decode cX8_ofSolver 5 = .ok (.iadd, 1) := by decide +kernel
theorem dX8_ofSolver_6 : decode cX8_ofSolver 6 = .ok (.iload_n 1, 1) := by decide +kernel
theorem dX8_ofSolver_7 : decode cX8_ofSolver 7 = .ok (.iadd, 1) := by decide +kernel
theorem dX8_ofSolver_8 : decode cX8_ofSolver 8 = .ok (.ireturn, 1) := by decide +kernel
theorem dX8_of_0 : decode cX8_of 0 = .ok (.bipush 36, 2) := by decide +kernel
theorem dX8_of_2 : decode cX8_of 2 = .ok (.bipush 6, 2) := by decide +kernel
theorem dX8_of_4 : decode cX8_of 4 = .ok (.iload_n 0, 1) := by decide +kernel
theorem dX8_of_5 : decode cX8_of 5 = .ok (.imul, 1) := by decide +kernel
theorem dX8_of_6 : decode cX8_of 6 = .ok (.iadd, 1) := by decide +kernel
theorem dX8_of_7 : decode cX8_of 7 = .ok (.iload_n 1, 1) := by decide +kernel
theorem dX8_of_8 : decode cX8_of 8 = .ok (.iadd, 1) := by decide +kernel
theorem dX8_of_9 : decode cX8_of 9 = .ok (.ireturn, 1) := by decide +kernel
theorem dX8_at_0 : decode cX8_at 0 = .ok (.bipush 108, 2) := by decide +kernel
theorem dX8_at_2 : decode cX8_at 2 = .ok (.iconst 4, 1) := by decide +kernel
theorem dX8_at_3 : decode cX8_at 3 = .ok (.iload_n 0, 1) := by decide +kernel
theorem dX8_at_4 : decode cX8_at 4 = .ok (.imul, 1) := by decide +kernel
theorem dX8_at_5 : decode cX8_at 5 = .ok (.iadd, 1) := by decide +kernel
theorem dX8_at_6 : decode cX8_at 6 = .ok (.iload_n 1, 1) := by decide +kernel
theorem dX8_at_7 : decode cX8_at 7 = .ok (.iadd, 1) := by decide +kernel
theorem dX8_at_8 : decode cX8_at 8 = .ok (.ireturn, 1) := by decide +kernel
theorem dX8_isKind_0 : decode cX8_isKind 0 = .ok (.aload_n 0, 1) := by decide +kernel
theorem dX8_isKind_1 : decode cX8_isKind 1 = .ok (.getfield 7, 3) := by decide +kernel
theorem dX8_isKind_4 : decode cX8_isKind 4 = .ok (.iload_n 1, 1) := by decide +kernel
theorem dX8_isKind_5 : decode cX8_isKind 5 = .ok (.iconst 0, 1) := by decide +kernel
theorem dX8_isKind_6 : decode cX8_isKind 6 = .ok (.invokestatic 37, 3) := by decide +kernel
theorem dX8_isKind_9 : decode cX8_isKind 9 = .ok (.iaload, 1) := by decide +kernel
theorem dX8_isKind_10 : decode cX8_isKind 10 = .ok (.iload_n 2, 1) := by decide +kernel
theorem dX8_isKind_11 : decode cX8_isKind 11 = .ok (.if_icmp .ne 7, 3) := by decide +kernel
theorem dX8_isKind_14 : decode cX8_isKind 14 = .ok (.iconst 1, 1) := by decide +kernel
theorem dX8_isKind_15 : decode cX8_isKind 15 = .ok (.goto 4, 3) := by decide +kernel
theorem dX8_isKind_18 : decode cX8_isKind 18 = .ok (.iconst 0, 1) := by decide +kernel
theorem dX8_isKind_19 : decode cX8_isKind 19 = .ok (.ireturn, 1) := by decide +kernel
theorem dX8_record_0 : decode cX8_record 0 = .ok (.aload_n 0, 1) := by decide +kernel
theorem dX8_record_1 : decode cX8_record 1 = .ok (.getfield 40, 3) := by decide +kernel
theorem dX8_record_4 : decode cX8_record 4 = .ok (.bipush 6, 2) := by decide +kernel
theorem dX8_record_6 : decode cX8_record 6 = .ok (.if_icmp .ne 44, 3) := by decide +kernel
theorem dX8_record_9 : decode cX8_record 9 = .ok (.iconst 0, 1) := by decide +kernel
theorem dX8_record_10 : decode cX8_record 10 = .ok (.istore_n 1, 1) := by decide +kernel
theorem dX8_record_11 : decode cX8_record 11 = .ok (.iload_n 1, 1) := by decide +kernel
theorem dX8_record_12 : decode cX8_record 12 = .ok (.sipush 4140, 3) := by decide +kernel
theorem dX8_record_15 : decode cX8_record 15 = .ok (.if_icmp .ge 25, 3) := by decide +kernel
theorem dX8_record_18 : decode cX8_record 18 = .ok (.aload_n 0, 1) := by decide +kernel
theorem dX8_record_19 : decode cX8_record 19 = .ok (.getfield 13, 3) := by decide +kernel
theorem dX8_record_22 : decode cX8_record 22 = .ok (.iload_n 1, 1) := by decide +kernel
theorem dX8_record_23 : decode cX8_record 23 = .ok (.aload_n 0, 1) := by decide +kernel
theorem dX8_record_24 : decode cX8_record 24 = .ok (.getfield 13, 3) := by decide +kernel
theorem dX8_record_27 : decode cX8_record 27 = .ok (.iload_n 1, 1) := by decide +kernel
theorem dX8_record_28 : decode cX8_record 28 = .ok (.sipush 828, 3) := by decide +kernel
theorem dX8_record_31 : decode cX8_record 31 = .ok (.iadd, 1) := by decide +kernel
theorem dX8_record_32 : decode cX8_record 32 = .ok (.iaload, 1) := by decide +kernel
theorem dX8_record_33 : decode cX8_record 33 = .ok (.iastore, 1) := by decide +kernel
theorem dX8_record_34 : decode cX8_record 34 = .ok (.iinc 1 1, 3) := by decide +kernel
theorem dX8_record_37 : decode cX8_record 37 = .ok (.goto (-26), 3) := by decide +kernel
theorem dX8_record_40 : decode cX8_record 40 = .ok (.aload_n 0, 1) := by decide +kernel
theorem dX8_record_41 : decode cX8_record 41 = .ok (.dup, 1) := by decide +kernel
theorem dX8_record_42 : decode cX8_record 42 = .ok (.getfield 40, 3) := by decide +kernel
theorem dX8_record_45 : decode cX8_record 45 = .ok (.iconst 1, 1) := by decide +kernel
theorem dX8_record_46 : decode cX8_record 46 = .ok (.isub, 1) := by decide +kernel
theorem dX8_record_47 : decode cX8_record 47 = .ok (.putfield 40, 3) := by decide +kernel
theorem dX8_record_50 : decode cX8_record 50 = .ok (.iconst 0, 1) := by decide +kernel
theorem dX8_record_51 : decode cX8_record 51 = .ok (.istore_n 1, 1) := by decide +kernel
theorem dX8_record_52 : decode cX8_record 52 = .ok (.iload_n 1, 1) := by decide +kernel
theorem dX8_record_53 : decode cX8_record 53 = .ok (.sipush 828, 3) := by decide +kernel
theorem dX8_record_56 : decode cX8_record 56 = .ok (.if_icmp .ge 30, 3) := by decide +kernel
theorem dX8_record_59 : decode cX8_record 59 = .ok (.aload_n 0, 1) := by decide +kernel
theorem dX8_record_60 : decode cX8_record 60 = .ok (.getfield 13, 3) := by decide +kernel
theorem dX8_record_63 : decode cX8_record 63 = .ok (.sipush 828, 3) := by decide +kernel
theorem dX8_record_66 : decode cX8_record 66 = .ok (.aload_n 0, 1) := by decide +kernel
theorem dX8_record_67 : decode cX8_record 67 = .ok (.getfield 40, 3) := by decide +kernel
theorem dX8_record_70 : decode cX8_record 70 = .ok (.imul, 1) := by decide +kernel
theorem dX8_record_71 : decode cX8_record 71 = .ok (.iload_n 1, 1) := by decide +kernel
theorem dX8_record_72 : decode cX8_record 72 = .ok (.iadd, 1) := by decide +kernel
theorem dX8_record_73 : decode cX8_record 73 = .ok (.aload_n 0, 1) := by decide +kernel
theorem dX8_record_74 : decode cX8_record 74 = .ok (.getfield 7, 3) := by decide +kernel
theorem dX8_record_77 : decode cX8_record 77 = .ok (.iload_n 1, 1) := by decide +kernel
theorem dX8_record_78 : decode cX8_record 78 = .ok (.iaload, 1) := by decide +kernel
theorem dX8_record_79 : decode cX8_record 79 = .ok (.iastore, 1) := by decide +kernel
theorem dX8_record_80 : decode cX8_record 80 = .ok (.iinc 1 1, 3) := by decide +kernel
theorem dX8_record_83 : decode cX8_record 83 = .ok (.goto (-31), 3) := by decide +kernel
theorem dX8_record_86 : decode cX8_record 86 = .ok (.aload_n 0, 1) := by decide +kernel
theorem dX8_record_87 : decode cX8_record 87 = .ok (.dup, 1) := by decide +kernel
theorem dX8_record_88 : decode cX8_record 88 = .ok (.getfield 40, 3) := by decide +kernel
theorem dX8_record_91 : decode cX8_record 91 = .ok (.iconst 1, 1) := by decide +kernel
theorem dX8_record_92 : decode cX8_record 92 = .ok (.iadd, 1) := by decide +kernel
theorem dX8_record_93 : decode cX8_record 93 = .ok (.putfield 40, 3) := by decide +kernel
theorem dX8_record_96 : decode cX8_record 96 = .ok (.return_, 1) := by decide +kernel
theorem dX8_lettersOf_0 : decode cX8_lettersOf 0 = .ok (.iconst 0, 1) := by decide +kernel
theorem dX8_lettersOf_1 : decode cX8_lettersOf 1 = .ok (.istore_n 1, 1) := by decide +kernel
theorem dX8_lettersOf_2 : decode cX8_lettersOf 2 = .ok (.iload_n 0, 1) := by decide +kernel
theorem dX8_lettersOf_3 : decode cX8_lettersOf 3 = .ok (.istore_n 2, 1) := by decide +kernel
theorem dX8_lettersOf_4 : decode cX8_lettersOf 4 = .ok (.iload_n 2, 1) := by decide +kernel
theorem dX8_lettersOf_5 : decode cX8_lettersOf 5 = .ok (.ifCond .le 14, 3) := by decide +kernel
theorem dX8_lettersOf_8 : decode cX8_lettersOf 8 = .ok (.iinc 1 1, 3) := by decide +kernel
theorem dX8_lettersOf_11 : decode cX8_lettersOf 11 = .ok (.iload_n 2, 1) := by decide +kernel
theorem dX8_lettersOf_12 : decode cX8_lettersOf 12 = .ok (.bipush 27, 2) := by decide +kernel
theorem dX8_lettersOf_14 : decode cX8_lettersOf 14 = .ok (.idiv, 1) := by decide +kernel
theorem dX8_lettersOf_15 : decode cX8_lettersOf 15 = .ok (.istore_n 2, 1) := by decide +kernel
theorem dX8_lettersOf_16 : decode cX8_lettersOf 16 = .ok (.goto (-12), 3) := by decide +kernel
theorem dX8_lettersOf_19 : decode cX8_lettersOf 19 = .ok (.iload_n 1, 1) := by decide +kernel
theorem dX8_lettersOf_20 : decode cX8_lettersOf 20 = .ok (.ireturn, 1) := by decide +kernel
theorem dX8_letterOf_0 : decode cX8_letterOf 0 = .ok (.iload_n 0, 1) := by decide +kernel
theorem dX8_letterOf_1 : decode cX8_letterOf 1 = .ok (.istore_n 2, 1) := by decide +kernel
theorem dX8_letterOf_2 : decode cX8_letterOf 2 = .ok (.iload_n 0, 1) := by decide +kernel
theorem dX8_letterOf_3 : decode cX8_letterOf 3 = .ok (.invokestatic 44, 3) := by decide +kernel
theorem dX8_letterOf_6 : decode cX8_letterOf 6 = .ok (.iconst 1, 1) := by decide +kernel
theorem dX8_letterOf_7 : decode cX8_letterOf 7 = .ok (.isub, 1) := by decide +kernel
theorem dX8_letterOf_8 : decode cX8_letterOf 8 = .ok (.istore_n 3, 1) := by decide +kernel
theorem dX8_letterOf_9 : decode cX8_letterOf 9 = .ok (.iload_n 3, 1) := by decide +kernel
theorem dX8_letterOf_10 : decode cX8_letterOf 10 = .ok (.iload_n 1, 1) := by decide +kernel
theorem dX8_letterOf_11 : decode cX8_letterOf 11 = .ok (.if_icmp .le 14, 3) := by decide +kernel
theorem dX8_letterOf_14 : decode cX8_letterOf 14 = .ok (.iload_n 2, 1) := by decide +kernel
theorem dX8_letterOf_15 : decode cX8_letterOf 15 = .ok (.bipush 27, 2) := by decide +kernel
theorem dX8_letterOf_17 : decode cX8_letterOf 17 = .ok (.idiv, 1) := by decide +kernel
theorem dX8_letterOf_18 : decode cX8_letterOf 18 = .ok (.istore_n 2, 1) := by decide +kernel
theorem dX8_letterOf_19 : decode cX8_letterOf 19 = .ok (.iinc 3 (-1), 3) := by decide +kernel
theorem dX8_letterOf_22 : decode cX8_letterOf 22 = .ok (.goto (-13), 3) := by decide +kernel
theorem dX8_letterOf_25 : decode cX8_letterOf 25 = .ok (.iload_n 1, 1) := by decide +kernel
theorem dX8_letterOf_26 : decode cX8_letterOf 26 = .ok (.iconst 0, 1) := by decide +kernel
theorem dX8_letterOf_27 : decode cX8_letterOf 27 = .ok (.iload_n 0, 1) := by decide +kernel
theorem dX8_letterOf_28 : decode cX8_letterOf 28 = .ok (.invokestatic 44, 3) := by decide +kernel
theorem dX8_letterOf_31 : decode cX8_letterOf 31 = .ok (.iconst 1, 1) := by decide +kernel
theorem dX8_letterOf_32 : decode cX8_letterOf 32 = .ok (.isub, 1) := by decide +kernel
theorem dX8_letterOf_33 : decode cX8_letterOf 33 = .ok (.invokestatic 33, 3) := by decide +kernel
theorem dX8_letterOf_36 : decode cX8_letterOf 36 = .ok (.ifCond .eq 13, 3) := by decide +kernel
theorem dX8_letterOf_39 : decode cX8_letterOf 39 = .ok (.bipush 96, 2) := by decide +kernel
theorem dX8_letterOf_41 : decode cX8_letterOf 41 = .ok (.iload_n 2, 1) := by decide +kernel
theorem dX8_letterOf_42 : decode cX8_letterOf 42 = .ok (.bipush 27, 2) := by decide +kernel
theorem dX8_letterOf_44 : decode cX8_letterOf 44 = .ok (.irem, 1) := by decide +kernel
theorem dX8_letterOf_45 : decode cX8_letterOf 45 = .ok (.iadd, 1) := by decide +kernel
theorem dX8_letterOf_46 : decode cX8_letterOf 46 = .ok (.goto 5, 3) := by decide +kernel
theorem dX8_letterOf_49 : decode cX8_letterOf 49 = .ok (.bipush (-6), 2) := by decide +kernel
theorem dX8_letterOf_51 : decode cX8_letterOf 51 = .ok (.ireturn, 1) := by decide +kernel
theorem dX8_answersTo_0 : decode cX8_answersTo 0 = .ok (.iconst 0, 1) := by decide +kernel
theorem dX8_answersTo_1 : decode cX8_answersTo 1 = .ok (.istore_n 2, 1) := by decide +kernel
theorem dX8_answersTo_2 : decode cX8_answersTo 2 = .ok (.iconst 0, 1) := by decide +kernel
theorem dX8_answersTo_3 : decode cX8_answersTo 3 = .ok (.istore_n 3, 1) := by decide +kernel
theorem dX8_answersTo_4 : decode cX8_answersTo 4 = .ok (.iload_n 3, 1) := by decide +kernel
theorem dX8_answersTo_5 : decode cX8_answersTo 5 = .ok (.aload_n 0, 1) := by decide +kernel
theorem dX8_answersTo_6 : decode cX8_answersTo 6 = .ok (.getfield 7, 3) := by decide +kernel
theorem dX8_answersTo_9 : decode cX8_answersTo 9 = .ok (.bipush 11, 2) := by decide +kernel
theorem dX8_answersTo_11 : decode cX8_answersTo 11 = .ok (.iaload, 1) := by decide +kernel
theorem dX8_answersTo_12 : decode cX8_answersTo 12 = .ok (.if_icmp .ge 31, 3) := by decide +kernel
theorem dX8_answersTo_15 : decode cX8_answersTo 15 = .ok (.iload_n 2, 1) := by decide +kernel
theorem dX8_answersTo_16 : decode cX8_answersTo 16 = .ok (.aload_n 0, 1) := by decide +kernel
theorem dX8_answersTo_17 : decode cX8_answersTo 17 = .ok (.getfield 7, 3) := by decide +kernel
theorem dX8_answersTo_20 : decode cX8_answersTo 20 = .ok (.iload_n 3, 1) := by decide +kernel
theorem dX8_answersTo_21 : decode cX8_answersTo 21 = .ok (.iconst 0, 1) := by decide +kernel
theorem dX8_answersTo_22 : decode cX8_answersTo 22 = .ok (.invokestatic 48, 3) := by decide +kernel
theorem dX8_answersTo_25 : decode cX8_answersTo 25 = .ok (.iaload, 1) := by decide +kernel
theorem dX8_answersTo_26 : decode cX8_answersTo 26 = .ok (.iload_n 1, 1) := by decide +kernel
theorem dX8_answersTo_27 : decode cX8_answersTo 27 = .ok (.if_icmp .ne 7, 3) := by decide +kernel
theorem dX8_answersTo_30 : decode cX8_answersTo 30 = .ok (.iconst 1, 1) := by decide +kernel
theorem dX8_answersTo_31 : decode cX8_answersTo 31 = .ok (.goto 4, 3) := by decide +kernel
theorem dX8_answersTo_34 : decode cX8_answersTo 34 = .ok (.iconst 0, 1) := by decide +kernel
theorem dX8_answersTo_35 : decode cX8_answersTo 35 = .ok (.iadd, 1) := by decide +kernel
theorem dX8_answersTo_36 : decode cX8_answersTo 36 = .ok (.istore_n 2, 1) := by decide +kernel
theorem dX8_answersTo_37 : decode cX8_answersTo 37 = .ok (.iinc 3 1, 3) := by decide +kernel
theorem dX8_answersTo_40 : decode cX8_answersTo 40 = .ok (.goto (-36), 3) := by decide +kernel
theorem dX8_answersTo_43 : decode cX8_answersTo 43 = .ok (.iload_n 2, 1) := by decide +kernel
theorem dX8_answersTo_44 : decode cX8_answersTo 44 = .ok (.ireturn, 1) := by decide +kernel
theorem dX8_entryOf_0 : decode cX8_entryOf 0 = .ok (.iload_n 2, 1) := by decide +kernel
theorem dX8_entryOf_1 : decode cX8_entryOf 1 = .ok (.istore_n 3, 1) := by decide +kernel
theorem dX8_entryOf_2 : decode cX8_entryOf 2 = .ok (.iconst 0, 1) := by decide +kernel
theorem dX8_entryOf_3 : decode cX8_entryOf 3 = .ok (.istore 4, 2) := by decide +kernel
theorem dX8_entryOf_5 : decode cX8_entryOf 5 = .ok (.iload 4, 2) := by decide +kernel
theorem dX8_entryOf_7 : decode cX8_entryOf 7 = .ok (.aload_n 0, 1) := by decide +kernel
theorem dX8_entryOf_8 : decode cX8_entryOf 8 = .ok (.getfield 7, 3) := by decide +kernel
theorem dX8_entryOf_11 : decode cX8_entryOf 11 = .ok (.bipush 11, 2) := by decide +kernel
theorem dX8_entryOf_13 : decode cX8_entryOf 13 = .ok (.iaload, 1) := by decide +kernel
theorem dX8_entryOf_14 : decode cX8_entryOf 14 = .ok (.if_icmp .ge 34, 3) := by decide +kernel
theorem dX8_entryOf_17 : decode cX8_entryOf 17 = .ok (.aload_n 0, 1) := by decide +kernel
theorem dX8_entryOf_18 : decode cX8_entryOf 18 = .ok (.getfield 7, 3) := by decide +kernel
theorem dX8_entryOf_21 : decode cX8_entryOf 21 = .ok (.iload 4, 2) := by decide +kernel
theorem dX8_entryOf_23 : decode cX8_entryOf 23 = .ok (.iconst 0, 1) := by decide +kernel
theorem dX8_entryOf_24 : decode cX8_entryOf 24 = .ok (.invokestatic 48, 3) := by decide +kernel
theorem dX8_entryOf_27 : decode cX8_entryOf 27 = .ok (.iaload, 1) := by decide +kernel
theorem dX8_entryOf_28 : decode cX8_entryOf 28 = .ok (.iload_n 1, 1) := by decide +kernel
theorem dX8_entryOf_29 : decode cX8_entryOf 29 = .ok (.if_icmp .ne 13, 3) := by decide +kernel
theorem dX8_entryOf_32 : decode cX8_entryOf 32 = .ok (.iload_n 3, 1) := by decide +kernel
theorem dX8_entryOf_33 : decode cX8_entryOf 33 = .ok (.ifCond .ne 6, 3) := by decide +kernel
theorem dX8_entryOf_36 : decode cX8_entryOf 36 = .ok (.iload 4, 2) := by decide +kernel
theorem dX8_entryOf_38 : decode cX8_entryOf 38 = .ok (.ireturn, 1) := by decide +kernel
theorem dX8_entryOf_39 : decode cX8_entryOf 39 = .ok (.iinc 3 (-1), 3) := by decide +kernel
theorem dX8_entryOf_42 : decode cX8_entryOf 42 = .ok (.iinc 4 1, 3) := by decide +kernel
theorem dX8_entryOf_45 : decode cX8_entryOf 45 = .ok (.goto (-40), 3) := by decide +kernel
theorem dX8_entryOf_48 : decode cX8_entryOf 48 = .ok (.bipush (-6), 2) := by decide +kernel
theorem dX8_entryOf_50 : decode cX8_entryOf 50 = .ok (.ireturn, 1) := by decide +kernel
theorem dX8_leading_0 : decode cX8_leading 0 = .ok (.bipush (-6), 2) := by decide +kernel
theorem dX8_leading_2 : decode cX8_leading 2 = .ok (.istore_n 2, 1) := by decide +kernel
theorem dX8_leading_3 : decode cX8_leading 3 = .ok (.iconst 0, 1) := by decide +kernel
theorem dX8_leading_4 : decode cX8_leading 4 = .ok (.istore_n 3, 1) := by decide +kernel
theorem dX8_leading_5 : decode cX8_leading 5 = .ok (.iload_n 3, 1) := by decide +kernel
theorem dX8_leading_6 : decode cX8_leading 6 = .ok (.aload_n 0, 1) := by decide +kernel
theorem dX8_leading_7 : decode cX8_leading 7 = .ok (.getfield 7, 3) := by decide +kernel
theorem dX8_leading_10 : decode cX8_leading 10 = .ok (.bipush 11, 2) := by decide +kernel
theorem dX8_leading_12 : decode cX8_leading 12 = .ok (.iaload, 1) := by decide +kernel
theorem dX8_leading_13 : decode cX8_leading 13 = .ok (.if_icmp .ge 70, 3) := by decide +kernel
theorem dX8_leading_16 : decode cX8_leading 16 = .ok (.aload_n 0, 1) := by decide +kernel
theorem dX8_leading_17 : decode cX8_leading 17 = .ok (.getfield 7, 3) := by decide +kernel
theorem dX8_leading_20 : decode cX8_leading 20 = .ok (.iload_n 3, 1) := by decide +kernel
theorem dX8_leading_21 : decode cX8_leading 21 = .ok (.iconst 0, 1) := by decide +kernel
theorem dX8_leading_22 : decode cX8_leading 22 = .ok (.invokestatic 48, 3) := by decide +kernel
theorem dX8_leading_25 : decode cX8_leading 25 = .ok (.iaload, 1) := by decide +kernel
theorem dX8_leading_26 : decode cX8_leading 26 = .ok (.iload_n 1, 1) := by decide +kernel
theorem dX8_leading_27 : decode cX8_leading 27 = .ok (.if_icmp .ne 36, 3) := by decide +kernel
theorem dX8_leading_30 : decode cX8_leading 30 = .ok (.iload_n 2, 1) := by decide +kernel
theorem dX8_leading_31 : decode cX8_leading 31 = .ok (.bipush (-6), 2) := by decide +kernel
theorem dX8_leading_33 : decode cX8_leading 33 = .ok (.if_icmp .eq 26, 3) := by decide +kernel
theorem dX8_leading_36 : decode cX8_leading 36 = .ok (.aload_n 0, 1) := by decide +kernel
theorem dX8_leading_37 : decode cX8_leading 37 = .ok (.getfield 7, 3) := by decide +kernel
theorem dX8_leading_40 : decode cX8_leading 40 = .ok (.iload_n 3, 1) := by decide +kernel
theorem dX8_leading_41 : decode cX8_leading 41 = .ok (.iconst 3, 1) := by decide +kernel
theorem dX8_leading_42 : decode cX8_leading 42 = .ok (.invokestatic 48, 3) := by decide +kernel
theorem dX8_leading_45 : decode cX8_leading 45 = .ok (.iaload, 1) := by decide +kernel
theorem dX8_leading_46 : decode cX8_leading 46 = .ok (.aload_n 0, 1) := by decide +kernel
theorem dX8_leading_47 : decode cX8_leading 47 = .ok (.getfield 7, 3) := by decide +kernel
theorem dX8_leading_50 : decode cX8_leading 50 = .ok (.iload_n 2, 1) := by decide +kernel
theorem dX8_leading_51 : decode cX8_leading 51 = .ok (.iconst 3, 1) := by decide +kernel
theorem dX8_leading_52 : decode cX8_leading 52 = .ok (.invokestatic 48, 3) := by decide +kernel
theorem dX8_leading_55 : decode cX8_leading 55 = .ok (.iaload, 1) := by decide +kernel
theorem dX8_leading_56 : decode cX8_leading 56 = .ok (.if_icmp .le 7, 3) := by decide +kernel
theorem dX8_leading_59 : decode cX8_leading 59 = .ok (.iconst 1, 1) := by decide +kernel
theorem dX8_leading_60 : decode cX8_leading 60 = .ok (.goto 4, 3) := by decide +kernel
theorem dX8_leading_63 : decode cX8_leading 63 = .ok (.iconst 0, 1) := by decide +kernel
theorem dX8_leading_64 : decode cX8_leading 64 = .ok (.istore 4, 2) := by decide +kernel
theorem dX8_leading_66 : decode cX8_leading 66 = .ok (.iload 4, 2) := by decide +kernel
theorem dX8_leading_68 : decode cX8_leading 68 = .ok (.ifCond .eq 7, 3) := by decide +kernel
theorem dX8_leading_71 : decode cX8_leading 71 = .ok (.iload_n 3, 1) := by decide +kernel
theorem dX8_leading_72 : decode cX8_leading 72 = .ok (.goto 4, 3) := by decide +kernel
theorem dX8_leading_75 : decode cX8_leading 75 = .ok (.iload_n 2, 1) := by decide +kernel
theorem dX8_leading_76 : decode cX8_leading 76 = .ok (.istore_n 2, 1) := by decide +kernel
theorem dX8_leading_77 : decode cX8_leading 77 = .ok (.iinc 3 1, 3) := by decide +kernel
theorem dX8_leading_80 : decode cX8_leading 80 = .ok (.goto (-75), 3) := by decide +kernel
theorem dX8_leading_83 : decode cX8_leading 83 = .ok (.iload_n 2, 1) := by decide +kernel
theorem dX8_leading_84 : decode cX8_leading 84 = .ok (.ireturn, 1) := by decide +kernel
theorem dX8_weightOf_0 : decode cX8_weightOf 0 = .ok (.aload_n 0, 1) := by decide +kernel
theorem dX8_weightOf_1 : decode cX8_weightOf 1 = .ok (.iload_n 1, 1) := by decide +kernel
theorem dX8_weightOf_2 : decode cX8_weightOf 2 = .ok (.invokevirtual 51, 3) := by decide +kernel
theorem dX8_weightOf_5 : decode cX8_weightOf 5 = .ok (.istore_n 2, 1) := by decide +kernel
theorem dX8_weightOf_6 : decode cX8_weightOf 6 = .ok (.iload_n 2, 1) := by decide +kernel
theorem dX8_weightOf_7 : decode cX8_weightOf 7 = .ok (.bipush (-6), 2) := by decide +kernel
theorem dX8_weightOf_9 : decode cX8_weightOf 9 = .ok (.if_icmp .ne 7, 3) := by decide +kernel
theorem dX8_weightOf_12 : decode cX8_weightOf 12 = .ok (.iconst 0, 1) := by decide +kernel
theorem dX8_weightOf_13 : decode cX8_weightOf 13 = .ok (.goto 13, 3) := by decide +kernel
theorem dX8_weightOf_16 : decode cX8_weightOf 16 = .ok (.aload_n 0, 1) := by decide +kernel
theorem dX8_weightOf_17 : decode cX8_weightOf 17 = .ok (.getfield 7, 3) := by decide +kernel
theorem dX8_weightOf_20 : decode cX8_weightOf 20 = .ok (.iload_n 2, 1) := by decide +kernel
theorem dX8_weightOf_21 : decode cX8_weightOf 21 = .ok (.iconst 3, 1) := by decide +kernel
theorem dX8_weightOf_22 : decode cX8_weightOf 22 = .ok (.invokestatic 48, 3) := by decide +kernel
theorem dX8_weightOf_25 : decode cX8_weightOf 25 = .ok (.iaload, 1) := by decide +kernel
theorem dX8_weightOf_26 : decode cX8_weightOf 26 = .ok (.ireturn, 1) := by decide +kernel
theorem dX8_leadOf_0 : decode cX8_leadOf 0 = .ok (.aload_n 0, 1) := by decide +kernel
theorem dX8_leadOf_1 : decode cX8_leadOf 1 = .ok (.iload_n 1, 1) := by decide +kernel
theorem dX8_leadOf_2 : decode cX8_leadOf 2 = .ok (.invokevirtual 51, 3) := by decide +kernel
theorem dX8_leadOf_5 : decode cX8_leadOf 5 = .ok (.istore_n 2, 1) := by decide +kernel
theorem dX8_leadOf_6 : decode cX8_leadOf 6 = .ok (.iconst 0, 1) := by decide +kernel
theorem dX8_leadOf_7 : decode cX8_leadOf 7 = .ok (.istore_n 3, 1) := by decide +kernel
theorem dX8_leadOf_8 : decode cX8_leadOf 8 = .ok (.iconst 0, 1) := by decide +kernel
theorem dX8_leadOf_9 : decode cX8_leadOf 9 = .ok (.istore 4, 2) := by decide +kernel
theorem dX8_leadOf_11 : decode cX8_leadOf 11 = .ok (.iload 4, 2) := by decide +kernel
theorem dX8_leadOf_13 : decode cX8_leadOf 13 = .ok (.aload_n 0, 1) := by decide +kernel
theorem dX8_leadOf_14 : decode cX8_leadOf 14 = .ok (.getfield 7, 3) := by decide +kernel
theorem dX8_leadOf_17 : decode cX8_leadOf 17 = .ok (.bipush 11, 2) := by decide +kernel
theorem dX8_leadOf_19 : decode cX8_leadOf 19 = .ok (.iaload, 1) := by decide +kernel
theorem dX8_leadOf_20 : decode cX8_leadOf 20 = .ok (.if_icmp .ge 61, 3) := by decide +kernel
theorem dX8_leadOf_23 : decode cX8_leadOf 23 = .ok (.aload_n 0, 1) := by decide +kernel
theorem dX8_leadOf_24 : decode cX8_leadOf 24 = .ok (.getfield 7, 3) := by decide +kernel
theorem dX8_leadOf_27 : decode cX8_leadOf 27 = .ok (.iload 4, 2) := by decide +kernel
theorem dX8_leadOf_29 : decode cX8_leadOf 29 = .ok (.iconst 0, 1) := by decide +kernel
theorem dX8_leadOf_30 : decode cX8_leadOf 30 = .ok (.invokestatic 48, 3) := by decide +kernel
theorem dX8_leadOf_33 : decode cX8_leadOf 33 = .ok (.iaload, 1) := by decide +kernel
theorem dX8_leadOf_34 : decode cX8_leadOf 34 = .ok (.iload_n 1, 1) := by decide +kernel
theorem dX8_leadOf_35 : decode cX8_leadOf 35 = .ok (.if_icmp .ne 38, 3) := by decide +kernel
theorem dX8_leadOf_38 : decode cX8_leadOf 38 = .ok (.iload 4, 2) := by decide +kernel
theorem dX8_leadOf_40 : decode cX8_leadOf 40 = .ok (.iload_n 2, 1) := by decide +kernel
theorem dX8_leadOf_41 : decode cX8_leadOf 41 = .ok (.if_icmp .eq 32, 3) := by decide +kernel
theorem dX8_leadOf_44 : decode cX8_leadOf 44 = .ok (.aload_n 0, 1) := by decide +kernel
theorem dX8_leadOf_45 : decode cX8_leadOf 45 = .ok (.getfield 7, 3) := by decide +kernel
theorem dX8_leadOf_48 : decode cX8_leadOf 48 = .ok (.iload 4, 2) := by decide +kernel
theorem dX8_leadOf_50 : decode cX8_leadOf 50 = .ok (.iconst 3, 1) := by decide +kernel
theorem dX8_leadOf_51 : decode cX8_leadOf 51 = .ok (.invokestatic 48, 3) := by decide +kernel
theorem dX8_leadOf_54 : decode cX8_leadOf 54 = .ok (.iaload, 1) := by decide +kernel
theorem dX8_leadOf_55 : decode cX8_leadOf 55 = .ok (.iload_n 3, 1) := by decide +kernel
theorem dX8_leadOf_56 : decode cX8_leadOf 56 = .ok (.if_icmp .le 17, 3) := by decide +kernel
theorem dX8_leadOf_59 : decode cX8_leadOf 59 = .ok (.aload_n 0, 1) := by decide +kernel
theorem dX8_leadOf_60 : decode cX8_leadOf 60 = .ok (.getfield 7, 3) := by decide +kernel
theorem dX8_leadOf_63 : decode cX8_leadOf 63 = .ok (.iload 4, 2) := by decide +kernel
theorem dX8_leadOf_65 : decode cX8_leadOf 65 = .ok (.iconst 3, 1) := by decide +kernel
theorem dX8_leadOf_66 : decode cX8_leadOf 66 = .ok (.invokestatic 48, 3) := by decide +kernel
theorem dX8_leadOf_69 : decode cX8_leadOf 69 = .ok (.iaload, 1) := by decide +kernel
theorem dX8_leadOf_70 : decode cX8_leadOf 70 = .ok (.goto 4, 3) := by decide +kernel
theorem dX8_leadOf_73 : decode cX8_leadOf 73 = .ok (.iload_n 3, 1) := by decide +kernel
theorem dX8_leadOf_74 : decode cX8_leadOf 74 = .ok (.istore_n 3, 1) := by decide +kernel
theorem dX8_leadOf_75 : decode cX8_leadOf 75 = .ok (.iinc 4 1, 3) := by decide +kernel
theorem dX8_leadOf_78 : decode cX8_leadOf 78 = .ok (.goto (-67), 3) := by decide +kernel
theorem dX8_leadOf_81 : decode cX8_leadOf 81 = .ok (.aload_n 0, 1) := by decide +kernel
theorem dX8_leadOf_82 : decode cX8_leadOf 82 = .ok (.iload_n 1, 1) := by decide +kernel
theorem dX8_leadOf_83 : decode cX8_leadOf 83 = .ok (.invokevirtual 54, 3) := by decide +kernel
theorem dX8_leadOf_86 : decode cX8_leadOf 86 = .ok (.iload_n 3, 1) := by decide +kernel
theorem dX8_leadOf_87 : decode cX8_leadOf 87 = .ok (.isub, 1) := by decide +kernel
theorem dX8_leadOf_88 : decode cX8_leadOf 88 = .ok (.ireturn, 1) := by decide +kernel
theorem dX8_mean_0 : decode cX8_mean 0 = .ok (.iload_n 2, 1) := by decide +kernel
theorem dX8_mean_1 : decode cX8_mean 1 = .ok (.ifCond .ne 7, 3) := by decide +kernel
theorem dX8_mean_4 : decode cX8_mean 4 = .ok (.iconst 0, 1) := by decide +kernel
theorem dX8_mean_5 : decode cX8_mean 5 = .ok (.goto 6, 3) := by decide +kernel
theorem dX8_mean_8 : decode cX8_mean 8 = .ok (.iload_n 1, 1) := by decide +kernel
theorem dX8_mean_9 : decode cX8_mean 9 = .ok (.iload_n 2, 1) := by decide +kernel
theorem dX8_mean_10 : decode cX8_mean 10 = .ok (.idiv, 1) := by decide +kernel
theorem dX8_mean_11 : decode cX8_mean 11 = .ok (.ireturn, 1) := by decide +kernel
theorem dX8_due_0 : decode cX8_due 0 = .ok (.aload_n 0, 1) := by decide +kernel
theorem dX8_due_1 : decode cX8_due 1 = .ok (.getfield 7, 3) := by decide +kernel
theorem dX8_due_4 : decode cX8_due 4 = .ok (.iconst 0, 1) := by decide +kernel
theorem dX8_due_5 : decode cX8_due 5 = .ok (.iaload, 1) := by decide +kernel
theorem dX8_due_6 : decode cX8_due 6 = .ok (.bipush 10, 2) := by decide +kernel
theorem dX8_due_8 : decode cX8_due 8 = .ok (.aload_n 0, 1) := by decide +kernel
theorem dX8_due_9 : decode cX8_due 9 = .ok (.getfield 7, 3) := by decide +kernel
theorem dX8_due_12 : decode cX8_due 12 = .ok (.iload_n 1, 1) := by decide +kernel
theorem dX8_due_13 : decode cX8_due 13 = .ok (.iconst 1, 1) := by decide +kernel
theorem dX8_due_14 : decode cX8_due 14 = .ok (.invokestatic 37, 3) := by decide +kernel
theorem dX8_due_17 : decode cX8_due 17 = .ok (.iaload, 1) := by decide +kernel
theorem dX8_due_18 : decode cX8_due 18 = .ok (.imul, 1) := by decide +kernel
theorem dX8_due_19 : decode cX8_due 19 = .ok (.iadd, 1) := by decide +kernel
theorem dX8_due_20 : decode cX8_due 20 = .ok (.ireturn, 1) := by decide +kernel
theorem dX8_isAgreed_0 : decode cX8_isAgreed 0 = .ok (.iload_n 2, 1) := by decide +kernel
theorem dX8_isAgreed_1 : decode cX8_isAgreed 1 = .ok (.aload_n 0, 1) := by decide +kernel
theorem dX8_isAgreed_2 : decode cX8_isAgreed 2 = .ok (.iload_n 1, 1) := by decide +kernel
theorem dX8_isAgreed_3 : decode cX8_isAgreed 3 = .ok (.invokevirtual 57, 3) := by decide +kernel
theorem dX8_isAgreed_6 : decode cX8_isAgreed 6 = .ok (.if_icmp .lt 17, 3) := by decide +kernel
theorem dX8_isAgreed_9 : decode cX8_isAgreed 9 = .ok (.iload_n 3, 1) := by decide +kernel
theorem dX8_isAgreed_10 : decode cX8_isAgreed 10 = .ok (.aload_n 0, 1) := by decide +kernel
theorem dX8_isAgreed_11 : decode cX8_isAgreed 11 = .ok (.getfield 7, 3) := by decide +kernel
theorem dX8_isAgreed_14 : decode cX8_isAgreed 14 = .ok (.iconst 1, 1) := by decide +kernel
theorem dX8_isAgreed_15 : decode cX8_isAgreed 15 = .ok (.iaload, 1) := by decide +kernel
theorem dX8_isAgreed_16 : decode cX8_isAgreed 16 = .ok (.if_icmp .lt 7, 3) := by decide +kernel
theorem dX8_isAgreed_19 : decode cX8_isAgreed 19 = .ok (.iconst 1, 1) := by decide +kernel
theorem dX8_isAgreed_20 : decode cX8_isAgreed 20 = .ok (.goto 4, 3) := by decide +kernel
theorem dX8_isAgreed_23 : decode cX8_isAgreed 23 = .ok (.iconst 0, 1) := by decide +kernel
theorem dX8_isAgreed_24 : decode cX8_isAgreed 24 = .ok (.ireturn, 1) := by decide +kernel
theorem dX8_becomes_0 : decode cX8_becomes 0 = .ok (.iload_n 1, 1) := by decide +kernel
theorem dX8_becomes_1 : decode cX8_becomes 1 = .ok (.aload_n 0, 1) := by decide +kernel
theorem dX8_becomes_2 : decode cX8_becomes 2 = .ok (.getfield 7, 3) := by decide +kernel
theorem dX8_becomes_5 : decode cX8_becomes 5 = .ok (.iconst 2, 1) := by decide +kernel
theorem dX8_becomes_6 : decode cX8_becomes 6 = .ok (.iaload, 1) := by decide +kernel
theorem dX8_becomes_7 : decode cX8_becomes 7 = .ok (.if_icmp .le 18, 3) := by decide +kernel
theorem dX8_becomes_10 : decode cX8_becomes 10 = .ok (.aload_n 0, 1) := by decide +kernel
theorem dX8_becomes_11 : decode cX8_becomes 11 = .ok (.iload_n 2, 1) := by decide +kernel
theorem dX8_becomes_12 : decode cX8_becomes 12 = .ok (.iload_n 1, 1) := by decide +kernel
theorem dX8_becomes_13 : decode cX8_becomes 13 = .ok (.invokevirtual 60, 3) := by decide +kernel
theorem dX8_becomes_16 : decode cX8_becomes 16 = .ok (.aload_n 0, 1) := by decide +kernel
theorem dX8_becomes_17 : decode cX8_becomes 17 = .ok (.getfield 7, 3) := by decide +kernel
theorem dX8_becomes_20 : decode cX8_becomes 20 = .ok (.iconst 3, 1) := by decide +kernel
theorem dX8_becomes_21 : decode cX8_becomes 21 = .ok (.iaload, 1) := by decide +kernel
theorem dX8_becomes_22 : decode cX8_becomes 22 = .ok (.if_icmp .ge 7, 3) := by decide +kernel
theorem dX8_becomes_25 : decode cX8_becomes 25 = .ok (.iconst 3, 1) := by decide +kernel
theorem dX8_becomes_26 : decode cX8_becomes 26 = .ok (.goto 4, 3) := by decide +kernel
theorem dX8_becomes_29 : decode cX8_becomes 29 = .ok (.iconst 2, 1) := by decide +kernel
theorem dX8_becomes_30 : decode cX8_becomes 30 = .ok (.ireturn, 1) := by decide +kernel
theorem dX8_find_0 : decode cX8_find 0 = .ok (.bipush (-6), 2) := by decide +kernel
theorem dX8_find_2 : decode cX8_find 2 = .ok (.istore_n 3, 1) := by decide +kernel
theorem dX8_find_3 : decode cX8_find 3 = .ok (.iconst 0, 1) := by decide +kernel
theorem dX8_find_4 : decode cX8_find 4 = .ok (.istore 4, 2) := by decide +kernel
theorem dX8_find_6 : decode cX8_find 6 = .ok (.iload 4, 2) := by decide +kernel
theorem dX8_find_8 : decode cX8_find 8 = .ok (.aload_n 0, 1) := by decide +kernel
theorem dX8_find_9 : decode cX8_find 9 = .ok (.getfield 7, 3) := by decide +kernel
theorem dX8_find_12 : decode cX8_find 12 = .ok (.bipush 11, 2) := by decide +kernel
theorem dX8_find_14 : decode cX8_find 14 = .ok (.iaload, 1) := by decide +kernel
theorem dX8_find_15 : decode cX8_find 15 = .ok (.if_icmp .ge 46, 3) := by decide +kernel
theorem dX8_find_18 : decode cX8_find 18 = .ok (.aload_n 0, 1) := by decide +kernel
theorem dX8_find_19 : decode cX8_find 19 = .ok (.getfield 7, 3) := by decide +kernel
theorem dX8_find_22 : decode cX8_find 22 = .ok (.iload 4, 2) := by decide +kernel
theorem dX8_find_24 : decode cX8_find 24 = .ok (.iconst 0, 1) := by decide +kernel
theorem dX8_find_25 : decode cX8_find 25 = .ok (.invokestatic 48, 3) := by decide +kernel
theorem dX8_find_28 : decode cX8_find 28 = .ok (.iaload, 1) := by decide +kernel
theorem dX8_find_29 : decode cX8_find 29 = .ok (.iload_n 1, 1) := by decide +kernel
theorem dX8_find_30 : decode cX8_find 30 = .ok (.if_icmp .ne 23, 3) := by decide +kernel
theorem dX8_find_33 : decode cX8_find 33 = .ok (.aload_n 0, 1) := by decide +kernel
theorem dX8_find_34 : decode cX8_find 34 = .ok (.getfield 7, 3) := by decide +kernel
theorem dX8_find_37 : decode cX8_find 37 = .ok (.iload 4, 2) := by decide +kernel
theorem dX8_find_39 : decode cX8_find 39 = .ok (.iconst 1, 1) := by decide +kernel
theorem dX8_find_40 : decode cX8_find 40 = .ok (.invokestatic 48, 3) := by decide +kernel
theorem dX8_find_43 : decode cX8_find 43 = .ok (.iaload, 1) := by decide +kernel
theorem dX8_find_44 : decode cX8_find 44 = .ok (.iload_n 2, 1) := by decide +kernel
theorem dX8_find_45 : decode cX8_find 45 = .ok (.if_icmp .ne 8, 3) := by decide +kernel
theorem dX8_find_48 : decode cX8_find 48 = .ok (.iload 4, 2) := by decide +kernel
theorem dX8_find_50 : decode cX8_find 50 = .ok (.goto 4, 3) := by decide +kernel
theorem dX8_find_53 : decode cX8_find 53 = .ok (.iload_n 3, 1) := by decide +kernel
theorem dX8_find_54 : decode cX8_find 54 = .ok (.istore_n 3, 1) := by decide +kernel
theorem dX8_find_55 : decode cX8_find 55 = .ok (.iinc 4 1, 3) := by decide +kernel
theorem dX8_find_58 : decode cX8_find 58 = .ok (.goto (-52), 3) := by decide +kernel
theorem dX8_find_61 : decode cX8_find 61 = .ok (.iload_n 3, 1) := by decide +kernel
theorem dX8_find_62 : decode cX8_find 62 = .ok (.ireturn, 1) := by decide +kernel
theorem dX8_votes_0 : decode cX8_votes 0 = .ok (.aload_n 0, 1) := by decide +kernel
theorem dX8_votes_1 : decode cX8_votes 1 = .ok (.iload_n 1, 1) := by decide +kernel
theorem dX8_votes_2 : decode cX8_votes 2 = .ok (.iload_n 2, 1) := by decide +kernel
theorem dX8_votes_3 : decode cX8_votes 3 = .ok (.invokevirtual 63, 3) := by decide +kernel
theorem dX8_votes_6 : decode cX8_votes 6 = .ok (.istore 5, 2) := by decide +kernel
theorem dX8_votes_8 : decode cX8_votes 8 = .ok (.iload 5, 2) := by decide +kernel
theorem dX8_votes_10 : decode cX8_votes 10 = .ok (.bipush (-6), 2) := by decide +kernel
theorem dX8_votes_12 : decode cX8_votes 12 = .ok (.if_icmp .ne 71, 3) := by decide +kernel
theorem dX8_votes_15 : decode cX8_votes 15 = .ok (.aload_n 0, 1) := by decide +kernel
theorem dX8_votes_16 : decode cX8_votes 16 = .ok (.getfield 7, 3) := by decide +kernel
theorem dX8_votes_19 : decode cX8_votes 19 = .ok (.bipush 11, 2) := by decide +kernel
theorem dX8_votes_21 : decode cX8_votes 21 = .ok (.iaload, 1) := by decide +kernel
theorem dX8_votes_22 : decode cX8_votes 22 = .ok (.istore 5, 2) := by decide +kernel
theorem dX8_votes_24 : decode cX8_votes 24 = .ok (.aload_n 0, 1) := by decide +kernel
theorem dX8_votes_25 : decode cX8_votes 25 = .ok (.getfield 7, 3) := by decide +kernel
theorem dX8_votes_28 : decode cX8_votes 28 = .ok (.bipush 11, 2) := by decide +kernel
theorem dX8_votes_30 : decode cX8_votes 30 = .ok (.dup2, 1) := by decide +kernel
theorem dX8_votes_31 : decode cX8_votes 31 = .ok (.iaload, 1) := by decide +kernel
theorem dX8_votes_32 : decode cX8_votes 32 = .ok (.iconst 1, 1) := by decide +kernel
theorem dX8_votes_33 : decode cX8_votes 33 = .ok (.iadd, 1) := by decide +kernel
theorem dX8_votes_34 : decode cX8_votes 34 = .ok (.iastore, 1) := by decide +kernel
theorem dX8_votes_35 : decode cX8_votes 35 = .ok (.aload_n 0, 1) := by decide +kernel
theorem dX8_votes_36 : decode cX8_votes 36 = .ok (.getfield 7, 3) := by decide +kernel
theorem dX8_votes_39 : decode cX8_votes 39 = .ok (.iload 5, 2) := by decide +kernel
theorem dX8_votes_41 : decode cX8_votes 41 = .ok (.iconst 0, 1) := by decide +kernel
theorem dX8_votes_42 : decode cX8_votes 42 = .ok (.invokestatic 48, 3) := by decide +kernel
theorem dX8_votes_45 : decode cX8_votes 45 = .ok (.iload_n 1, 1) := by decide +kernel
theorem dX8_votes_46 : decode cX8_votes 46 = .ok (.iastore, 1) := by decide +kernel
theorem dX8_votes_47 : decode cX8_votes 47 = .ok (.aload_n 0, 1) := by decide +kernel
theorem dX8_votes_48 : decode cX8_votes 48 = .ok (.getfield 7, 3) := by decide +kernel
theorem dX8_votes_51 : decode cX8_votes 51 = .ok (.iload 5, 2) := by decide +kernel
theorem dX8_votes_53 : decode cX8_votes 53 = .ok (.iconst 1, 1) := by decide +kernel
theorem dX8_votes_54 : decode cX8_votes 54 = .ok (.invokestatic 48, 3) := by decide +kernel
theorem dX8_votes_57 : decode cX8_votes 57 = .ok (.iload_n 2, 1) := by decide +kernel
theorem dX8_votes_58 : decode cX8_votes 58 = .ok (.iastore, 1) := by decide +kernel
theorem dX8_votes_59 : decode cX8_votes 59 = .ok (.aload_n 0, 1) := by decide +kernel
theorem dX8_votes_60 : decode cX8_votes 60 = .ok (.getfield 7, 3) := by decide +kernel
theorem dX8_votes_63 : decode cX8_votes 63 = .ok (.iload 5, 2) := by decide +kernel
theorem dX8_votes_65 : decode cX8_votes 65 = .ok (.iconst 2, 1) := by decide +kernel
theorem dX8_votes_66 : decode cX8_votes 66 = .ok (.invokestatic 48, 3) := by decide +kernel
theorem dX8_votes_69 : decode cX8_votes 69 = .ok (.iconst 0, 1) := by decide +kernel
theorem dX8_votes_70 : decode cX8_votes 70 = .ok (.iastore, 1) := by decide +kernel
theorem dX8_votes_71 : decode cX8_votes 71 = .ok (.aload_n 0, 1) := by decide +kernel
theorem dX8_votes_72 : decode cX8_votes 72 = .ok (.getfield 7, 3) := by decide +kernel
theorem dX8_votes_75 : decode cX8_votes 75 = .ok (.iload 5, 2) := by decide +kernel
theorem dX8_votes_77 : decode cX8_votes 77 = .ok (.iconst 3, 1) := by decide +kernel
theorem dX8_votes_78 : decode cX8_votes 78 = .ok (.invokestatic 48, 3) := by decide +kernel
theorem dX8_votes_81 : decode cX8_votes 81 = .ok (.iconst 0, 1) := by decide +kernel
theorem dX8_votes_82 : decode cX8_votes 82 = .ok (.iastore, 1) := by decide +kernel
theorem dX8_votes_83 : decode cX8_votes 83 = .ok (.aload_n 0, 1) := by decide +kernel
theorem dX8_votes_84 : decode cX8_votes 84 = .ok (.getfield 7, 3) := by decide +kernel
theorem dX8_votes_87 : decode cX8_votes 87 = .ok (.iload 5, 2) := by decide +kernel
theorem dX8_votes_89 : decode cX8_votes 89 = .ok (.iconst 2, 1) := by decide +kernel
theorem dX8_votes_90 : decode cX8_votes 90 = .ok (.invokestatic 48, 3) := by decide +kernel
theorem dX8_votes_93 : decode cX8_votes 93 = .ok (.dup2, 1) := by decide +kernel
theorem dX8_votes_94 : decode cX8_votes 94 = .ok (.iaload, 1) := by decide +kernel
theorem dX8_votes_95 : decode cX8_votes 95 = .ok (.iconst 1, 1) := by decide +kernel
theorem dX8_votes_96 : decode cX8_votes 96 = .ok (.iadd, 1) := by decide +kernel
theorem dX8_votes_97 : decode cX8_votes 97 = .ok (.iastore, 1) := by decide +kernel
theorem dX8_votes_98 : decode cX8_votes 98 = .ok (.aload_n 0, 1) := by decide +kernel
theorem dX8_votes_99 : decode cX8_votes 99 = .ok (.getfield 7, 3) := by decide +kernel
theorem dX8_votes_102 : decode cX8_votes 102 = .ok (.iload 5, 2) := by decide +kernel
theorem dX8_votes_104 : decode cX8_votes 104 = .ok (.iconst 3, 1) := by decide +kernel
theorem dX8_votes_105 : decode cX8_votes 105 = .ok (.invokestatic 48, 3) := by decide +kernel
theorem dX8_votes_108 : decode cX8_votes 108 = .ok (.dup2, 1) := by decide +kernel
theorem dX8_votes_109 : decode cX8_votes 109 = .ok (.iaload, 1) := by decide +kernel
theorem dX8_votes_110 : decode cX8_votes 110 = .ok (.iload_n 3, 1) := by decide +kernel
theorem dX8_votes_111 : decode cX8_votes 111 = .ok (.iadd, 1) := by decide +kernel
theorem dX8_votes_112 : decode cX8_votes 112 = .ok (.iastore, 1) := by decide +kernel
theorem dX8_votes_113 : decode cX8_votes 113 = .ok (.aload_n 0, 1) := by decide +kernel
theorem dX8_votes_114 : decode cX8_votes 114 = .ok (.getfield 7, 3) := by decide +kernel
theorem dX8_votes_117 : decode cX8_votes 117 = .ok (.iload_n 1, 1) := by decide +kernel
theorem dX8_votes_118 : decode cX8_votes 118 = .ok (.iconst 4, 1) := by decide +kernel
theorem dX8_votes_119 : decode cX8_votes 119 = .ok (.invokestatic 37, 3) := by decide +kernel
theorem dX8_votes_122 : decode cX8_votes 122 = .ok (.dup2, 1) := by decide +kernel
theorem dX8_votes_123 : decode cX8_votes 123 = .ok (.iaload, 1) := by decide +kernel
theorem dX8_votes_124 : decode cX8_votes 124 = .ok (.iconst 1, 1) := by decide +kernel
theorem dX8_votes_125 : decode cX8_votes 125 = .ok (.iadd, 1) := by decide +kernel
theorem dX8_votes_126 : decode cX8_votes 126 = .ok (.iastore, 1) := by decide +kernel
theorem dX8_votes_127 : decode cX8_votes 127 = .ok (.aload_n 0, 1) := by decide +kernel
theorem dX8_votes_128 : decode cX8_votes 128 = .ok (.getfield 7, 3) := by decide +kernel
theorem dX8_votes_131 : decode cX8_votes 131 = .ok (.iload_n 1, 1) := by decide +kernel
theorem dX8_votes_132 : decode cX8_votes 132 = .ok (.iconst 5, 1) := by decide +kernel
theorem dX8_votes_133 : decode cX8_votes 133 = .ok (.invokestatic 37, 3) := by decide +kernel
theorem dX8_votes_136 : decode cX8_votes 136 = .ok (.dup2, 1) := by decide +kernel
theorem dX8_votes_137 : decode cX8_votes 137 = .ok (.iaload, 1) := by decide +kernel
theorem dX8_votes_138 : decode cX8_votes 138 = .ok (.iload 4, 2) := by decide +kernel
theorem dX8_votes_140 : decode cX8_votes 140 = .ok (.iadd, 1) := by decide +kernel
theorem dX8_votes_141 : decode cX8_votes 141 = .ok (.iastore, 1) := by decide +kernel
theorem dX8_votes_142 : decode cX8_votes 142 = .ok (.aload_n 0, 1) := by decide +kernel
theorem dX8_votes_143 : decode cX8_votes 143 = .ok (.iload_n 1, 1) := by decide +kernel
theorem dX8_votes_144 : decode cX8_votes 144 = .ok (.aload_n 0, 1) := by decide +kernel
theorem dX8_votes_145 : decode cX8_votes 145 = .ok (.iload_n 1, 1) := by decide +kernel
theorem dX8_votes_146 : decode cX8_votes 146 = .ok (.invokevirtual 54, 3) := by decide +kernel
theorem dX8_votes_149 : decode cX8_votes 149 = .ok (.aload_n 0, 1) := by decide +kernel
theorem dX8_votes_150 : decode cX8_votes 150 = .ok (.iload_n 1, 1) := by decide +kernel
theorem dX8_votes_151 : decode cX8_votes 151 = .ok (.invokevirtual 66, 3) := by decide +kernel
theorem dX8_votes_154 : decode cX8_votes 154 = .ok (.invokevirtual 69, 3) := by decide +kernel
theorem dX8_votes_157 : decode cX8_votes 157 = .ok (.ifCond .eq 97, 3) := by decide +kernel
theorem dX8_votes_160 : decode cX8_votes 160 = .ok (.aload_n 0, 1) := by decide +kernel
theorem dX8_votes_161 : decode cX8_votes 161 = .ok (.aload_n 0, 1) := by decide +kernel
theorem dX8_votes_162 : decode cX8_votes 162 = .ok (.getfield 7, 3) := by decide +kernel
theorem dX8_votes_165 : decode cX8_votes 165 = .ok (.iload_n 1, 1) := by decide +kernel
theorem dX8_votes_166 : decode cX8_votes 166 = .ok (.iconst 4, 1) := by decide +kernel
theorem dX8_votes_167 : decode cX8_votes 167 = .ok (.invokestatic 37, 3) := by decide +kernel
theorem dX8_votes_170 : decode cX8_votes 170 = .ok (.iaload, 1) := by decide +kernel
theorem dX8_votes_171 : decode cX8_votes 171 = .ok (.aload_n 0, 1) := by decide +kernel
theorem dX8_votes_172 : decode cX8_votes 172 = .ok (.getfield 7, 3) := by decide +kernel
theorem dX8_votes_175 : decode cX8_votes 175 = .ok (.iload_n 1, 1) := by decide +kernel
theorem dX8_votes_176 : decode cX8_votes 176 = .ok (.iconst 5, 1) := by decide +kernel
theorem dX8_votes_177 : decode cX8_votes 177 = .ok (.invokestatic 37, 3) := by decide +kernel
theorem dX8_votes_180 : decode cX8_votes 180 = .ok (.iaload, 1) := by decide +kernel
theorem dX8_votes_181 : decode cX8_votes 181 = .ok (.invokevirtual 72, 3) := by decide +kernel
theorem dX8_votes_184 : decode cX8_votes 184 = .ok (.istore 6, 2) := by decide +kernel
theorem dX8_votes_186 : decode cX8_votes 186 = .ok (.aload_n 0, 1) := by decide +kernel
theorem dX8_votes_187 : decode cX8_votes 187 = .ok (.getfield 7, 3) := by decide +kernel
theorem dX8_votes_190 : decode cX8_votes 190 = .ok (.iload_n 1, 1) := by decide +kernel
theorem dX8_votes_191 : decode cX8_votes 191 = .ok (.iconst 0, 1) := by decide +kernel
theorem dX8_votes_192 : decode cX8_votes 192 = .ok (.invokestatic 37, 3) := by decide +kernel
theorem dX8_votes_195 : decode cX8_votes 195 = .ok (.iload 6, 2) := by decide +kernel
theorem dX8_votes_197 : decode cX8_votes 197 = .ok (.iastore, 1) := by decide +kernel
theorem dX8_votes_198 : decode cX8_votes 198 = .ok (.aload_n 0, 1) := by decide +kernel
theorem dX8_votes_199 : decode cX8_votes 199 = .ok (.getfield 7, 3) := by decide +kernel
theorem dX8_votes_202 : decode cX8_votes 202 = .ok (.iload_n 1, 1) := by decide +kernel
theorem dX8_votes_203 : decode cX8_votes 203 = .ok (.iconst 2, 1) := by decide +kernel
theorem dX8_votes_204 : decode cX8_votes 204 = .ok (.invokestatic 37, 3) := by decide +kernel
theorem dX8_votes_207 : decode cX8_votes 207 = .ok (.iload 6, 2) := by decide +kernel
theorem dX8_votes_209 : decode cX8_votes 209 = .ok (.iconst 2, 1) := by decide +kernel
theorem dX8_votes_210 : decode cX8_votes 210 = .ok (.if_icmp .ne 20, 3) := by decide +kernel
theorem dX8_votes_213 : decode cX8_votes 213 = .ok (.aload_n 0, 1) := by decide +kernel
theorem dX8_votes_214 : decode cX8_votes 214 = .ok (.getfield 7, 3) := by decide +kernel
theorem dX8_votes_217 : decode cX8_votes 217 = .ok (.aload_n 0, 1) := by decide +kernel
theorem dX8_votes_218 : decode cX8_votes 218 = .ok (.iload_n 1, 1) := by decide +kernel
theorem dX8_votes_219 : decode cX8_votes 219 = .ok (.invokevirtual 51, 3) := by decide +kernel
theorem dX8_votes_222 : decode cX8_votes 222 = .ok (.iconst 1, 1) := by decide +kernel
theorem dX8_votes_223 : decode cX8_votes 223 = .ok (.invokestatic 48, 3) := by decide +kernel
theorem dX8_votes_226 : decode cX8_votes 226 = .ok (.iaload, 1) := by decide +kernel
theorem dX8_votes_227 : decode cX8_votes 227 = .ok (.goto 4, 3) := by decide +kernel
theorem dX8_votes_230 : decode cX8_votes 230 = .ok (.iconst 0, 1) := by decide +kernel
theorem dX8_votes_231 : decode cX8_votes 231 = .ok (.iastore, 1) := by decide +kernel
theorem dX8_votes_232 : decode cX8_votes 232 = .ok (.aload_n 0, 1) := by decide +kernel
theorem dX8_votes_233 : decode cX8_votes 233 = .ok (.getfield 7, 3) := by decide +kernel
theorem dX8_votes_236 : decode cX8_votes 236 = .ok (.iload 6, 2) := by decide +kernel
theorem dX8_votes_238 : decode cX8_votes 238 = .ok (.iconst 2, 1) := by decide +kernel
theorem dX8_votes_239 : decode cX8_votes 239 = .ok (.if_icmp .ne 8, 3) := by decide +kernel
theorem dX8_votes_242 : decode cX8_votes 242 = .ok (.bipush 10, 2) := by decide +kernel
theorem dX8_votes_244 : decode cX8_votes 244 = .ok (.goto 5, 3) := by decide +kernel
theorem dX8_votes_247 : decode cX8_votes 247 = .ok (.bipush 9, 2) := by decide +kernel
theorem dX8_votes_249 : decode cX8_votes 249 = .ok (.dup2, 1) := by decide +kernel
theorem dX8_votes_250 : decode cX8_votes 250 = .ok (.iaload, 1) := by decide +kernel
theorem dX8_votes_251 : decode cX8_votes 251 = .ok (.iconst 1, 1) := by decide +kernel
theorem dX8_votes_252 : decode cX8_votes 252 = .ok (.iadd, 1) := by decide +kernel
theorem dX8_votes_253 : decode cX8_votes 253 = .ok (.iastore, 1) := by decide +kernel
theorem dX8_votes_254 : decode cX8_votes 254 = .ok (.return_, 1) := by decide +kernel
theorem dX8_forgets_0 : decode cX8_forgets 0 = .ok (.iconst 0, 1) := by decide +kernel
theorem dX8_forgets_1 : decode cX8_forgets 1 = .ok (.istore_n 3, 1) := by decide +kernel
theorem dX8_forgets_2 : decode cX8_forgets 2 = .ok (.iconst 0, 1) := by decide +kernel
theorem dX8_forgets_3 : decode cX8_forgets 3 = .ok (.istore 4, 2) := by decide +kernel
theorem dX8_forgets_5 : decode cX8_forgets 5 = .ok (.iload 4, 2) := by decide +kernel
theorem dX8_forgets_7 : decode cX8_forgets 7 = .ok (.aload_n 0, 1) := by decide +kernel
theorem dX8_forgets_8 : decode cX8_forgets 8 = .ok (.getfield 7, 3) := by decide +kernel
theorem dX8_forgets_11 : decode cX8_forgets 11 = .ok (.bipush 11, 2) := by decide +kernel
theorem dX8_forgets_13 : decode cX8_forgets 13 = .ok (.iaload, 1) := by decide +kernel
theorem dX8_forgets_14 : decode cX8_forgets 14 = .ok (.if_icmp .ge 101, 3) := by decide +kernel
theorem dX8_forgets_17 : decode cX8_forgets 17 = .ok (.aload_n 0, 1) := by decide +kernel
theorem dX8_forgets_18 : decode cX8_forgets 18 = .ok (.getfield 7, 3) := by decide +kernel
theorem dX8_forgets_21 : decode cX8_forgets 21 = .ok (.iload 4, 2) := by decide +kernel
theorem dX8_forgets_23 : decode cX8_forgets 23 = .ok (.iconst 0, 1) := by decide +kernel
theorem dX8_forgets_24 : decode cX8_forgets 24 = .ok (.invokestatic 48, 3) := by decide +kernel
theorem dX8_forgets_27 : decode cX8_forgets 27 = .ok (.iaload, 1) := by decide +kernel
theorem dX8_forgets_28 : decode cX8_forgets 28 = .ok (.iload_n 1, 1) := by decide +kernel
theorem dX8_forgets_29 : decode cX8_forgets 29 = .ok (.if_icmp .eq 80, 3) := by decide +kernel
theorem dX8_forgets_32 : decode cX8_forgets 32 = .ok (.iconst 0, 1) := by decide +kernel
theorem dX8_forgets_33 : decode cX8_forgets 33 = .ok (.istore 5, 2) := by decide +kernel
theorem dX8_forgets_35 : decode cX8_forgets 35 = .ok (.iload 5, 2) := by decide +kernel
theorem dX8_forgets_37 : decode cX8_forgets 37 = .ok (.iconst 4, 1) := by decide +kernel
theorem dX8_forgets_38 : decode cX8_forgets 38 = .ok (.if_icmp .ge 32, 3) := by decide +kernel
theorem dX8_forgets_41 : decode cX8_forgets 41 = .ok (.aload_n 0, 1) := by decide +kernel
theorem dX8_forgets_42 : decode cX8_forgets 42 = .ok (.getfield 7, 3) := by decide +kernel
theorem dX8_forgets_45 : decode cX8_forgets 45 = .ok (.iload_n 3, 1) := by decide +kernel
theorem dX8_forgets_46 : decode cX8_forgets 46 = .ok (.iload 5, 2) := by decide +kernel
theorem dX8_forgets_48 : decode cX8_forgets 48 = .ok (.invokestatic 48, 3) := by decide +kernel
theorem dX8_forgets_51 : decode cX8_forgets 51 = .ok (.aload_n 0, 1) := by decide +kernel
theorem dX8_forgets_52 : decode cX8_forgets 52 = .ok (.getfield 7, 3) := by decide +kernel
theorem dX8_forgets_55 : decode cX8_forgets 55 = .ok (.iload 4, 2) := by decide +kernel
theorem dX8_forgets_57 : decode cX8_forgets 57 = .ok (.iload 5, 2) := by decide +kernel
theorem dX8_forgets_59 : decode cX8_forgets 59 = .ok (.invokestatic 48, 3) := by decide +kernel
theorem dX8_forgets_62 : decode cX8_forgets 62 = .ok (.iaload, 1) := by decide +kernel
theorem dX8_forgets_63 : decode cX8_forgets 63 = .ok (.iastore, 1) := by decide +kernel
theorem dX8_forgets_64 : decode cX8_forgets 64 = .ok (.iinc 5 1, 3) := by decide +kernel
theorem dX8_forgets_67 : decode cX8_forgets 67 = .ok (.goto (-32), 3) := by decide +kernel
theorem dX8_forgets_70 : decode cX8_forgets 70 = .ok (.aload_n 0, 1) := by decide +kernel
theorem dX8_forgets_71 : decode cX8_forgets 71 = .ok (.getfield 7, 3) := by decide +kernel
theorem dX8_forgets_74 : decode cX8_forgets 74 = .ok (.iload_n 3, 1) := by decide +kernel
theorem dX8_forgets_75 : decode cX8_forgets 75 = .ok (.iconst 0, 1) := by decide +kernel
theorem dX8_forgets_76 : decode cX8_forgets 76 = .ok (.invokestatic 48, 3) := by decide +kernel
theorem dX8_forgets_79 : decode cX8_forgets 79 = .ok (.dup2, 1) := by decide +kernel
theorem dX8_forgets_80 : decode cX8_forgets 80 = .ok (.iaload, 1) := by decide +kernel
theorem dX8_forgets_81 : decode cX8_forgets 81 = .ok (.iload_n 2, 1) := by decide +kernel
theorem dX8_forgets_82 : decode cX8_forgets 82 = .ok (.ifCond .eq 21, 3) := by decide +kernel
theorem dX8_forgets_85 : decode cX8_forgets 85 = .ok (.aload_n 0, 1) := by decide +kernel
theorem dX8_forgets_86 : decode cX8_forgets 86 = .ok (.getfield 7, 3) := by decide +kernel
theorem dX8_forgets_89 : decode cX8_forgets 89 = .ok (.iload_n 3, 1) := by decide +kernel
theorem dX8_forgets_90 : decode cX8_forgets 90 = .ok (.iconst 0, 1) := by decide +kernel
theorem dX8_forgets_91 : decode cX8_forgets 91 = .ok (.invokestatic 48, 3) := by decide +kernel
theorem dX8_forgets_94 : decode cX8_forgets 94 = .ok (.iaload, 1) := by decide +kernel
theorem dX8_forgets_95 : decode cX8_forgets 95 = .ok (.iload_n 1, 1) := by decide +kernel
theorem dX8_forgets_96 : decode cX8_forgets 96 = .ok (.if_icmp .le 7, 3) := by decide +kernel
theorem dX8_forgets_99 : decode cX8_forgets 99 = .ok (.iconst 1, 1) := by decide +kernel
theorem dX8_forgets_100 : decode cX8_forgets 100 = .ok (.goto 4, 3) := by decide +kernel
theorem dX8_forgets_103 : decode cX8_forgets 103 = .ok (.iconst 0, 1) := by decide +kernel
theorem dX8_forgets_104 : decode cX8_forgets 104 = .ok (.isub, 1) := by decide +kernel
theorem dX8_forgets_105 : decode cX8_forgets 105 = .ok (.iastore, 1) := by decide +kernel
theorem dX8_forgets_106 : decode cX8_forgets 106 = .ok (.iinc 3 1, 3) := by decide +kernel
theorem dX8_forgets_109 : decode cX8_forgets 109 = .ok (.iinc 4 1, 3) := by decide +kernel
theorem dX8_forgets_112 : decode cX8_forgets 112 = .ok (.goto (-107), 3) := by decide +kernel
theorem dX8_forgets_115 : decode cX8_forgets 115 = .ok (.iload_n 3, 1) := by decide +kernel
theorem dX8_forgets_116 : decode cX8_forgets 116 = .ok (.iconst 0, 1) := by decide +kernel
theorem dX8_forgets_117 : decode cX8_forgets 117 = .ok (.invokestatic 48, 3) := by decide +kernel
theorem dX8_forgets_120 : decode cX8_forgets 120 = .ok (.istore 4, 2) := by decide +kernel
theorem dX8_forgets_122 : decode cX8_forgets 122 = .ok (.iload 4, 2) := by decide +kernel
theorem dX8_forgets_124 : decode cX8_forgets 124 = .ok (.aload_n 0, 1) := by decide +kernel
theorem dX8_forgets_125 : decode cX8_forgets 125 = .ok (.getfield 7, 3) := by decide +kernel
theorem dX8_forgets_128 : decode cX8_forgets 128 = .ok (.bipush 11, 2) := by decide +kernel
theorem dX8_forgets_130 : decode cX8_forgets 130 = .ok (.iaload, 1) := by decide +kernel
theorem dX8_forgets_131 : decode cX8_forgets 131 = .ok (.iconst 0, 1) := by decide +kernel
theorem dX8_forgets_132 : decode cX8_forgets 132 = .ok (.invokestatic 48, 3) := by decide +kernel
theorem dX8_forgets_135 : decode cX8_forgets 135 = .ok (.if_icmp .ge 17, 3) := by decide +kernel
theorem dX8_forgets_138 : decode cX8_forgets 138 = .ok (.aload_n 0, 1) := by decide +kernel
theorem dX8_forgets_139 : decode cX8_forgets 139 = .ok (.getfield 7, 3) := by decide +kernel
theorem dX8_forgets_142 : decode cX8_forgets 142 = .ok (.iload 4, 2) := by decide +kernel
theorem dX8_forgets_144 : decode cX8_forgets 144 = .ok (.iconst 0, 1) := by decide +kernel
theorem dX8_forgets_145 : decode cX8_forgets 145 = .ok (.iastore, 1) := by decide +kernel
theorem dX8_forgets_146 : decode cX8_forgets 146 = .ok (.iinc 4 1, 3) := by decide +kernel
theorem dX8_forgets_149 : decode cX8_forgets 149 = .ok (.goto (-27), 3) := by decide +kernel
theorem dX8_forgets_152 : decode cX8_forgets 152 = .ok (.aload_n 0, 1) := by decide +kernel
theorem dX8_forgets_153 : decode cX8_forgets 153 = .ok (.getfield 7, 3) := by decide +kernel
theorem dX8_forgets_156 : decode cX8_forgets 156 = .ok (.bipush 11, 2) := by decide +kernel
theorem dX8_forgets_158 : decode cX8_forgets 158 = .ok (.iload_n 3, 1) := by decide +kernel
theorem dX8_forgets_159 : decode cX8_forgets 159 = .ok (.iastore, 1) := by decide +kernel
theorem dX8_forgets_160 : decode cX8_forgets 160 = .ok (.return_, 1) := by decide +kernel
theorem dX8_least_0 : decode cX8_least 0 = .ok (.iload_n 0, 1) := by decide +kernel
theorem dX8_least_1 : decode cX8_least 1 = .ok (.ifCond .ne 8, 3) := by decide +kernel
theorem dX8_least_4 : decode cX8_least 4 = .ok (.bipush 10, 2) := by decide +kernel
theorem dX8_least_6 : decode cX8_least 6 = .ok (.goto 4, 3) := by decide +kernel
theorem dX8_least_9 : decode cX8_least 9 = .ok (.iconst 0, 1) := by decide +kernel
theorem dX8_least_10 : decode cX8_least 10 = .ok (.ireturn, 1) := by decide +kernel
theorem dX8_most_0 : decode cX8_most 0 = .ok (.iload_n 0, 1) := by decide +kernel
theorem dX8_most_1 : decode cX8_most 1 = .ok (.tableswitch 52 0 4 #[35, 39, 43, 46, 49], 35) := by decide +kernel
theorem dX8_most_36 : decode cX8_most 36 = .ok (.sipush 400, 3) := by decide +kernel
theorem dX8_most_39 : decode cX8_most 39 = .ok (.ireturn, 1) := by decide +kernel
theorem dX8_most_40 : decode cX8_most 40 = .ok (.sipush 200, 3) := by decide +kernel
theorem dX8_most_43 : decode cX8_most 43 = .ok (.ireturn, 1) := by decide +kernel
theorem dX8_most_44 : decode cX8_most 44 = .ok (.bipush 9, 2) := by decide +kernel
theorem dX8_most_46 : decode cX8_most 46 = .ok (.ireturn, 1) := by decide +kernel
theorem dX8_most_47 : decode cX8_most 47 = .ok (.bipush 60, 2) := by decide +kernel
theorem dX8_most_49 : decode cX8_most 49 = .ok (.ireturn, 1) := by decide +kernel
theorem dX8_most_50 : decode cX8_most 50 = .ok (.bipush 20, 2) := by decide +kernel
theorem dX8_most_52 : decode cX8_most 52 = .ok (.ireturn, 1) := by decide +kernel
theorem dX8_most_53 : decode cX8_most 53 = .ok (.bipush 50, 2) := by decide +kernel
theorem dX8_most_55 : decode cX8_most 55 = .ok (.ireturn, 1) := by decide +kernel
theorem dX8_lays_0 : decode cX8_lays 0 = .ok (.aload_n 0, 1) := by decide +kernel
theorem dX8_lays_1 : decode cX8_lays 1 = .ok (.invokevirtual 75, 3) := by decide +kernel
theorem dX8_lays_4 : decode cX8_lays 4 = .ok (.aload_n 0, 1) := by decide +kernel
theorem dX8_lays_5 : decode cX8_lays 5 = .ok (.getfield 7, 3) := by decide +kernel
theorem dX8_lays_8 : decode cX8_lays 8 = .ok (.iload_n 1, 1) := by decide +kernel
theorem dX8_lays_9 : decode cX8_lays 9 = .ok (.iaload, 1) := by decide +kernel
theorem dX8_lays_10 : decode cX8_lays 10 = .ok (.istore_n 3, 1) := by decide +kernel
theorem dX8_lays_11 : decode cX8_lays 11 = .ok (.aload_n 0, 1) := by decide +kernel
theorem dX8_lays_12 : decode cX8_lays 12 = .ok (.getfield 7, 3) := by decide +kernel
theorem dX8_lays_15 : decode cX8_lays 15 = .ok (.iload_n 1, 1) := by decide +kernel
theorem dX8_lays_16 : decode cX8_lays 16 = .ok (.iload_n 2, 1) := by decide +kernel
theorem dX8_lays_17 : decode cX8_lays 17 = .ok (.iastore, 1) := by decide +kernel
theorem dX8_lays_18 : decode cX8_lays 18 = .ok (.iload_n 3, 1) := by decide +kernel
theorem dX8_lays_19 : decode cX8_lays 19 = .ok (.ireturn, 1) := by decide +kernel
theorem dX8_set_0 : decode cX8_set 0 = .ok (.iload_n 1, 1) := by decide +kernel
theorem dX8_set_1 : decode cX8_set 1 = .ok (.iconst 0, 1) := by decide +kernel
theorem dX8_set_2 : decode cX8_set 2 = .ok (.iconst 5, 1) := by decide +kernel
theorem dX8_set_3 : decode cX8_set 3 = .ok (.invokestatic 33, 3) := by decide +kernel
theorem dX8_set_6 : decode cX8_set 6 = .ok (.ifCond .eq 27, 3) := by decide +kernel
theorem dX8_set_9 : decode cX8_set 9 = .ok (.iload_n 2, 1) := by decide +kernel
theorem dX8_set_10 : decode cX8_set 10 = .ok (.iload_n 1, 1) := by decide +kernel
theorem dX8_set_11 : decode cX8_set 11 = .ok (.invokestatic 78, 3) := by decide +kernel
theorem dX8_set_14 : decode cX8_set 14 = .ok (.iload_n 1, 1) := by decide +kernel
theorem dX8_set_15 : decode cX8_set 15 = .ok (.invokestatic 81, 3) := by decide +kernel
theorem dX8_set_18 : decode cX8_set 18 = .ok (.invokestatic 33, 3) := by decide +kernel
theorem dX8_set_21 : decode cX8_set 21 = .ok (.ifCond .eq 12, 3) := by decide +kernel
theorem dX8_set_24 : decode cX8_set 24 = .ok (.aload_n 0, 1) := by decide +kernel
theorem dX8_set_25 : decode cX8_set 25 = .ok (.iload_n 1, 1) := by decide +kernel
theorem dX8_set_26 : decode cX8_set 26 = .ok (.iload_n 2, 1) := by decide +kernel
theorem dX8_set_27 : decode cX8_set 27 = .ok (.invokevirtual 84, 3) := by decide +kernel
theorem dX8_set_30 : decode cX8_set 30 = .ok (.goto 5, 3) := by decide +kernel
theorem dX8_set_33 : decode cX8_set 33 = .ok (.bipush (-2), 2) := by decide +kernel
theorem dX8_set_35 : decode cX8_set 35 = .ok (.ireturn, 1) := by decide +kernel
theorem dX8_adds_0 : decode cX8_adds 0 = .ok (.aload_n 0, 1) := by decide +kernel
theorem dX8_adds_1 : decode cX8_adds 1 = .ok (.invokevirtual 75, 3) := by decide +kernel
theorem dX8_adds_4 : decode cX8_adds 4 = .ok (.aload_n 0, 1) := by decide +kernel
theorem dX8_adds_5 : decode cX8_adds 5 = .ok (.getfield 7, 3) := by decide +kernel
theorem dX8_adds_8 : decode cX8_adds 8 = .ok (.bipush 6, 2) := by decide +kernel
theorem dX8_adds_10 : decode cX8_adds 10 = .ok (.iaload, 1) := by decide +kernel
theorem dX8_adds_11 : decode cX8_adds 11 = .ok (.istore 4, 2) := by decide +kernel
theorem dX8_adds_13 : decode cX8_adds 13 = .ok (.aload_n 0, 1) := by decide +kernel
theorem dX8_adds_14 : decode cX8_adds 14 = .ok (.getfield 7, 3) := by decide +kernel
theorem dX8_adds_17 : decode cX8_adds 17 = .ok (.bipush 6, 2) := by decide +kernel
theorem dX8_adds_19 : decode cX8_adds 19 = .ok (.dup2, 1) := by decide +kernel
theorem dX8_adds_20 : decode cX8_adds 20 = .ok (.iaload, 1) := by decide +kernel
theorem dX8_adds_21 : decode cX8_adds 21 = .ok (.iconst 1, 1) := by decide +kernel
theorem dX8_adds_22 : decode cX8_adds 22 = .ok (.iadd, 1) := by decide +kernel
theorem dX8_adds_23 : decode cX8_adds 23 = .ok (.iastore, 1) := by decide +kernel
theorem dX8_adds_24 : decode cX8_adds 24 = .ok (.iconst 0, 1) := by decide +kernel
theorem dX8_adds_25 : decode cX8_adds 25 = .ok (.istore 5, 2) := by decide +kernel
theorem dX8_adds_27 : decode cX8_adds 27 = .ok (.iload 5, 2) := by decide +kernel
theorem dX8_adds_29 : decode cX8_adds 29 = .ok (.bipush 6, 2) := by decide +kernel
theorem dX8_adds_31 : decode cX8_adds 31 = .ok (.if_icmp .ge 22, 3) := by decide +kernel
theorem dX8_adds_34 : decode cX8_adds 34 = .ok (.aload_n 0, 1) := by decide +kernel
theorem dX8_adds_35 : decode cX8_adds 35 = .ok (.getfield 7, 3) := by decide +kernel
theorem dX8_adds_38 : decode cX8_adds 38 = .ok (.iload 4, 2) := by decide +kernel
theorem dX8_adds_40 : decode cX8_adds 40 = .ok (.iload 5, 2) := by decide +kernel
theorem dX8_adds_42 : decode cX8_adds 42 = .ok (.invokestatic 37, 3) := by decide +kernel
theorem dX8_adds_45 : decode cX8_adds 45 = .ok (.iconst 0, 1) := by decide +kernel
theorem dX8_adds_46 : decode cX8_adds 46 = .ok (.iastore, 1) := by decide +kernel
theorem dX8_adds_47 : decode cX8_adds 47 = .ok (.iinc 5 1, 3) := by decide +kernel
theorem dX8_adds_50 : decode cX8_adds 50 = .ok (.goto (-23), 3) := by decide +kernel
theorem dX8_adds_53 : decode cX8_adds 53 = .ok (.aload_n 0, 1) := by decide +kernel
theorem dX8_adds_54 : decode cX8_adds 54 = .ok (.getfield 7, 3) := by decide +kernel
theorem dX8_adds_57 : decode cX8_adds 57 = .ok (.iload 4, 2) := by decide +kernel
theorem dX8_adds_59 : decode cX8_adds 59 = .ok (.iconst 0, 1) := by decide +kernel
theorem dX8_adds_60 : decode cX8_adds 60 = .ok (.invokestatic 37, 3) := by decide +kernel
theorem dX8_adds_63 : decode cX8_adds 63 = .ok (.iload_n 1, 1) := by decide +kernel
theorem dX8_adds_64 : decode cX8_adds 64 = .ok (.iastore, 1) := by decide +kernel
theorem dX8_adds_65 : decode cX8_adds 65 = .ok (.aload_n 0, 1) := by decide +kernel
theorem dX8_adds_66 : decode cX8_adds 66 = .ok (.getfield 7, 3) := by decide +kernel
theorem dX8_adds_69 : decode cX8_adds 69 = .ok (.iload 4, 2) := by decide +kernel
theorem dX8_adds_71 : decode cX8_adds 71 = .ok (.iconst 1, 1) := by decide +kernel
theorem dX8_adds_72 : decode cX8_adds 72 = .ok (.invokestatic 37, 3) := by decide +kernel
theorem dX8_adds_75 : decode cX8_adds 75 = .ok (.iload_n 2, 1) := by decide +kernel
theorem dX8_adds_76 : decode cX8_adds 76 = .ok (.iastore, 1) := by decide +kernel
theorem dX8_adds_77 : decode cX8_adds 77 = .ok (.aload_n 0, 1) := by decide +kernel
theorem dX8_adds_78 : decode cX8_adds 78 = .ok (.getfield 7, 3) := by decide +kernel
theorem dX8_adds_81 : decode cX8_adds 81 = .ok (.iload 4, 2) := by decide +kernel
theorem dX8_adds_83 : decode cX8_adds 83 = .ok (.iconst 2, 1) := by decide +kernel
theorem dX8_adds_84 : decode cX8_adds 84 = .ok (.invokestatic 37, 3) := by decide +kernel
theorem dX8_adds_87 : decode cX8_adds 87 = .ok (.iload_n 3, 1) := by decide +kernel
theorem dX8_adds_88 : decode cX8_adds 88 = .ok (.iastore, 1) := by decide +kernel
theorem dX8_adds_89 : decode cX8_adds 89 = .ok (.iload 4, 2) := by decide +kernel
theorem dX8_adds_91 : decode cX8_adds 91 = .ok (.ireturn, 1) := by decide +kernel
theorem dX8_isNext_0 : decode cX8_isNext 0 = .ok (.aload_n 0, 1) := by decide +kernel
theorem dX8_isNext_1 : decode cX8_isNext 1 = .ok (.getfield 87, 3) := by decide +kernel
theorem dX8_isNext_4 : decode cX8_isNext 4 = .ok (.ifCond .ne 35, 3) := by decide +kernel
theorem dX8_isNext_7 : decode cX8_isNext 7 = .ok (.aload_n 0, 1) := by decide +kernel
theorem dX8_isNext_8 : decode cX8_isNext 8 = .ok (.getfield 91, 3) := by decide +kernel
theorem dX8_isNext_11 : decode cX8_isNext 11 = .ok (.aload_n 0, 1) := by decide +kernel
theorem dX8_isNext_12 : decode cX8_isNext 12 = .ok (.getfield 94, 3) := by decide +kernel
theorem dX8_isNext_15 : decode cX8_isNext 15 = .ok (.if_icmp .ge 24, 3) := by decide +kernel
theorem dX8_isNext_18 : decode cX8_isNext 18 = .ok (.aload_n 0, 1) := by decide +kernel
theorem dX8_isNext_19 : decode cX8_isNext 19 = .ok (.getfield 23, 3) := by decide +kernel
theorem dX8_isNext_22 : decode cX8_isNext 22 = .ok (.aload_n 0, 1) := by decide +kernel
theorem dX8_isNext_23 : decode cX8_isNext 23 = .ok (.getfield 91, 3) := by decide +kernel
theorem dX8_isNext_26 : decode cX8_isNext 26 = .ok (.iaload, 1) := by decide +kernel
theorem dX8_isNext_27 : decode cX8_isNext 27 = .ok (.iload_n 1, 1) := by decide +kernel
theorem dX8_isNext_28 : decode cX8_isNext 28 = .ok (.iload_n 2, 1) := by decide +kernel
theorem dX8_isNext_29 : decode cX8_isNext 29 = .ok (.invokestatic 33, 3) := by decide +kernel
theorem dX8_isNext_32 : decode cX8_isNext 32 = .ok (.ifCond .eq 7, 3) := by decide +kernel
theorem dX8_isNext_35 : decode cX8_isNext 35 = .ok (.iconst 1, 1) := by decide +kernel
theorem dX8_isNext_36 : decode cX8_isNext 36 = .ok (.goto 4, 3) := by decide +kernel
theorem dX8_isNext_39 : decode cX8_isNext 39 = .ok (.iconst 0, 1) := by decide +kernel
theorem dX8_isNext_40 : decode cX8_isNext 40 = .ok (.ireturn, 1) := by decide +kernel
theorem dX8_takes_0 : decode cX8_takes 0 = .ok (.aload_n 0, 1) := by decide +kernel
theorem dX8_takes_1 : decode cX8_takes 1 = .ok (.getfield 91, 3) := by decide +kernel
theorem dX8_takes_4 : decode cX8_takes 4 = .ok (.aload_n 0, 1) := by decide +kernel
theorem dX8_takes_5 : decode cX8_takes 5 = .ok (.getfield 94, 3) := by decide +kernel
theorem dX8_takes_8 : decode cX8_takes 8 = .ok (.if_icmp .ge 15, 3) := by decide +kernel
theorem dX8_takes_11 : decode cX8_takes 11 = .ok (.aload_n 0, 1) := by decide +kernel
theorem dX8_takes_12 : decode cX8_takes 12 = .ok (.getfield 23, 3) := by decide +kernel
theorem dX8_takes_15 : decode cX8_takes 15 = .ok (.aload_n 0, 1) := by decide +kernel
theorem dX8_takes_16 : decode cX8_takes 16 = .ok (.getfield 91, 3) := by decide +kernel
theorem dX8_takes_19 : decode cX8_takes 19 = .ok (.iaload, 1) := by decide +kernel
theorem dX8_takes_20 : decode cX8_takes 20 = .ok (.goto 4, 3) := by decide +kernel
theorem dX8_takes_23 : decode cX8_takes 23 = .ok (.iconst 0, 1) := by decide +kernel
theorem dX8_takes_24 : decode cX8_takes 24 = .ok (.istore_n 3, 1) := by decide +kernel
theorem dX8_takes_25 : decode cX8_takes 25 = .ok (.aload_n 0, 1) := by decide +kernel
theorem dX8_takes_26 : decode cX8_takes 26 = .ok (.aload_n 0, 1) := by decide +kernel
theorem dX8_takes_27 : decode cX8_takes 27 = .ok (.getfield 87, 3) := by decide +kernel
theorem dX8_takes_30 : decode cX8_takes 30 = .ok (.ifCond .ne 12, 3) := by decide +kernel
theorem dX8_takes_33 : decode cX8_takes 33 = .ok (.iload_n 3, 1) := by decide +kernel
theorem dX8_takes_34 : decode cX8_takes 34 = .ok (.iload_n 1, 1) := by decide +kernel
theorem dX8_takes_35 : decode cX8_takes 35 = .ok (.iload_n 2, 1) := by decide +kernel
theorem dX8_takes_36 : decode cX8_takes 36 = .ok (.invokestatic 33, 3) := by decide +kernel
theorem dX8_takes_39 : decode cX8_takes 39 = .ok (.ifCond .ne 7, 3) := by decide +kernel
theorem dX8_takes_42 : decode cX8_takes 42 = .ok (.iconst 1, 1) := by decide +kernel
theorem dX8_takes_43 : decode cX8_takes 43 = .ok (.goto 4, 3) := by decide +kernel
theorem dX8_takes_46 : decode cX8_takes 46 = .ok (.iconst 0, 1) := by decide +kernel
theorem dX8_takes_47 : decode cX8_takes 47 = .ok (.putfield 87, 3) := by decide +kernel
theorem dX8_takes_50 : decode cX8_takes 50 = .ok (.aload_n 0, 1) := by decide +kernel
theorem dX8_takes_51 : decode cX8_takes 51 = .ok (.dup, 1) := by decide +kernel
theorem dX8_takes_52 : decode cX8_takes 52 = .ok (.getfield 91, 3) := by decide +kernel
theorem dX8_takes_55 : decode cX8_takes 55 = .ok (.aload_n 0, 1) := by decide +kernel
theorem dX8_takes_56 : decode cX8_takes 56 = .ok (.getfield 87, 3) := by decide +kernel
theorem dX8_takes_59 : decode cX8_takes 59 = .ok (.ifCond .eq 7, 3) := by decide +kernel
theorem dX8_takes_62 : decode cX8_takes 62 = .ok (.iconst 0, 1) := by decide +kernel
theorem dX8_takes_63 : decode cX8_takes 63 = .ok (.goto 4, 3) := by decide +kernel
theorem dX8_takes_66 : decode cX8_takes 66 = .ok (.iconst 1, 1) := by decide +kernel
theorem dX8_takes_67 : decode cX8_takes 67 = .ok (.iadd, 1) := by decide +kernel
theorem dX8_takes_68 : decode cX8_takes 68 = .ok (.putfield 91, 3) := by decide +kernel
theorem dX8_takes_71 : decode cX8_takes 71 = .ok (.iload_n 3, 1) := by decide +kernel
theorem dX8_takes_72 : decode cX8_takes 72 = .ok (.iload_n 1, 1) := by decide +kernel
theorem dX8_takes_73 : decode cX8_takes 73 = .ok (.isub, 1) := by decide +kernel
theorem dX8_takes_74 : decode cX8_takes 74 = .ok (.ireturn, 1) := by decide +kernel
theorem dX8_takesLetters_0 : decode cX8_takesLetters 0 = .ok (.iconst 1, 1) := by decide +kernel
theorem dX8_takesLetters_1 : decode cX8_takesLetters 1 = .ok (.aload_n 0, 1) := by decide +kernel
theorem dX8_takesLetters_2 : decode cX8_takesLetters 2 = .ok (.bipush 97, 2) := by decide +kernel
theorem dX8_takesLetters_4 : decode cX8_takesLetters 4 = .ok (.bipush 122, 2) := by decide +kernel
theorem dX8_takesLetters_6 : decode cX8_takesLetters 6 = .ok (.invokevirtual 97, 3) := by decide +kernel
theorem dX8_takesLetters_9 : decode cX8_takesLetters 9 = .ok (.iadd, 1) := by decide +kernel
theorem dX8_takesLetters_10 : decode cX8_takesLetters 10 = .ok (.istore_n 1, 1) := by decide +kernel
theorem dX8_takesLetters_11 : decode cX8_takesLetters 11 = .ok (.iconst 1, 1) := by decide +kernel
theorem dX8_takesLetters_12 : decode cX8_takesLetters 12 = .ok (.istore_n 2, 1) := by decide +kernel
theorem dX8_takesLetters_13 : decode cX8_takesLetters 13 = .ok (.iload_n 2, 1) := by decide +kernel
theorem dX8_takesLetters_14 : decode cX8_takesLetters 14 = .ok (.bipush 6, 2) := by decide +kernel
theorem dX8_takesLetters_16 : decode cX8_takesLetters 16 = .ok (.if_icmp .ge 36, 3) := by decide +kernel
theorem dX8_takesLetters_19 : decode cX8_takesLetters 19 = .ok (.aload_n 0, 1) := by decide +kernel
theorem dX8_takesLetters_20 : decode cX8_takesLetters 20 = .ok (.bipush 97, 2) := by decide +kernel
theorem dX8_takesLetters_22 : decode cX8_takesLetters 22 = .ok (.bipush 122, 2) := by decide +kernel
theorem dX8_takesLetters_24 : decode cX8_takesLetters 24 = .ok (.invokevirtual 100, 3) := by decide +kernel
theorem dX8_takesLetters_27 : decode cX8_takesLetters 27 = .ok (.ifCond .eq 25, 3) := by decide +kernel
theorem dX8_takesLetters_30 : decode cX8_takesLetters 30 = .ok (.bipush 27, 2) := by decide +kernel
theorem dX8_takesLetters_32 : decode cX8_takesLetters 32 = .ok (.iload_n 1, 1) := by decide +kernel
theorem dX8_takesLetters_33 : decode cX8_takesLetters 33 = .ok (.imul, 1) := by decide +kernel
theorem dX8_takesLetters_34 : decode cX8_takesLetters 34 = .ok (.iconst 1, 1) := by decide +kernel
theorem dX8_takesLetters_35 : decode cX8_takesLetters 35 = .ok (.iadd, 1) := by decide +kernel
theorem dX8_takesLetters_36 : decode cX8_takesLetters 36 = .ok (.aload_n 0, 1) := by decide +kernel
theorem dX8_takesLetters_37 : decode cX8_takesLetters 37 = .ok (.bipush 97, 2) := by decide +kernel
theorem dX8_takesLetters_39 : decode cX8_takesLetters 39 = .ok (.bipush 122, 2) := by decide +kernel
theorem dX8_takesLetters_41 : decode cX8_takesLetters 41 = .ok (.invokevirtual 97, 3) := by decide +kernel
theorem dX8_takesLetters_44 : decode cX8_takesLetters 44 = .ok (.iadd, 1) := by decide +kernel
theorem dX8_takesLetters_45 : decode cX8_takesLetters 45 = .ok (.istore_n 1, 1) := by decide +kernel
theorem dX8_takesLetters_46 : decode cX8_takesLetters 46 = .ok (.iinc 2 1, 3) := by decide +kernel
theorem dX8_takesLetters_49 : decode cX8_takesLetters 49 = .ok (.goto (-36), 3) := by decide +kernel
theorem dX8_takesLetters_52 : decode cX8_takesLetters 52 = .ok (.iload_n 1, 1) := by decide +kernel
theorem dX8_takesLetters_53 : decode cX8_takesLetters 53 = .ok (.ireturn, 1) := by decide +kernel
theorem dX8_know_0 : decode cX8_know 0 = .ok (.iload_n 1, 1) := by decide +kernel
theorem dX8_know_1 : decode cX8_know 1 = .ok (.iconst 0, 1) := by decide +kernel
theorem dX8_know_2 : decode cX8_know 2 = .ok (.bipush 9, 2) := by decide +kernel
theorem dX8_know_4 : decode cX8_know 4 = .ok (.invokestatic 33, 3) := by decide +kernel
theorem dX8_know_7 : decode cX8_know 7 = .ok (.ifCond .ne 6, 3) := by decide +kernel
theorem dX8_know_10 : decode cX8_know 10 = .ok (.bipush (-2), 2) := by decide +kernel
theorem dX8_know_12 : decode cX8_know 12 = .ok (.ireturn, 1) := by decide +kernel
theorem dX8_know_13 : decode cX8_know 13 = .ok (.aload_n 0, 1) := by decide +kernel
theorem dX8_know_14 : decode cX8_know 14 = .ok (.iconst 0, 1) := by decide +kernel
theorem dX8_know_15 : decode cX8_know 15 = .ok (.putfield 91, 3) := by decide +kernel
theorem dX8_know_18 : decode cX8_know 18 = .ok (.aload_n 0, 1) := by decide +kernel
theorem dX8_know_19 : decode cX8_know 19 = .ok (.iconst 0, 1) := by decide +kernel
theorem dX8_know_20 : decode cX8_know 20 = .ok (.putfield 87, 3) := by decide +kernel
theorem dX8_know_23 : decode cX8_know 23 = .ok (.aload_n 0, 1) := by decide +kernel
theorem dX8_know_24 : decode cX8_know 24 = .ok (.invokevirtual 104, 3) := by decide +kernel
theorem dX8_know_27 : decode cX8_know 27 = .ok (.istore_n 2, 1) := by decide +kernel
theorem dX8_know_28 : decode cX8_know 28 = .ok (.aload_n 0, 1) := by decide +kernel
theorem dX8_know_29 : decode cX8_know 29 = .ok (.getfield 87, 3) := by decide +kernel
theorem dX8_know_32 : decode cX8_know 32 = .ok (.ifCond .ne 14, 3) := by decide +kernel
theorem dX8_know_35 : decode cX8_know 35 = .ok (.aload_n 0, 1) := by decide +kernel
theorem dX8_know_36 : decode cX8_know 36 = .ok (.getfield 91, 3) := by decide +kernel
theorem dX8_know_39 : decode cX8_know 39 = .ok (.aload_n 0, 1) := by decide +kernel
theorem dX8_know_40 : decode cX8_know 40 = .ok (.getfield 94, 3) := by decide +kernel
theorem dX8_know_43 : decode cX8_know 43 = .ok (.if_icmp .ge 6, 3) := by decide +kernel
theorem dX8_know_46 : decode cX8_know 46 = .ok (.bipush (-3), 2) := by decide +kernel
theorem dX8_know_48 : decode cX8_know 48 = .ok (.ireturn, 1) := by decide +kernel
theorem dX8_know_49 : decode cX8_know 49 = .ok (.aload_n 0, 1) := by decide +kernel
theorem dX8_know_50 : decode cX8_know 50 = .ok (.getfield 7, 3) := by decide +kernel
theorem dX8_know_53 : decode cX8_know 53 = .ok (.bipush 6, 2) := by decide +kernel
theorem dX8_know_55 : decode cX8_know 55 = .ok (.iaload, 1) := by decide +kernel
theorem dX8_know_56 : decode cX8_know 56 = .ok (.bipush 12, 2) := by decide +kernel
theorem dX8_know_58 : decode cX8_know 58 = .ok (.if_icmp .ne 6, 3) := by decide +kernel
theorem dX8_know_61 : decode cX8_know 61 = .ok (.bipush (-4), 2) := by decide +kernel
theorem dX8_know_63 : decode cX8_know 63 = .ok (.ireturn, 1) := by decide +kernel
theorem dX8_know_64 : decode cX8_know 64 = .ok (.aload_n 0, 1) := by decide +kernel
theorem dX8_know_65 : decode cX8_know 65 = .ok (.iconst 0, 1) := by decide +kernel
theorem dX8_know_66 : decode cX8_know 66 = .ok (.putfield 94, 3) := by decide +kernel
theorem dX8_know_69 : decode cX8_know 69 = .ok (.aload_n 0, 1) := by decide +kernel
theorem dX8_know_70 : decode cX8_know 70 = .ok (.iconst 0, 1) := by decide +kernel
theorem dX8_know_71 : decode cX8_know 71 = .ok (.iload_n 1, 1) := by decide +kernel
theorem dX8_know_72 : decode cX8_know 72 = .ok (.iload_n 2, 1) := by decide +kernel
theorem dX8_know_73 : decode cX8_know 73 = .ok (.invokevirtual 108, 3) := by decide +kernel
theorem dX8_know_76 : decode cX8_know 76 = .ok (.ireturn, 1) := by decide +kernel
theorem dX8_add_0 : decode cX8_add 0 = .ok (.iload_n 1, 1) := by decide +kernel
theorem dX8_add_1 : decode cX8_add 1 = .ok (.iconst 0, 1) := by decide +kernel
theorem dX8_add_2 : decode cX8_add 2 = .ok (.bipush 9, 2) := by decide +kernel
theorem dX8_add_4 : decode cX8_add 4 = .ok (.invokestatic 33, 3) := by decide +kernel
theorem dX8_add_7 : decode cX8_add 7 = .ok (.ifCond .ne 6, 3) := by decide +kernel
theorem dX8_add_10 : decode cX8_add 10 = .ok (.bipush (-2), 2) := by decide +kernel
theorem dX8_add_12 : decode cX8_add 12 = .ok (.ireturn, 1) := by decide +kernel
theorem dX8_add_13 : decode cX8_add 13 = .ok (.aload_n 0, 1) := by decide +kernel
theorem dX8_add_14 : decode cX8_add 14 = .ok (.getfield 7, 3) := by decide +kernel
theorem dX8_add_17 : decode cX8_add 17 = .ok (.bipush 6, 2) := by decide +kernel
theorem dX8_add_19 : decode cX8_add 19 = .ok (.iaload, 1) := by decide +kernel
theorem dX8_add_20 : decode cX8_add 20 = .ok (.bipush 12, 2) := by decide +kernel
theorem dX8_add_22 : decode cX8_add 22 = .ok (.if_icmp .ne 8, 3) := by decide +kernel
theorem dX8_add_25 : decode cX8_add 25 = .ok (.bipush (-4), 2) := by decide +kernel
theorem dX8_add_27 : decode cX8_add 27 = .ok (.goto 10, 3) := by decide +kernel
theorem dX8_add_30 : decode cX8_add 30 = .ok (.aload_n 0, 1) := by decide +kernel
theorem dX8_add_31 : decode cX8_add 31 = .ok (.iconst 1, 1) := by decide +kernel
theorem dX8_add_32 : decode cX8_add 32 = .ok (.iload_n 1, 1) := by decide +kernel
theorem dX8_add_33 : decode cX8_add 33 = .ok (.iconst 0, 1) := by decide +kernel
theorem dX8_add_34 : decode cX8_add 34 = .ok (.invokevirtual 108, 3) := by decide +kernel
theorem dX8_add_37 : decode cX8_add 37 = .ok (.ireturn, 1) := by decide +kernel
theorem dX8_takesWord_0 : decode cX8_takesWord 0 = .ok (.aload_n 0, 1) := by decide +kernel
theorem dX8_takesWord_1 : decode cX8_takesWord 1 = .ok (.bipush 48, 2) := by decide +kernel
theorem dX8_takesWord_3 : decode cX8_takesWord 3 = .ok (.bipush 57, 2) := by decide +kernel
theorem dX8_takesWord_5 : decode cX8_takesWord 5 = .ok (.invokevirtual 97, 3) := by decide +kernel
theorem dX8_takesWord_8 : decode cX8_takesWord 8 = .ok (.istore_n 1, 1) := by decide +kernel
theorem dX8_takesWord_9 : decode cX8_takesWord 9 = .ok (.iload_n 1, 1) := by decide +kernel
theorem dX8_takesWord_10 : decode cX8_takesWord 10 = .ok (.iconst 1, 1) := by decide +kernel
theorem dX8_takesWord_11 : decode cX8_takesWord 11 = .ok (.if_icmp .ne 28, 3) := by decide +kernel
theorem dX8_takesWord_14 : decode cX8_takesWord 14 = .ok (.aload_n 0, 1) := by decide +kernel
theorem dX8_takesWord_15 : decode cX8_takesWord 15 = .ok (.bipush 48, 2) := by decide +kernel
theorem dX8_takesWord_17 : decode cX8_takesWord 17 = .ok (.bipush 49, 2) := by decide +kernel
theorem dX8_takesWord_19 : decode cX8_takesWord 19 = .ok (.invokevirtual 100, 3) := by decide +kernel
theorem dX8_takesWord_22 : decode cX8_takesWord 22 = .ok (.ifCond .eq 17, 3) := by decide +kernel
theorem dX8_takesWord_25 : decode cX8_takesWord 25 = .ok (.bipush 10, 2) := by decide +kernel
theorem dX8_takesWord_27 : decode cX8_takesWord 27 = .ok (.aload_n 0, 1) := by decide +kernel
theorem dX8_takesWord_28 : decode cX8_takesWord 28 = .ok (.bipush 48, 2) := by decide +kernel
theorem dX8_takesWord_30 : decode cX8_takesWord 30 = .ok (.bipush 49, 2) := by decide +kernel
theorem dX8_takesWord_32 : decode cX8_takesWord 32 = .ok (.invokevirtual 97, 3) := by decide +kernel
theorem dX8_takesWord_35 : decode cX8_takesWord 35 = .ok (.iadd, 1) := by decide +kernel
theorem dX8_takesWord_36 : decode cX8_takesWord 36 = .ok (.goto 4, 3) := by decide +kernel
theorem dX8_takesWord_39 : decode cX8_takesWord 39 = .ok (.iload_n 1, 1) := by decide +kernel
theorem dX8_takesWord_40 : decode cX8_takesWord 40 = .ok (.ireturn, 1) := by decide +kernel
theorem dX8_takesSeconds_0 : decode cX8_takesSeconds 0 = .ok (.iconst 1, 1) := by decide +kernel
theorem dX8_takesSeconds_1 : decode cX8_takesSeconds 1 = .ok (.aload_n 0, 1) := by decide +kernel
theorem dX8_takesSeconds_2 : decode cX8_takesSeconds 2 = .ok (.bipush 49, 2) := by decide +kernel
theorem dX8_takesSeconds_4 : decode cX8_takesSeconds 4 = .ok (.bipush 57, 2) := by decide +kernel
theorem dX8_takesSeconds_6 : decode cX8_takesSeconds 6 = .ok (.invokevirtual 97, 3) := by decide +kernel
theorem dX8_takesSeconds_9 : decode cX8_takesSeconds 9 = .ok (.iadd, 1) := by decide +kernel
theorem dX8_takesSeconds_10 : decode cX8_takesSeconds 10 = .ok (.istore_n 1, 1) := by decide +kernel
theorem dX8_takesSeconds_11 : decode cX8_takesSeconds 11 = .ok (.iload_n 1, 1) := by decide +kernel
theorem dX8_takesSeconds_12 : decode cX8_takesSeconds 12 = .ok (.bipush 6, 2) := by decide +kernel
theorem dX8_takesSeconds_14 : decode cX8_takesSeconds 14 = .ok (.if_icmp .ge 14, 3) := by decide +kernel
theorem dX8_takesSeconds_17 : decode cX8_takesSeconds 17 = .ok (.aload_n 0, 1) := by decide +kernel
theorem dX8_takesSeconds_18 : decode cX8_takesSeconds 18 = .ok (.bipush 48, 2) := by decide +kernel
theorem dX8_takesSeconds_20 : decode cX8_takesSeconds 20 = .ok (.bipush 57, 2) := by decide +kernel
theorem dX8_takesSeconds_22 : decode cX8_takesSeconds 22 = .ok (.invokevirtual 100, 3) := by decide +kernel
theorem dX8_takesSeconds_25 : decode cX8_takesSeconds 25 = .ok (.ifCond .ne 20, 3) := by decide +kernel
theorem dX8_takesSeconds_28 : decode cX8_takesSeconds 28 = .ok (.iload_n 1, 1) := by decide +kernel
theorem dX8_takesSeconds_29 : decode cX8_takesSeconds 29 = .ok (.bipush 6, 2) := by decide +kernel
theorem dX8_takesSeconds_31 : decode cX8_takesSeconds 31 = .ok (.if_icmp .ne 18, 3) := by decide +kernel
theorem dX8_takesSeconds_34 : decode cX8_takesSeconds 34 = .ok (.aload_n 0, 1) := by decide +kernel
theorem dX8_takesSeconds_35 : decode cX8_takesSeconds 35 = .ok (.bipush 48, 2) := by decide +kernel
theorem dX8_takesSeconds_37 : decode cX8_takesSeconds 37 = .ok (.bipush 48, 2) := by decide +kernel
theorem dX8_takesSeconds_39 : decode cX8_takesSeconds 39 = .ok (.invokevirtual 100, 3) := by decide +kernel
theorem dX8_takesSeconds_42 : decode cX8_takesSeconds 42 = .ok (.ifCond .eq 7, 3) := by decide +kernel
theorem dX8_takesSeconds_45 : decode cX8_takesSeconds 45 = .ok (.iconst 1, 1) := by decide +kernel
theorem dX8_takesSeconds_46 : decode cX8_takesSeconds 46 = .ok (.goto 4, 3) := by decide +kernel
theorem dX8_takesSeconds_49 : decode cX8_takesSeconds 49 = .ok (.iconst 0, 1) := by decide +kernel
theorem dX8_takesSeconds_50 : decode cX8_takesSeconds 50 = .ok (.istore_n 2, 1) := by decide +kernel
theorem dX8_takesSeconds_51 : decode cX8_takesSeconds 51 = .ok (.iload_n 2, 1) := by decide +kernel
theorem dX8_takesSeconds_52 : decode cX8_takesSeconds 52 = .ok (.ifCond .eq 19, 3) := by decide +kernel
theorem dX8_takesSeconds_55 : decode cX8_takesSeconds 55 = .ok (.bipush 10, 2) := by decide +kernel
theorem dX8_takesSeconds_57 : decode cX8_takesSeconds 57 = .ok (.iload_n 1, 1) := by decide +kernel
theorem dX8_takesSeconds_58 : decode cX8_takesSeconds 58 = .ok (.imul, 1) := by decide +kernel
theorem dX8_takesSeconds_59 : decode cX8_takesSeconds 59 = .ok (.aload_n 0, 1) := by decide +kernel
theorem dX8_takesSeconds_60 : decode cX8_takesSeconds 60 = .ok (.bipush 48, 2) := by decide +kernel
theorem dX8_takesSeconds_62 : decode cX8_takesSeconds 62 = .ok (.bipush 57, 2) := by decide +kernel
theorem dX8_takesSeconds_64 : decode cX8_takesSeconds 64 = .ok (.invokevirtual 97, 3) := by decide +kernel
theorem dX8_takesSeconds_67 : decode cX8_takesSeconds 67 = .ok (.iadd, 1) := by decide +kernel
theorem dX8_takesSeconds_68 : decode cX8_takesSeconds 68 = .ok (.goto 4, 3) := by decide +kernel
theorem dX8_takesSeconds_71 : decode cX8_takesSeconds 71 = .ok (.iload_n 1, 1) := by decide +kernel
theorem dX8_takesSeconds_72 : decode cX8_takesSeconds 72 = .ok (.ireturn, 1) := by decide +kernel
theorem dX8_reads_0 : decode cX8_reads 0 = .ok (.aload_n 0, 1) := by decide +kernel
theorem dX8_reads_1 : decode cX8_reads 1 = .ok (.iconst 0, 1) := by decide +kernel
theorem dX8_reads_2 : decode cX8_reads 2 = .ok (.putfield 91, 3) := by decide +kernel
theorem dX8_reads_5 : decode cX8_reads 5 = .ok (.aload_n 0, 1) := by decide +kernel
theorem dX8_reads_6 : decode cX8_reads 6 = .ok (.iconst 0, 1) := by decide +kernel
theorem dX8_reads_7 : decode cX8_reads 7 = .ok (.putfield 87, 3) := by decide +kernel
theorem dX8_reads_10 : decode cX8_reads 10 = .ok (.aload_n 0, 1) := by decide +kernel
theorem dX8_reads_11 : decode cX8_reads 11 = .ok (.getfield 26, 3) := by decide +kernel
theorem dX8_reads_14 : decode cX8_reads 14 = .ok (.iconst 0, 1) := by decide +kernel
theorem dX8_reads_15 : decode cX8_reads 15 = .ok (.aload_n 0, 1) := by decide +kernel
theorem dX8_reads_16 : decode cX8_reads 16 = .ok (.bipush 48, 2) := by decide +kernel
theorem dX8_reads_18 : decode cX8_reads 18 = .ok (.bipush 53, 2) := by decide +kernel
theorem dX8_reads_20 : decode cX8_reads 20 = .ok (.invokevirtual 97, 3) := by decide +kernel
theorem dX8_reads_23 : decode cX8_reads 23 = .ok (.iastore, 1) := by decide +kernel
theorem dX8_reads_24 : decode cX8_reads 24 = .ok (.aload_n 0, 1) := by decide +kernel
theorem dX8_reads_25 : decode cX8_reads 25 = .ok (.bipush 58, 2) := by decide +kernel
theorem dX8_reads_27 : decode cX8_reads 27 = .ok (.bipush 58, 2) := by decide +kernel
theorem dX8_reads_29 : decode cX8_reads 29 = .ok (.invokevirtual 97, 3) := by decide +kernel
theorem dX8_reads_32 : decode cX8_reads 32 = .ok (.istore_n 1, 1) := by decide +kernel
theorem dX8_reads_33 : decode cX8_reads 33 = .ok (.aload_n 0, 1) := by decide +kernel
theorem dX8_reads_34 : decode cX8_reads 34 = .ok (.getfield 26, 3) := by decide +kernel
theorem dX8_reads_37 : decode cX8_reads 37 = .ok (.iconst 1, 1) := by decide +kernel
theorem dX8_reads_38 : decode cX8_reads 38 = .ok (.aload_n 0, 1) := by decide +kernel
theorem dX8_reads_39 : decode cX8_reads 39 = .ok (.invokevirtual 112, 3) := by decide +kernel
theorem dX8_reads_42 : decode cX8_reads 42 = .ok (.iastore, 1) := by decide +kernel
theorem dX8_reads_43 : decode cX8_reads 43 = .ok (.aload_n 0, 1) := by decide +kernel
theorem dX8_reads_44 : decode cX8_reads 44 = .ok (.bipush 61, 2) := by decide +kernel
theorem dX8_reads_46 : decode cX8_reads 46 = .ok (.bipush 61, 2) := by decide +kernel
theorem dX8_reads_48 : decode cX8_reads 48 = .ok (.invokevirtual 97, 3) := by decide +kernel
theorem dX8_reads_51 : decode cX8_reads 51 = .ok (.istore_n 1, 1) := by decide +kernel
theorem dX8_reads_52 : decode cX8_reads 52 = .ok (.aload_n 0, 1) := by decide +kernel
theorem dX8_reads_53 : decode cX8_reads 53 = .ok (.getfield 26, 3) := by decide +kernel
theorem dX8_reads_56 : decode cX8_reads 56 = .ok (.iconst 2, 1) := by decide +kernel
theorem dX8_reads_57 : decode cX8_reads 57 = .ok (.aload_n 0, 1) := by decide +kernel
theorem dX8_reads_58 : decode cX8_reads 58 = .ok (.invokevirtual 104, 3) := by decide +kernel
theorem dX8_reads_61 : decode cX8_reads 61 = .ok (.iastore, 1) := by decide +kernel
theorem dX8_reads_62 : decode cX8_reads 62 = .ok (.aload_n 0, 1) := by decide +kernel
theorem dX8_reads_63 : decode cX8_reads 63 = .ok (.bipush 43, 2) := by decide +kernel
theorem dX8_reads_65 : decode cX8_reads 65 = .ok (.bipush 43, 2) := by decide +kernel
theorem dX8_reads_67 : decode cX8_reads 67 = .ok (.invokevirtual 97, 3) := by decide +kernel
theorem dX8_reads_70 : decode cX8_reads 70 = .ok (.istore_n 1, 1) := by decide +kernel
theorem dX8_reads_71 : decode cX8_reads 71 = .ok (.aload_n 0, 1) := by decide +kernel
theorem dX8_reads_72 : decode cX8_reads 72 = .ok (.getfield 26, 3) := by decide +kernel
theorem dX8_reads_75 : decode cX8_reads 75 = .ok (.iconst 3, 1) := by decide +kernel
theorem dX8_reads_76 : decode cX8_reads 76 = .ok (.aload_n 0, 1) := by decide +kernel
theorem dX8_reads_77 : decode cX8_reads 77 = .ok (.invokevirtual 112, 3) := by decide +kernel
theorem dX8_reads_80 : decode cX8_reads 80 = .ok (.iastore, 1) := by decide +kernel
theorem dX8_reads_81 : decode cX8_reads 81 = .ok (.aload_n 0, 1) := by decide +kernel
theorem dX8_reads_82 : decode cX8_reads 82 = .ok (.bipush 61, 2) := by decide +kernel
theorem dX8_reads_84 : decode cX8_reads 84 = .ok (.bipush 61, 2) := by decide +kernel
theorem dX8_reads_86 : decode cX8_reads 86 = .ok (.invokevirtual 97, 3) := by decide +kernel
theorem dX8_reads_89 : decode cX8_reads 89 = .ok (.istore_n 1, 1) := by decide +kernel
theorem dX8_reads_90 : decode cX8_reads 90 = .ok (.aload_n 0, 1) := by decide +kernel
theorem dX8_reads_91 : decode cX8_reads 91 = .ok (.getfield 26, 3) := by decide +kernel
theorem dX8_reads_94 : decode cX8_reads 94 = .ok (.iconst 4, 1) := by decide +kernel
theorem dX8_reads_95 : decode cX8_reads 95 = .ok (.aload_n 0, 1) := by decide +kernel
theorem dX8_reads_96 : decode cX8_reads 96 = .ok (.invokevirtual 104, 3) := by decide +kernel
theorem dX8_reads_99 : decode cX8_reads 99 = .ok (.iastore, 1) := by decide +kernel
theorem dX8_reads_100 : decode cX8_reads 100 = .ok (.aload_n 0, 1) := by decide +kernel
theorem dX8_reads_101 : decode cX8_reads 101 = .ok (.bipush 64, 2) := by decide +kernel
theorem dX8_reads_103 : decode cX8_reads 103 = .ok (.bipush 64, 2) := by decide +kernel
theorem dX8_reads_105 : decode cX8_reads 105 = .ok (.invokevirtual 97, 3) := by decide +kernel
theorem dX8_reads_108 : decode cX8_reads 108 = .ok (.istore_n 1, 1) := by decide +kernel
theorem dX8_reads_109 : decode cX8_reads 109 = .ok (.aload_n 0, 1) := by decide +kernel
theorem dX8_reads_110 : decode cX8_reads 110 = .ok (.getfield 26, 3) := by decide +kernel
theorem dX8_reads_113 : decode cX8_reads 113 = .ok (.iconst 5, 1) := by decide +kernel
theorem dX8_reads_114 : decode cX8_reads 114 = .ok (.aload_n 0, 1) := by decide +kernel
theorem dX8_reads_115 : decode cX8_reads 115 = .ok (.invokevirtual 115, 3) := by decide +kernel
theorem dX8_reads_118 : decode cX8_reads 118 = .ok (.iastore, 1) := by decide +kernel
theorem dX8_reads_119 : decode cX8_reads 119 = .ok (.aload_n 0, 1) := by decide +kernel
theorem dX8_reads_120 : decode cX8_reads 120 = .ok (.aload_n 0, 1) := by decide +kernel
theorem dX8_reads_121 : decode cX8_reads 121 = .ok (.getfield 87, 3) := by decide +kernel
theorem dX8_reads_124 : decode cX8_reads 124 = .ok (.ifCond .ne 14, 3) := by decide +kernel
theorem dX8_reads_127 : decode cX8_reads 127 = .ok (.aload_n 0, 1) := by decide +kernel
theorem dX8_reads_128 : decode cX8_reads 128 = .ok (.getfield 91, 3) := by decide +kernel
theorem dX8_reads_131 : decode cX8_reads 131 = .ok (.aload_n 0, 1) := by decide +kernel
theorem dX8_reads_132 : decode cX8_reads 132 = .ok (.getfield 94, 3) := by decide +kernel
theorem dX8_reads_135 : decode cX8_reads 135 = .ok (.if_icmp .ge 7, 3) := by decide +kernel
theorem dX8_reads_138 : decode cX8_reads 138 = .ok (.iconst 1, 1) := by decide +kernel
theorem dX8_reads_139 : decode cX8_reads 139 = .ok (.goto 4, 3) := by decide +kernel
theorem dX8_reads_142 : decode cX8_reads 142 = .ok (.iconst 0, 1) := by decide +kernel
theorem dX8_reads_143 : decode cX8_reads 143 = .ok (.putfield 87, 3) := by decide +kernel
theorem dX8_reads_146 : decode cX8_reads 146 = .ok (.return_, 1) := by decide +kernel
theorem dX8_fault_0 : decode cX8_fault 0 = .ok (.aload_n 0, 1) := by decide +kernel
theorem dX8_fault_1 : decode cX8_fault 1 = .ok (.invokevirtual 118, 3) := by decide +kernel
theorem dX8_fault_4 : decode cX8_fault 4 = .ok (.aload_n 0, 1) := by decide +kernel
theorem dX8_fault_5 : decode cX8_fault 5 = .ok (.getfield 87, 3) := by decide +kernel
theorem dX8_fault_8 : decode cX8_fault 8 = .ok (.ifCond .eq 10, 3) := by decide +kernel
theorem dX8_fault_11 : decode cX8_fault 11 = .ok (.aload_n 0, 1) := by decide +kernel
theorem dX8_fault_12 : decode cX8_fault 12 = .ok (.getfield 91, 3) := by decide +kernel
theorem dX8_fault_15 : decode cX8_fault 15 = .ok (.goto 5, 3) := by decide +kernel
theorem dX8_fault_18 : decode cX8_fault 18 = .ok (.bipush (-6), 2) := by decide +kernel
theorem dX8_fault_20 : decode cX8_fault 20 = .ok (.ireturn, 1) := by decide +kernel
theorem dX8_answers_0 : decode cX8_answers 0 = .ok (.aload_n 0, 1) := by decide +kernel
theorem dX8_answers_1 : decode cX8_answers 1 = .ok (.getfield 26, 3) := by decide +kernel
theorem dX8_answers_4 : decode cX8_answers 4 = .ok (.iconst 0, 1) := by decide +kernel
theorem dX8_answers_5 : decode cX8_answers 5 = .ok (.iaload, 1) := by decide +kernel
theorem dX8_answers_6 : decode cX8_answers 6 = .ok (.istore_n 1, 1) := by decide +kernel
theorem dX8_answers_7 : decode cX8_answers 7 = .ok (.aload_n 0, 1) := by decide +kernel
theorem dX8_answers_8 : decode cX8_answers 8 = .ok (.getfield 7, 3) := by decide +kernel
theorem dX8_answers_11 : decode cX8_answers 11 = .ok (.iload_n 1, 1) := by decide +kernel
theorem dX8_answers_12 : decode cX8_answers 12 = .ok (.iconst 0, 1) := by decide +kernel
theorem dX8_answers_13 : decode cX8_answers 13 = .ok (.invokestatic 29, 3) := by decide +kernel
theorem dX8_answers_16 : decode cX8_answers 16 = .ok (.iaload, 1) := by decide +kernel
theorem dX8_answers_17 : decode cX8_answers 17 = .ok (.istore_n 2, 1) := by decide +kernel
theorem dX8_answers_18 : decode cX8_answers 18 = .ok (.aload_n 0, 1) := by decide +kernel
theorem dX8_answers_19 : decode cX8_answers 19 = .ok (.getfield 7, 3) := by decide +kernel
theorem dX8_answers_22 : decode cX8_answers 22 = .ok (.aload_n 0, 1) := by decide +kernel
theorem dX8_answers_23 : decode cX8_answers 23 = .ok (.getfield 26, 3) := by decide +kernel
theorem dX8_answers_26 : decode cX8_answers 26 = .ok (.iconst 1, 1) := by decide +kernel
theorem dX8_answers_27 : decode cX8_answers 27 = .ok (.iaload, 1) := by decide +kernel
theorem dX8_answers_28 : decode cX8_answers 28 = .ok (.iconst 2, 1) := by decide +kernel
theorem dX8_answers_29 : decode cX8_answers 29 = .ok (.invokestatic 37, 3) := by decide +kernel
theorem dX8_answers_32 : decode cX8_answers 32 = .ok (.iaload, 1) := by decide +kernel
theorem dX8_answers_33 : decode cX8_answers 33 = .ok (.aload_n 0, 1) := by decide +kernel
theorem dX8_answers_34 : decode cX8_answers 34 = .ok (.getfield 26, 3) := by decide +kernel
theorem dX8_answers_37 : decode cX8_answers 37 = .ok (.iconst 2, 1) := by decide +kernel
theorem dX8_answers_38 : decode cX8_answers 38 = .ok (.iaload, 1) := by decide +kernel
theorem dX8_answers_39 : decode cX8_answers 39 = .ok (.if_icmp .ne 7, 3) := by decide +kernel
theorem dX8_answers_42 : decode cX8_answers 42 = .ok (.iconst 1, 1) := by decide +kernel
theorem dX8_answers_43 : decode cX8_answers 43 = .ok (.goto 4, 3) := by decide +kernel
theorem dX8_answers_46 : decode cX8_answers 46 = .ok (.iconst 0, 1) := by decide +kernel
theorem dX8_answers_47 : decode cX8_answers 47 = .ok (.istore_n 3, 1) := by decide +kernel
theorem dX8_answers_48 : decode cX8_answers 48 = .ok (.aload_n 0, 1) := by decide +kernel
theorem dX8_answers_49 : decode cX8_answers 49 = .ok (.getfield 7, 3) := by decide +kernel
theorem dX8_answers_52 : decode cX8_answers 52 = .ok (.bipush 7, 2) := by decide +kernel
theorem dX8_answers_54 : decode cX8_answers 54 = .ok (.dup2, 1) := by decide +kernel
theorem dX8_answers_55 : decode cX8_answers 55 = .ok (.iaload, 1) := by decide +kernel
theorem dX8_answers_56 : decode cX8_answers 56 = .ok (.iconst 1, 1) := by decide +kernel
theorem dX8_answers_57 : decode cX8_answers 57 = .ok (.iadd, 1) := by decide +kernel
theorem dX8_answers_58 : decode cX8_answers 58 = .ok (.iastore, 1) := by decide +kernel
theorem dX8_answers_59 : decode cX8_answers 59 = .ok (.aload_n 0, 1) := by decide +kernel
theorem dX8_answers_60 : decode cX8_answers 60 = .ok (.getfield 7, 3) := by decide +kernel
theorem dX8_answers_63 : decode cX8_answers 63 = .ok (.iload_n 1, 1) := by decide +kernel
theorem dX8_answers_64 : decode cX8_answers 64 = .ok (.iconst 1, 1) := by decide +kernel
theorem dX8_answers_65 : decode cX8_answers 65 = .ok (.invokestatic 29, 3) := by decide +kernel
theorem dX8_answers_68 : decode cX8_answers 68 = .ok (.dup2, 1) := by decide +kernel
theorem dX8_answers_69 : decode cX8_answers 69 = .ok (.iaload, 1) := by decide +kernel
theorem dX8_answers_70 : decode cX8_answers 70 = .ok (.iconst 1, 1) := by decide +kernel
theorem dX8_answers_71 : decode cX8_answers 71 = .ok (.iadd, 1) := by decide +kernel
theorem dX8_answers_72 : decode cX8_answers 72 = .ok (.iastore, 1) := by decide +kernel
theorem dX8_answers_73 : decode cX8_answers 73 = .ok (.aload_n 0, 1) := by decide +kernel
theorem dX8_answers_74 : decode cX8_answers 74 = .ok (.getfield 7, 3) := by decide +kernel
theorem dX8_answers_77 : decode cX8_answers 77 = .ok (.iload_n 1, 1) := by decide +kernel
theorem dX8_answers_78 : decode cX8_answers 78 = .ok (.iconst 3, 1) := by decide +kernel
theorem dX8_answers_79 : decode cX8_answers 79 = .ok (.invokestatic 29, 3) := by decide +kernel
theorem dX8_answers_82 : decode cX8_answers 82 = .ok (.dup2, 1) := by decide +kernel
theorem dX8_answers_83 : decode cX8_answers 83 = .ok (.iaload, 1) := by decide +kernel
theorem dX8_answers_84 : decode cX8_answers 84 = .ok (.aload_n 0, 1) := by decide +kernel
theorem dX8_answers_85 : decode cX8_answers 85 = .ok (.getfield 26, 3) := by decide +kernel
theorem dX8_answers_88 : decode cX8_answers 88 = .ok (.iconst 5, 1) := by decide +kernel
theorem dX8_answers_89 : decode cX8_answers 89 = .ok (.iaload, 1) := by decide +kernel
theorem dX8_answers_90 : decode cX8_answers 90 = .ok (.iadd, 1) := by decide +kernel
theorem dX8_answers_91 : decode cX8_answers 91 = .ok (.iastore, 1) := by decide +kernel
theorem dX8_answers_92 : decode cX8_answers 92 = .ok (.iload_n 3, 1) := by decide +kernel
theorem dX8_answers_93 : decode cX8_answers 93 = .ok (.ifCond .eq 90, 3) := by decide +kernel
theorem dX8_answers_96 : decode cX8_answers 96 = .ok (.aload_n 0, 1) := by decide +kernel
theorem dX8_answers_97 : decode cX8_answers 97 = .ok (.getfield 7, 3) := by decide +kernel
theorem dX8_answers_100 : decode cX8_answers 100 = .ok (.bipush 8, 2) := by decide +kernel
theorem dX8_answers_102 : decode cX8_answers 102 = .ok (.dup2, 1) := by decide +kernel
theorem dX8_answers_103 : decode cX8_answers 103 = .ok (.iaload, 1) := by decide +kernel
theorem dX8_answers_104 : decode cX8_answers 104 = .ok (.iconst 1, 1) := by decide +kernel
theorem dX8_answers_105 : decode cX8_answers 105 = .ok (.iadd, 1) := by decide +kernel
theorem dX8_answers_106 : decode cX8_answers 106 = .ok (.iastore, 1) := by decide +kernel
theorem dX8_answers_107 : decode cX8_answers 107 = .ok (.aload_n 0, 1) := by decide +kernel
theorem dX8_answers_108 : decode cX8_answers 108 = .ok (.getfield 7, 3) := by decide +kernel
theorem dX8_answers_111 : decode cX8_answers 111 = .ok (.iload_n 1, 1) := by decide +kernel
theorem dX8_answers_112 : decode cX8_answers 112 = .ok (.iconst 2, 1) := by decide +kernel
theorem dX8_answers_113 : decode cX8_answers 113 = .ok (.invokestatic 29, 3) := by decide +kernel
theorem dX8_answers_116 : decode cX8_answers 116 = .ok (.dup2, 1) := by decide +kernel
theorem dX8_answers_117 : decode cX8_answers 117 = .ok (.iaload, 1) := by decide +kernel
theorem dX8_answers_118 : decode cX8_answers 118 = .ok (.iconst 1, 1) := by decide +kernel
theorem dX8_answers_119 : decode cX8_answers 119 = .ok (.iadd, 1) := by decide +kernel
theorem dX8_answers_120 : decode cX8_answers 120 = .ok (.iastore, 1) := by decide +kernel
theorem dX8_answers_121 : decode cX8_answers 121 = .ok (.aload_n 0, 1) := by decide +kernel
theorem dX8_answers_122 : decode cX8_answers 122 = .ok (.aload_n 0, 1) := by decide +kernel
theorem dX8_answers_123 : decode cX8_answers 123 = .ok (.getfield 26, 3) := by decide +kernel
theorem dX8_answers_126 : decode cX8_answers 126 = .ok (.iconst 3, 1) := by decide +kernel
theorem dX8_answers_127 : decode cX8_answers 127 = .ok (.iaload, 1) := by decide +kernel
theorem dX8_answers_128 : decode cX8_answers 128 = .ok (.aload_n 0, 1) := by decide +kernel
theorem dX8_answers_129 : decode cX8_answers 129 = .ok (.getfield 26, 3) := by decide +kernel
theorem dX8_answers_132 : decode cX8_answers 132 = .ok (.iconst 4, 1) := by decide +kernel
theorem dX8_answers_133 : decode cX8_answers 133 = .ok (.iaload, 1) := by decide +kernel
theorem dX8_answers_134 : decode cX8_answers 134 = .ok (.iload_n 2, 1) := by decide +kernel
theorem dX8_answers_135 : decode cX8_answers 135 = .ok (.aload_n 0, 1) := by decide +kernel
theorem dX8_answers_136 : decode cX8_answers 136 = .ok (.getfield 26, 3) := by decide +kernel
theorem dX8_answers_139 : decode cX8_answers 139 = .ok (.iconst 5, 1) := by decide +kernel
theorem dX8_answers_140 : decode cX8_answers 140 = .ok (.iaload, 1) := by decide +kernel
theorem dX8_answers_141 : decode cX8_answers 141 = .ok (.invokevirtual 121, 3) := by decide +kernel
theorem dX8_answers_144 : decode cX8_answers 144 = .ok (.aload_n 0, 1) := by decide +kernel
theorem dX8_answers_145 : decode cX8_answers 145 = .ok (.getfield 7, 3) := by decide +kernel
theorem dX8_answers_148 : decode cX8_answers 148 = .ok (.iload_n 1, 1) := by decide +kernel
theorem dX8_answers_149 : decode cX8_answers 149 = .ok (.iconst 0, 1) := by decide +kernel
theorem dX8_answers_150 : decode cX8_answers 150 = .ok (.invokestatic 29, 3) := by decide +kernel
theorem dX8_answers_153 : decode cX8_answers 153 = .ok (.iload_n 2, 1) := by decide +kernel
theorem dX8_answers_154 : decode cX8_answers 154 = .ok (.aload_n 0, 1) := by decide +kernel
theorem dX8_answers_155 : decode cX8_answers 155 = .ok (.getfield 7, 3) := by decide +kernel
theorem dX8_answers_158 : decode cX8_answers 158 = .ok (.iconst 4, 1) := by decide +kernel
theorem dX8_answers_159 : decode cX8_answers 159 = .ok (.iaload, 1) := by decide +kernel
theorem dX8_answers_160 : decode cX8_answers 160 = .ok (.iadd, 1) := by decide +kernel
theorem dX8_answers_161 : decode cX8_answers 161 = .ok (.bipush 100, 2) := by decide +kernel
theorem dX8_answers_163 : decode cX8_answers 163 = .ok (.if_icmp .le 8, 3) := by decide +kernel
theorem dX8_answers_166 : decode cX8_answers 166 = .ok (.bipush 100, 2) := by decide +kernel
theorem dX8_answers_168 : decode cX8_answers 168 = .ok (.goto 11, 3) := by decide +kernel
theorem dX8_answers_171 : decode cX8_answers 171 = .ok (.iload_n 2, 1) := by decide +kernel
theorem dX8_answers_172 : decode cX8_answers 172 = .ok (.aload_n 0, 1) := by decide +kernel
theorem dX8_answers_173 : decode cX8_answers 173 = .ok (.getfield 7, 3) := by decide +kernel
theorem dX8_answers_176 : decode cX8_answers 176 = .ok (.iconst 4, 1) := by decide +kernel
theorem dX8_answers_177 : decode cX8_answers 177 = .ok (.iaload, 1) := by decide +kernel
theorem dX8_answers_178 : decode cX8_answers 178 = .ok (.iadd, 1) := by decide +kernel
theorem dX8_answers_179 : decode cX8_answers 179 = .ok (.iastore, 1) := by decide +kernel
theorem dX8_answers_180 : decode cX8_answers 180 = .ok (.goto 54, 3) := by decide +kernel
theorem dX8_answers_183 : decode cX8_answers 183 = .ok (.aload_n 0, 1) := by decide +kernel
theorem dX8_answers_184 : decode cX8_answers 184 = .ok (.getfield 7, 3) := by decide +kernel
theorem dX8_answers_187 : decode cX8_answers 187 = .ok (.aload_n 0, 1) := by decide +kernel
theorem dX8_answers_188 : decode cX8_answers 188 = .ok (.getfield 26, 3) := by decide +kernel
theorem dX8_answers_191 : decode cX8_answers 191 = .ok (.iconst 1, 1) := by decide +kernel
theorem dX8_answers_192 : decode cX8_answers 192 = .ok (.iaload, 1) := by decide +kernel
theorem dX8_answers_193 : decode cX8_answers 193 = .ok (.iconst 3, 1) := by decide +kernel
theorem dX8_answers_194 : decode cX8_answers 194 = .ok (.invokestatic 37, 3) := by decide +kernel
theorem dX8_answers_197 : decode cX8_answers 197 = .ok (.dup2, 1) := by decide +kernel
theorem dX8_answers_198 : decode cX8_answers 198 = .ok (.iaload, 1) := by decide +kernel
theorem dX8_answers_199 : decode cX8_answers 199 = .ok (.iconst 1, 1) := by decide +kernel
theorem dX8_answers_200 : decode cX8_answers 200 = .ok (.iadd, 1) := by decide +kernel
theorem dX8_answers_201 : decode cX8_answers 201 = .ok (.iastore, 1) := by decide +kernel
theorem dX8_answers_202 : decode cX8_answers 202 = .ok (.aload_n 0, 1) := by decide +kernel
theorem dX8_answers_203 : decode cX8_answers 203 = .ok (.getfield 7, 3) := by decide +kernel
theorem dX8_answers_206 : decode cX8_answers 206 = .ok (.iload_n 1, 1) := by decide +kernel
theorem dX8_answers_207 : decode cX8_answers 207 = .ok (.iconst 0, 1) := by decide +kernel
theorem dX8_answers_208 : decode cX8_answers 208 = .ok (.invokestatic 29, 3) := by decide +kernel
theorem dX8_answers_211 : decode cX8_answers 211 = .ok (.iload_n 2, 1) := by decide +kernel
theorem dX8_answers_212 : decode cX8_answers 212 = .ok (.aload_n 0, 1) := by decide +kernel
theorem dX8_answers_213 : decode cX8_answers 213 = .ok (.getfield 7, 3) := by decide +kernel
theorem dX8_answers_216 : decode cX8_answers 216 = .ok (.iconst 5, 1) := by decide +kernel
theorem dX8_answers_217 : decode cX8_answers 217 = .ok (.iaload, 1) := by decide +kernel
theorem dX8_answers_218 : decode cX8_answers 218 = .ok (.if_icmp .ge 7, 3) := by decide +kernel
theorem dX8_answers_221 : decode cX8_answers 221 = .ok (.iconst 0, 1) := by decide +kernel
theorem dX8_answers_222 : decode cX8_answers 222 = .ok (.goto 11, 3) := by decide +kernel
theorem dX8_answers_225 : decode cX8_answers 225 = .ok (.iload_n 2, 1) := by decide +kernel
theorem dX8_answers_226 : decode cX8_answers 226 = .ok (.aload_n 0, 1) := by decide +kernel
theorem dX8_answers_227 : decode cX8_answers 227 = .ok (.getfield 7, 3) := by decide +kernel
theorem dX8_answers_230 : decode cX8_answers 230 = .ok (.iconst 5, 1) := by decide +kernel
theorem dX8_answers_231 : decode cX8_answers 231 = .ok (.iaload, 1) := by decide +kernel
theorem dX8_answers_232 : decode cX8_answers 232 = .ok (.isub, 1) := by decide +kernel
theorem dX8_answers_233 : decode cX8_answers 233 = .ok (.iastore, 1) := by decide +kernel
theorem dX8_answers_234 : decode cX8_answers 234 = .ok (.aload_n 0, 1) := by decide +kernel
theorem dX8_answers_235 : decode cX8_answers 235 = .ok (.getfield 7, 3) := by decide +kernel
theorem dX8_answers_238 : decode cX8_answers 238 = .ok (.aload_n 0, 1) := by decide +kernel
theorem dX8_answers_239 : decode cX8_answers 239 = .ok (.getfield 26, 3) := by decide +kernel
theorem dX8_answers_242 : decode cX8_answers 242 = .ok (.iconst 3, 1) := by decide +kernel
theorem dX8_answers_243 : decode cX8_answers 243 = .ok (.iaload, 1) := by decide +kernel
theorem dX8_answers_244 : decode cX8_answers 244 = .ok (.iconst 0, 1) := by decide +kernel
theorem dX8_answers_245 : decode cX8_answers 245 = .ok (.invokestatic 37, 3) := by decide +kernel
theorem dX8_answers_248 : decode cX8_answers 248 = .ok (.iaload, 1) := by decide +kernel
theorem dX8_answers_249 : decode cX8_answers 249 = .ok (.ireturn, 1) := by decide +kernel
theorem dX8_answer_0 : decode cX8_answer 0 = .ok (.aload_n 0, 1) := by decide +kernel
theorem dX8_answer_1 : decode cX8_answer 1 = .ok (.invokevirtual 118, 3) := by decide +kernel
theorem dX8_answer_4 : decode cX8_answer 4 = .ok (.aload_n 0, 1) := by decide +kernel
theorem dX8_answer_5 : decode cX8_answer 5 = .ok (.getfield 87, 3) := by decide +kernel
theorem dX8_answer_8 : decode cX8_answer 8 = .ok (.ifCond .eq 6, 3) := by decide +kernel
theorem dX8_answer_11 : decode cX8_answer 11 = .ok (.bipush (-3), 2) := by decide +kernel
theorem dX8_answer_13 : decode cX8_answer 13 = .ok (.ireturn, 1) := by decide +kernel
theorem dX8_answer_14 : decode cX8_answer 14 = .ok (.aload_n 0, 1) := by decide +kernel
theorem dX8_answer_15 : decode cX8_answer 15 = .ok (.aload_n 0, 1) := by decide +kernel
theorem dX8_answer_16 : decode cX8_answer 16 = .ok (.getfield 26, 3) := by decide +kernel
theorem dX8_answer_19 : decode cX8_answer 19 = .ok (.iconst 1, 1) := by decide +kernel
theorem dX8_answer_20 : decode cX8_answer 20 = .ok (.iaload, 1) := by decide +kernel
theorem dX8_answer_21 : decode cX8_answer 21 = .ok (.invokevirtual 125, 3) := by decide +kernel
theorem dX8_answer_24 : decode cX8_answer 24 = .ok (.ifCond .eq 16, 3) := by decide +kernel
theorem dX8_answer_27 : decode cX8_answer 27 = .ok (.aload_n 0, 1) := by decide +kernel
theorem dX8_answer_28 : decode cX8_answer 28 = .ok (.aload_n 0, 1) := by decide +kernel
theorem dX8_answer_29 : decode cX8_answer 29 = .ok (.getfield 26, 3) := by decide +kernel
theorem dX8_answer_32 : decode cX8_answer 32 = .ok (.iconst 3, 1) := by decide +kernel
theorem dX8_answer_33 : decode cX8_answer 33 = .ok (.iaload, 1) := by decide +kernel
theorem dX8_answer_34 : decode cX8_answer 34 = .ok (.invokevirtual 125, 3) := by decide +kernel
theorem dX8_answer_37 : decode cX8_answer 37 = .ok (.ifCond .ne 5, 3) := by decide +kernel
theorem dX8_answer_40 : decode cX8_answer 40 = .ok (.iconst (-1), 1) := by decide +kernel
theorem dX8_answer_41 : decode cX8_answer 41 = .ok (.ireturn, 1) := by decide +kernel
theorem dX8_answer_42 : decode cX8_answer 42 = .ok (.aload_n 0, 1) := by decide +kernel
theorem dX8_answer_43 : decode cX8_answer 43 = .ok (.aload_n 0, 1) := by decide +kernel
theorem dX8_answer_44 : decode cX8_answer 44 = .ok (.getfield 26, 3) := by decide +kernel
theorem dX8_answer_47 : decode cX8_answer 47 = .ok (.iconst 1, 1) := by decide +kernel
theorem dX8_answer_48 : decode cX8_answer 48 = .ok (.iaload, 1) := by decide +kernel
theorem dX8_answer_49 : decode cX8_answer 49 = .ok (.iconst 0, 1) := by decide +kernel
theorem dX8_answer_50 : decode cX8_answer 50 = .ok (.invokevirtual 129, 3) := by decide +kernel
theorem dX8_answer_53 : decode cX8_answer 53 = .ok (.ifCond .ne 17, 3) := by decide +kernel
theorem dX8_answer_56 : decode cX8_answer 56 = .ok (.aload_n 0, 1) := by decide +kernel
theorem dX8_answer_57 : decode cX8_answer 57 = .ok (.aload_n 0, 1) := by decide +kernel
theorem dX8_answer_58 : decode cX8_answer 58 = .ok (.getfield 26, 3) := by decide +kernel
theorem dX8_answer_61 : decode cX8_answer 61 = .ok (.iconst 1, 1) := by decide +kernel
theorem dX8_answer_62 : decode cX8_answer 62 = .ok (.iaload, 1) := by decide +kernel
theorem dX8_answer_63 : decode cX8_answer 63 = .ok (.iconst 2, 1) := by decide +kernel
theorem dX8_answer_64 : decode cX8_answer 64 = .ok (.invokevirtual 129, 3) := by decide +kernel
theorem dX8_answer_67 : decode cX8_answer 67 = .ok (.ifCond .eq 17, 3) := by decide +kernel
theorem dX8_answer_70 : decode cX8_answer 70 = .ok (.aload_n 0, 1) := by decide +kernel
theorem dX8_answer_71 : decode cX8_answer 71 = .ok (.aload_n 0, 1) := by decide +kernel
theorem dX8_answer_72 : decode cX8_answer 72 = .ok (.getfield 26, 3) := by decide +kernel
theorem dX8_answer_75 : decode cX8_answer 75 = .ok (.iconst 3, 1) := by decide +kernel
theorem dX8_answer_76 : decode cX8_answer 76 = .ok (.iaload, 1) := by decide +kernel
theorem dX8_answer_77 : decode cX8_answer 77 = .ok (.iconst 1, 1) := by decide +kernel
theorem dX8_answer_78 : decode cX8_answer 78 = .ok (.invokevirtual 129, 3) := by decide +kernel
theorem dX8_answer_81 : decode cX8_answer 81 = .ok (.ifCond .ne 6, 3) := by decide +kernel
theorem dX8_answer_84 : decode cX8_answer 84 = .ok (.bipush (-5), 2) := by decide +kernel
theorem dX8_answer_86 : decode cX8_answer 86 = .ok (.ireturn, 1) := by decide +kernel
theorem dX8_answer_87 : decode cX8_answer 87 = .ok (.aload_n 0, 1) := by decide +kernel
theorem dX8_answer_88 : decode cX8_answer 88 = .ok (.invokevirtual 75, 3) := by decide +kernel
theorem dX8_answer_91 : decode cX8_answer 91 = .ok (.aload_n 0, 1) := by decide +kernel
theorem dX8_answer_92 : decode cX8_answer 92 = .ok (.iconst 0, 1) := by decide +kernel
theorem dX8_answer_93 : decode cX8_answer 93 = .ok (.putfield 94, 3) := by decide +kernel
theorem dX8_answer_96 : decode cX8_answer 96 = .ok (.aload_n 0, 1) := by decide +kernel
theorem dX8_answer_97 : decode cX8_answer 97 = .ok (.invokevirtual 132, 3) := by decide +kernel
theorem dX8_answer_100 : decode cX8_answer 100 = .ok (.ireturn, 1) := by decide +kernel
theorem dX8_bend_0 : decode cX8_bend 0 = .ok (.aload_n 0, 1) := by decide +kernel
theorem dX8_bend_1 : decode cX8_bend 1 = .ok (.iload_n 1, 1) := by decide +kernel
theorem dX8_bend_2 : decode cX8_bend 2 = .ok (.invokevirtual 125, 3) := by decide +kernel
theorem dX8_bend_5 : decode cX8_bend 5 = .ok (.ifCond .ne 5, 3) := by decide +kernel
theorem dX8_bend_8 : decode cX8_bend 8 = .ok (.iconst (-1), 1) := by decide +kernel
theorem dX8_bend_9 : decode cX8_bend 9 = .ok (.ireturn, 1) := by decide +kernel
theorem dX8_bend_10 : decode cX8_bend 10 = .ok (.iload_n 2, 1) := by decide +kernel
theorem dX8_bend_11 : decode cX8_bend 11 = .ok (.iconst 0, 1) := by decide +kernel
theorem dX8_bend_12 : decode cX8_bend 12 = .ok (.bipush 9, 2) := by decide +kernel
theorem dX8_bend_14 : decode cX8_bend 14 = .ok (.invokestatic 33, 3) := by decide +kernel
theorem dX8_bend_17 : decode cX8_bend 17 = .ok (.ifCond .ne 6, 3) := by decide +kernel
theorem dX8_bend_20 : decode cX8_bend 20 = .ok (.bipush (-2), 2) := by decide +kernel
theorem dX8_bend_22 : decode cX8_bend 22 = .ok (.ireturn, 1) := by decide +kernel
theorem dX8_bend_23 : decode cX8_bend 23 = .ok (.aload_n 0, 1) := by decide +kernel
theorem dX8_bend_24 : decode cX8_bend 24 = .ok (.getfield 7, 3) := by decide +kernel
theorem dX8_bend_27 : decode cX8_bend 27 = .ok (.iload_n 1, 1) := by decide +kernel
theorem dX8_bend_28 : decode cX8_bend 28 = .ok (.iconst 0, 1) := by decide +kernel
theorem dX8_bend_29 : decode cX8_bend 29 = .ok (.invokestatic 37, 3) := by decide +kernel
theorem dX8_bend_32 : decode cX8_bend 32 = .ok (.iaload, 1) := by decide +kernel
theorem dX8_bend_33 : decode cX8_bend 33 = .ok (.istore_n 3, 1) := by decide +kernel
theorem dX8_bend_34 : decode cX8_bend 34 = .ok (.iload_n 3, 1) := by decide +kernel
theorem dX8_bend_35 : decode cX8_bend 35 = .ok (.ifCond .ne 6, 3) := by decide +kernel
theorem dX8_bend_38 : decode cX8_bend 38 = .ok (.bipush (-5), 2) := by decide +kernel
theorem dX8_bend_40 : decode cX8_bend 40 = .ok (.ireturn, 1) := by decide +kernel
theorem dX8_bend_41 : decode cX8_bend 41 = .ok (.aload_n 0, 1) := by decide +kernel
theorem dX8_bend_42 : decode cX8_bend 42 = .ok (.invokevirtual 75, 3) := by decide +kernel
theorem dX8_bend_45 : decode cX8_bend 45 = .ok (.aload_n 0, 1) := by decide +kernel
theorem dX8_bend_46 : decode cX8_bend 46 = .ok (.iload_n 1, 1) := by decide +kernel
theorem dX8_bend_47 : decode cX8_bend 47 = .ok (.iconst 0, 1) := by decide +kernel
theorem dX8_bend_48 : decode cX8_bend 48 = .ok (.invokevirtual 135, 3) := by decide +kernel
theorem dX8_bend_51 : decode cX8_bend 51 = .ok (.iconst 0, 1) := by decide +kernel
theorem dX8_bend_52 : decode cX8_bend 52 = .ok (.istore 4, 2) := by decide +kernel
theorem dX8_bend_54 : decode cX8_bend 54 = .ok (.iload 4, 2) := by decide +kernel
theorem dX8_bend_56 : decode cX8_bend 56 = .ok (.bipush 6, 2) := by decide +kernel
theorem dX8_bend_58 : decode cX8_bend 58 = .ok (.if_icmp .ge 21, 3) := by decide +kernel
theorem dX8_bend_61 : decode cX8_bend 61 = .ok (.aload_n 0, 1) := by decide +kernel
theorem dX8_bend_62 : decode cX8_bend 62 = .ok (.getfield 7, 3) := by decide +kernel
theorem dX8_bend_65 : decode cX8_bend 65 = .ok (.iload_n 1, 1) := by decide +kernel
theorem dX8_bend_66 : decode cX8_bend 66 = .ok (.iload 4, 2) := by decide +kernel
theorem dX8_bend_68 : decode cX8_bend 68 = .ok (.invokestatic 37, 3) := by decide +kernel
theorem dX8_bend_71 : decode cX8_bend 71 = .ok (.iconst 0, 1) := by decide +kernel
theorem dX8_bend_72 : decode cX8_bend 72 = .ok (.iastore, 1) := by decide +kernel
theorem dX8_bend_73 : decode cX8_bend 73 = .ok (.iinc 4 1, 3) := by decide +kernel
theorem dX8_bend_76 : decode cX8_bend 76 = .ok (.goto (-22), 3) := by decide +kernel
theorem dX8_bend_79 : decode cX8_bend 79 = .ok (.aload_n 0, 1) := by decide +kernel
theorem dX8_bend_80 : decode cX8_bend 80 = .ok (.getfield 7, 3) := by decide +kernel
theorem dX8_bend_83 : decode cX8_bend 83 = .ok (.iload_n 1, 1) := by decide +kernel
theorem dX8_bend_84 : decode cX8_bend 84 = .ok (.iconst 0, 1) := by decide +kernel
theorem dX8_bend_85 : decode cX8_bend 85 = .ok (.invokestatic 37, 3) := by decide +kernel
theorem dX8_bend_88 : decode cX8_bend 88 = .ok (.iconst 1, 1) := by decide +kernel
theorem dX8_bend_89 : decode cX8_bend 89 = .ok (.iastore, 1) := by decide +kernel
theorem dX8_bend_90 : decode cX8_bend 90 = .ok (.aload_n 0, 1) := by decide +kernel
theorem dX8_bend_91 : decode cX8_bend 91 = .ok (.getfield 7, 3) := by decide +kernel
theorem dX8_bend_94 : decode cX8_bend 94 = .ok (.iload_n 1, 1) := by decide +kernel
theorem dX8_bend_95 : decode cX8_bend 95 = .ok (.iconst 1, 1) := by decide +kernel
theorem dX8_bend_96 : decode cX8_bend 96 = .ok (.invokestatic 37, 3) := by decide +kernel
theorem dX8_bend_99 : decode cX8_bend 99 = .ok (.iload_n 2, 1) := by decide +kernel
theorem dX8_bend_100 : decode cX8_bend 100 = .ok (.iastore, 1) := by decide +kernel
theorem dX8_bend_101 : decode cX8_bend 101 = .ok (.iload_n 3, 1) := by decide +kernel
theorem dX8_bend_102 : decode cX8_bend 102 = .ok (.ireturn, 1) := by decide +kernel
theorem dX8_drop_0 : decode cX8_drop 0 = .ok (.aload_n 0, 1) := by decide +kernel
theorem dX8_drop_1 : decode cX8_drop 1 = .ok (.iload_n 1, 1) := by decide +kernel
theorem dX8_drop_2 : decode cX8_drop 2 = .ok (.invokevirtual 125, 3) := by decide +kernel
theorem dX8_drop_5 : decode cX8_drop 5 = .ok (.ifCond .ne 5, 3) := by decide +kernel
theorem dX8_drop_8 : decode cX8_drop 8 = .ok (.iconst (-1), 1) := by decide +kernel
theorem dX8_drop_9 : decode cX8_drop 9 = .ok (.ireturn, 1) := by decide +kernel
theorem dX8_drop_10 : decode cX8_drop 10 = .ok (.aload_n 0, 1) := by decide +kernel
theorem dX8_drop_11 : decode cX8_drop 11 = .ok (.invokevirtual 75, 3) := by decide +kernel
theorem dX8_drop_14 : decode cX8_drop 14 = .ok (.aload_n 0, 1) := by decide +kernel
theorem dX8_drop_15 : decode cX8_drop 15 = .ok (.getfield 7, 3) := by decide +kernel
theorem dX8_drop_18 : decode cX8_drop 18 = .ok (.iload_n 1, 1) := by decide +kernel
theorem dX8_drop_19 : decode cX8_drop 19 = .ok (.iconst 0, 1) := by decide +kernel
theorem dX8_drop_20 : decode cX8_drop 20 = .ok (.invokestatic 37, 3) := by decide +kernel
theorem dX8_drop_23 : decode cX8_drop 23 = .ok (.iaload, 1) := by decide +kernel
theorem dX8_drop_24 : decode cX8_drop 24 = .ok (.istore_n 2, 1) := by decide +kernel
theorem dX8_drop_25 : decode cX8_drop 25 = .ok (.aload_n 0, 1) := by decide +kernel
theorem dX8_drop_26 : decode cX8_drop 26 = .ok (.iload_n 1, 1) := by decide +kernel
theorem dX8_drop_27 : decode cX8_drop 27 = .ok (.iconst 1, 1) := by decide +kernel
theorem dX8_drop_28 : decode cX8_drop 28 = .ok (.invokevirtual 135, 3) := by decide +kernel
theorem dX8_drop_31 : decode cX8_drop 31 = .ok (.aload_n 0, 1) := by decide +kernel
theorem dX8_drop_32 : decode cX8_drop 32 = .ok (.getfield 7, 3) := by decide +kernel
theorem dX8_drop_35 : decode cX8_drop 35 = .ok (.bipush 6, 2) := by decide +kernel
theorem dX8_drop_37 : decode cX8_drop 37 = .ok (.dup2, 1) := by decide +kernel
theorem dX8_drop_38 : decode cX8_drop 38 = .ok (.iaload, 1) := by decide +kernel
theorem dX8_drop_39 : decode cX8_drop 39 = .ok (.iconst 1, 1) := by decide +kernel
theorem dX8_drop_40 : decode cX8_drop 40 = .ok (.isub, 1) := by decide +kernel
theorem dX8_drop_41 : decode cX8_drop 41 = .ok (.iastore, 1) := by decide +kernel
theorem dX8_drop_42 : decode cX8_drop 42 = .ok (.iload_n 1, 1) := by decide +kernel
theorem dX8_drop_43 : decode cX8_drop 43 = .ok (.iconst 0, 1) := by decide +kernel
theorem dX8_drop_44 : decode cX8_drop 44 = .ok (.invokestatic 37, 3) := by decide +kernel
theorem dX8_drop_47 : decode cX8_drop 47 = .ok (.istore_n 3, 1) := by decide +kernel
theorem dX8_drop_48 : decode cX8_drop 48 = .ok (.iload_n 3, 1) := by decide +kernel
theorem dX8_drop_49 : decode cX8_drop 49 = .ok (.aload_n 0, 1) := by decide +kernel
theorem dX8_drop_50 : decode cX8_drop 50 = .ok (.getfield 7, 3) := by decide +kernel
theorem dX8_drop_53 : decode cX8_drop 53 = .ok (.bipush 6, 2) := by decide +kernel
theorem dX8_drop_55 : decode cX8_drop 55 = .ok (.iaload, 1) := by decide +kernel
theorem dX8_drop_56 : decode cX8_drop 56 = .ok (.iconst 0, 1) := by decide +kernel
theorem dX8_drop_57 : decode cX8_drop 57 = .ok (.invokestatic 37, 3) := by decide +kernel
theorem dX8_drop_60 : decode cX8_drop 60 = .ok (.if_icmp .ge 24, 3) := by decide +kernel
theorem dX8_drop_63 : decode cX8_drop 63 = .ok (.aload_n 0, 1) := by decide +kernel
theorem dX8_drop_64 : decode cX8_drop 64 = .ok (.getfield 7, 3) := by decide +kernel
theorem dX8_drop_67 : decode cX8_drop 67 = .ok (.iload_n 3, 1) := by decide +kernel
theorem dX8_drop_68 : decode cX8_drop 68 = .ok (.aload_n 0, 1) := by decide +kernel
theorem dX8_drop_69 : decode cX8_drop 69 = .ok (.getfield 7, 3) := by decide +kernel
theorem dX8_drop_72 : decode cX8_drop 72 = .ok (.iload_n 3, 1) := by decide +kernel
theorem dX8_drop_73 : decode cX8_drop 73 = .ok (.bipush 6, 2) := by decide +kernel
theorem dX8_drop_75 : decode cX8_drop 75 = .ok (.iadd, 1) := by decide +kernel
theorem dX8_drop_76 : decode cX8_drop 76 = .ok (.iaload, 1) := by decide +kernel
theorem dX8_drop_77 : decode cX8_drop 77 = .ok (.iastore, 1) := by decide +kernel
theorem dX8_drop_78 : decode cX8_drop 78 = .ok (.iinc 3 1, 3) := by decide +kernel
theorem dX8_drop_81 : decode cX8_drop 81 = .ok (.goto (-33), 3) := by decide +kernel
theorem dX8_drop_84 : decode cX8_drop 84 = .ok (.iconst 0, 1) := by decide +kernel
theorem dX8_drop_85 : decode cX8_drop 85 = .ok (.istore_n 3, 1) := by decide +kernel
theorem dX8_drop_86 : decode cX8_drop 86 = .ok (.iload_n 3, 1) := by decide +kernel
theorem dX8_drop_87 : decode cX8_drop 87 = .ok (.bipush 6, 2) := by decide +kernel
theorem dX8_drop_89 : decode cX8_drop 89 = .ok (.if_icmp .ge 26, 3) := by decide +kernel
theorem dX8_drop_92 : decode cX8_drop 92 = .ok (.aload_n 0, 1) := by decide +kernel
theorem dX8_drop_93 : decode cX8_drop 93 = .ok (.getfield 7, 3) := by decide +kernel
theorem dX8_drop_96 : decode cX8_drop 96 = .ok (.aload_n 0, 1) := by decide +kernel
theorem dX8_drop_97 : decode cX8_drop 97 = .ok (.getfield 7, 3) := by decide +kernel
theorem dX8_drop_100 : decode cX8_drop 100 = .ok (.bipush 6, 2) := by decide +kernel
theorem dX8_drop_102 : decode cX8_drop 102 = .ok (.iaload, 1) := by decide +kernel
theorem dX8_drop_103 : decode cX8_drop 103 = .ok (.iload_n 3, 1) := by decide +kernel
theorem dX8_drop_104 : decode cX8_drop 104 = .ok (.invokestatic 37, 3) := by decide +kernel
theorem dX8_drop_107 : decode cX8_drop 107 = .ok (.iconst 0, 1) := by decide +kernel
theorem dX8_drop_108 : decode cX8_drop 108 = .ok (.iastore, 1) := by decide +kernel
theorem dX8_drop_109 : decode cX8_drop 109 = .ok (.iinc 3 1, 3) := by decide +kernel
theorem dX8_drop_112 : decode cX8_drop 112 = .ok (.goto (-26), 3) := by decide +kernel
theorem dX8_drop_115 : decode cX8_drop 115 = .ok (.iload_n 2, 1) := by decide +kernel
theorem dX8_drop_116 : decode cX8_drop 116 = .ok (.ireturn, 1) := by decide +kernel
theorem dX8_trust_0 : decode cX8_trust 0 = .ok (.iload_n 1, 1) := by decide +kernel
theorem dX8_trust_1 : decode cX8_trust 1 = .ok (.invokestatic 139, 3) := by decide +kernel
theorem dX8_trust_4 : decode cX8_trust 4 = .ok (.ifCond .ne 5, 3) := by decide +kernel
theorem dX8_trust_7 : decode cX8_trust 7 = .ok (.iconst (-1), 1) := by decide +kernel
theorem dX8_trust_8 : decode cX8_trust 8 = .ok (.ireturn, 1) := by decide +kernel
theorem dX8_trust_9 : decode cX8_trust 9 = .ok (.iload_n 2, 1) := by decide +kernel
theorem dX8_trust_10 : decode cX8_trust 10 = .ok (.iconst 0, 1) := by decide +kernel
theorem dX8_trust_11 : decode cX8_trust 11 = .ok (.bipush 100, 2) := by decide +kernel
theorem dX8_trust_13 : decode cX8_trust 13 = .ok (.invokestatic 33, 3) := by decide +kernel
theorem dX8_trust_16 : decode cX8_trust 16 = .ok (.ifCond .eq 16, 3) := by decide +kernel
theorem dX8_trust_19 : decode cX8_trust 19 = .ok (.aload_n 0, 1) := by decide +kernel
theorem dX8_trust_20 : decode cX8_trust 20 = .ok (.iload_n 1, 1) := by decide +kernel
theorem dX8_trust_21 : decode cX8_trust 21 = .ok (.iconst 0, 1) := by decide +kernel
theorem dX8_trust_22 : decode cX8_trust 22 = .ok (.invokestatic 29, 3) := by decide +kernel
theorem dX8_trust_25 : decode cX8_trust 25 = .ok (.iload_n 2, 1) := by decide +kernel
theorem dX8_trust_26 : decode cX8_trust 26 = .ok (.invokevirtual 84, 3) := by decide +kernel
theorem dX8_trust_29 : decode cX8_trust 29 = .ok (.goto 5, 3) := by decide +kernel
theorem dX8_trust_32 : decode cX8_trust 32 = .ok (.bipush (-2), 2) := by decide +kernel
theorem dX8_trust_34 : decode cX8_trust 34 = .ok (.ireturn, 1) := by decide +kernel
theorem dX8_word_0 : decode cX8_word 0 = .ok (.aload_n 0, 1) := by decide +kernel
theorem dX8_word_1 : decode cX8_word 1 = .ok (.iload_n 1, 1) := by decide +kernel
theorem dX8_word_2 : decode cX8_word 2 = .ok (.invokevirtual 125, 3) := by decide +kernel
theorem dX8_word_5 : decode cX8_word 5 = .ok (.ifCond .ne 5, 3) := by decide +kernel
theorem dX8_word_8 : decode cX8_word 8 = .ok (.iconst (-1), 1) := by decide +kernel
theorem dX8_word_9 : decode cX8_word 9 = .ok (.ireturn, 1) := by decide +kernel
theorem dX8_word_10 : decode cX8_word 10 = .ok (.iload_n 2, 1) := by decide +kernel
theorem dX8_word_11 : decode cX8_word 11 = .ok (.tableswitch 157 0 8 #[49, 49, 60, 71, 77, 83, 89, 114, 125], 49) := by decide +kernel
theorem dX8_word_60 : decode cX8_word 60 = .ok (.aload_n 0, 1) := by decide +kernel
theorem dX8_word_61 : decode cX8_word 61 = .ok (.getfield 7, 3) := by decide +kernel
theorem dX8_word_64 : decode cX8_word 64 = .ok (.iload_n 1, 1) := by decide +kernel
theorem dX8_word_65 : decode cX8_word 65 = .ok (.iload_n 2, 1) := by decide +kernel
theorem dX8_word_66 : decode cX8_word 66 = .ok (.invokestatic 37, 3) := by decide +kernel
theorem dX8_word_69 : decode cX8_word 69 = .ok (.iaload, 1) := by decide +kernel
theorem dX8_word_70 : decode cX8_word 70 = .ok (.ireturn, 1) := by decide +kernel
theorem dX8_word_71 : decode cX8_word 71 = .ok (.aload_n 0, 1) := by decide +kernel
theorem dX8_word_72 : decode cX8_word 72 = .ok (.getfield 7, 3) := by decide +kernel
theorem dX8_word_75 : decode cX8_word 75 = .ok (.iload_n 1, 1) := by decide +kernel
theorem dX8_word_76 : decode cX8_word 76 = .ok (.iconst 4, 1) := by decide +kernel
theorem dX8_word_77 : decode cX8_word 77 = .ok (.invokestatic 37, 3) := by decide +kernel
theorem dX8_word_80 : decode cX8_word 80 = .ok (.iaload, 1) := by decide +kernel
theorem dX8_word_81 : decode cX8_word 81 = .ok (.ireturn, 1) := by decide +kernel
theorem dX8_word_82 : decode cX8_word 82 = .ok (.aload_n 0, 1) := by decide +kernel
theorem dX8_word_83 : decode cX8_word 83 = .ok (.iload_n 1, 1) := by decide +kernel
theorem dX8_word_84 : decode cX8_word 84 = .ok (.invokevirtual 142, 3) := by decide +kernel
theorem dX8_word_87 : decode cX8_word 87 = .ok (.ireturn, 1) := by decide +kernel
theorem dX8_word_88 : decode cX8_word 88 = .ok (.aload_n 0, 1) := by decide +kernel
theorem dX8_word_89 : decode cX8_word 89 = .ok (.iload_n 1, 1) := by decide +kernel
theorem dX8_word_90 : decode cX8_word 90 = .ok (.invokevirtual 54, 3) := by decide +kernel
theorem dX8_word_93 : decode cX8_word 93 = .ok (.ireturn, 1) := by decide +kernel
theorem dX8_word_94 : decode cX8_word 94 = .ok (.aload_n 0, 1) := by decide +kernel
theorem dX8_word_95 : decode cX8_word 95 = .ok (.iload_n 1, 1) := by decide +kernel
theorem dX8_word_96 : decode cX8_word 96 = .ok (.invokevirtual 66, 3) := by decide +kernel
theorem dX8_word_99 : decode cX8_word 99 = .ok (.ireturn, 1) := by decide +kernel
theorem dX8_word_100 : decode cX8_word 100 = .ok (.aload_n 0, 1) := by decide +kernel
theorem dX8_word_101 : decode cX8_word 101 = .ok (.aload_n 0, 1) := by decide +kernel
theorem dX8_word_102 : decode cX8_word 102 = .ok (.getfield 7, 3) := by decide +kernel
theorem dX8_word_105 : decode cX8_word 105 = .ok (.iload_n 1, 1) := by decide +kernel
theorem dX8_word_106 : decode cX8_word 106 = .ok (.iconst 5, 1) := by decide +kernel
theorem dX8_word_107 : decode cX8_word 107 = .ok (.invokestatic 37, 3) := by decide +kernel
theorem dX8_word_110 : decode cX8_word 110 = .ok (.iaload, 1) := by decide +kernel
theorem dX8_word_111 : decode cX8_word 111 = .ok (.aload_n 0, 1) := by decide +kernel
theorem dX8_word_112 : decode cX8_word 112 = .ok (.getfield 7, 3) := by decide +kernel
theorem dX8_word_115 : decode cX8_word 115 = .ok (.iload_n 1, 1) := by decide +kernel
theorem dX8_word_116 : decode cX8_word 116 = .ok (.iconst 4, 1) := by decide +kernel
theorem dX8_word_117 : decode cX8_word 117 = .ok (.invokestatic 37, 3) := by decide +kernel
theorem dX8_word_120 : decode cX8_word 120 = .ok (.iaload, 1) := by decide +kernel
theorem dX8_word_121 : decode cX8_word 121 = .ok (.invokevirtual 60, 3) := by decide +kernel
theorem dX8_word_124 : decode cX8_word 124 = .ok (.ireturn, 1) := by decide +kernel
theorem dX8_word_125 : decode cX8_word 125 = .ok (.aload_n 0, 1) := by decide +kernel
theorem dX8_word_126 : decode cX8_word 126 = .ok (.getfield 7, 3) := by decide +kernel
theorem dX8_word_129 : decode cX8_word 129 = .ok (.iload_n 1, 1) := by decide +kernel
theorem dX8_word_130 : decode cX8_word 130 = .ok (.iconst 3, 1) := by decide +kernel
theorem dX8_word_131 : decode cX8_word 131 = .ok (.invokestatic 37, 3) := by decide +kernel
theorem dX8_word_134 : decode cX8_word 134 = .ok (.iaload, 1) := by decide +kernel
theorem dX8_word_135 : decode cX8_word 135 = .ok (.ireturn, 1) := by decide +kernel
theorem dX8_word_136 : decode cX8_word 136 = .ok (.aload_n 0, 1) := by decide +kernel
theorem dX8_word_137 : decode cX8_word 137 = .ok (.getfield 7, 3) := by decide +kernel
theorem dX8_word_140 : decode cX8_word 140 = .ok (.iload_n 1, 1) := by decide +kernel
theorem dX8_word_141 : decode cX8_word 141 = .ok (.iconst 2, 1) := by decide +kernel
theorem dX8_word_142 : decode cX8_word 142 = .ok (.invokestatic 37, 3) := by decide +kernel
theorem dX8_word_145 : decode cX8_word 145 = .ok (.iaload, 1) := by decide +kernel
theorem dX8_word_146 : decode cX8_word 146 = .ok (.ifCond .ne 8, 3) := by decide +kernel
theorem dX8_word_149 : decode cX8_word 149 = .ok (.bipush (-6), 2) := by decide +kernel
theorem dX8_word_151 : decode cX8_word 151 = .ok (.goto 16, 3) := by decide +kernel
theorem dX8_word_154 : decode cX8_word 154 = .ok (.aload_n 0, 1) := by decide +kernel
theorem dX8_word_155 : decode cX8_word 155 = .ok (.getfield 7, 3) := by decide +kernel
theorem dX8_word_158 : decode cX8_word 158 = .ok (.iload_n 1, 1) := by decide +kernel
theorem dX8_word_159 : decode cX8_word 159 = .ok (.iconst 2, 1) := by decide +kernel
theorem dX8_word_160 : decode cX8_word 160 = .ok (.invokestatic 37, 3) := by decide +kernel
theorem dX8_word_163 : decode cX8_word 163 = .ok (.iaload, 1) := by decide +kernel
theorem dX8_word_164 : decode cX8_word 164 = .ok (.invokestatic 44, 3) := by decide +kernel
theorem dX8_word_167 : decode cX8_word 167 = .ok (.ireturn, 1) := by decide +kernel
theorem dX8_word_168 : decode cX8_word 168 = .ok (.iload_n 2, 1) := by decide +kernel
theorem dX8_word_169 : decode cX8_word 169 = .ok (.ifCond .ge 8, 3) := by decide +kernel
theorem dX8_word_172 : decode cX8_word 172 = .ok (.bipush (-2), 2) := by decide +kernel
theorem dX8_word_174 : decode cX8_word 174 = .ok (.goto 20, 3) := by decide +kernel
theorem dX8_word_177 : decode cX8_word 177 = .ok (.aload_n 0, 1) := by decide +kernel
theorem dX8_word_178 : decode cX8_word 178 = .ok (.getfield 7, 3) := by decide +kernel
theorem dX8_word_181 : decode cX8_word 181 = .ok (.iload_n 1, 1) := by decide +kernel
theorem dX8_word_182 : decode cX8_word 182 = .ok (.iconst 2, 1) := by decide +kernel
theorem dX8_word_183 : decode cX8_word 183 = .ok (.invokestatic 37, 3) := by decide +kernel
theorem dX8_word_186 : decode cX8_word 186 = .ok (.iaload, 1) := by decide +kernel
theorem dX8_word_187 : decode cX8_word 187 = .ok (.iload_n 2, 1) := by decide +kernel
theorem dX8_word_188 : decode cX8_word 188 = .ok (.bipush 9, 2) := by decide +kernel
theorem dX8_word_190 : decode cX8_word 190 = .ok (.isub, 1) := by decide +kernel
theorem dX8_word_191 : decode cX8_word 191 = .ok (.invokestatic 145, 3) := by decide +kernel
theorem dX8_word_194 : decode cX8_word 194 = .ok (.ireturn, 1) := by decide +kernel
theorem dX8_placeOf_0 : decode cX8_placeOf 0 = .ok (.iconst 0, 1) := by decide +kernel
theorem dX8_placeOf_1 : decode cX8_placeOf 1 = .ok (.istore_n 2, 1) := by decide +kernel
theorem dX8_placeOf_2 : decode cX8_placeOf 2 = .ok (.iconst 0, 1) := by decide +kernel
theorem dX8_placeOf_3 : decode cX8_placeOf 3 = .ok (.istore_n 3, 1) := by decide +kernel
theorem dX8_placeOf_4 : decode cX8_placeOf 4 = .ok (.iload_n 3, 1) := by decide +kernel
theorem dX8_placeOf_5 : decode cX8_placeOf 5 = .ok (.aload_n 0, 1) := by decide +kernel
theorem dX8_placeOf_6 : decode cX8_placeOf 6 = .ok (.getfield 7, 3) := by decide +kernel
theorem dX8_placeOf_9 : decode cX8_placeOf 9 = .ok (.bipush 11, 2) := by decide +kernel
theorem dX8_placeOf_11 : decode cX8_placeOf 11 = .ok (.iaload, 1) := by decide +kernel
theorem dX8_placeOf_12 : decode cX8_placeOf 12 = .ok (.if_icmp .ge 103, 3) := by decide +kernel
theorem dX8_placeOf_15 : decode cX8_placeOf 15 = .ok (.aload_n 0, 1) := by decide +kernel
theorem dX8_placeOf_16 : decode cX8_placeOf 16 = .ok (.getfield 7, 3) := by decide +kernel
theorem dX8_placeOf_19 : decode cX8_placeOf 19 = .ok (.iload_n 3, 1) := by decide +kernel
theorem dX8_placeOf_20 : decode cX8_placeOf 20 = .ok (.iconst 3, 1) := by decide +kernel
theorem dX8_placeOf_21 : decode cX8_placeOf 21 = .ok (.invokestatic 48, 3) := by decide +kernel
theorem dX8_placeOf_24 : decode cX8_placeOf 24 = .ok (.iaload, 1) := by decide +kernel
theorem dX8_placeOf_25 : decode cX8_placeOf 25 = .ok (.aload_n 0, 1) := by decide +kernel
theorem dX8_placeOf_26 : decode cX8_placeOf 26 = .ok (.getfield 7, 3) := by decide +kernel
theorem dX8_placeOf_29 : decode cX8_placeOf 29 = .ok (.iload_n 1, 1) := by decide +kernel
theorem dX8_placeOf_30 : decode cX8_placeOf 30 = .ok (.iconst 3, 1) := by decide +kernel
theorem dX8_placeOf_31 : decode cX8_placeOf 31 = .ok (.invokestatic 48, 3) := by decide +kernel
theorem dX8_placeOf_34 : decode cX8_placeOf 34 = .ok (.iaload, 1) := by decide +kernel
theorem dX8_placeOf_35 : decode cX8_placeOf 35 = .ok (.if_icmp .gt 31, 3) := by decide +kernel
theorem dX8_placeOf_38 : decode cX8_placeOf 38 = .ok (.aload_n 0, 1) := by decide +kernel
theorem dX8_placeOf_39 : decode cX8_placeOf 39 = .ok (.getfield 7, 3) := by decide +kernel
theorem dX8_placeOf_42 : decode cX8_placeOf 42 = .ok (.iload_n 3, 1) := by decide +kernel
theorem dX8_placeOf_43 : decode cX8_placeOf 43 = .ok (.iconst 3, 1) := by decide +kernel
theorem dX8_placeOf_44 : decode cX8_placeOf 44 = .ok (.invokestatic 48, 3) := by decide +kernel
theorem dX8_placeOf_47 : decode cX8_placeOf 47 = .ok (.iaload, 1) := by decide +kernel
theorem dX8_placeOf_48 : decode cX8_placeOf 48 = .ok (.aload_n 0, 1) := by decide +kernel
theorem dX8_placeOf_49 : decode cX8_placeOf 49 = .ok (.getfield 7, 3) := by decide +kernel
theorem dX8_placeOf_52 : decode cX8_placeOf 52 = .ok (.iload_n 1, 1) := by decide +kernel
theorem dX8_placeOf_53 : decode cX8_placeOf 53 = .ok (.iconst 3, 1) := by decide +kernel
theorem dX8_placeOf_54 : decode cX8_placeOf 54 = .ok (.invokestatic 48, 3) := by decide +kernel
theorem dX8_placeOf_57 : decode cX8_placeOf 57 = .ok (.iaload, 1) := by decide +kernel
theorem dX8_placeOf_58 : decode cX8_placeOf 58 = .ok (.if_icmp .ne 12, 3) := by decide +kernel
theorem dX8_placeOf_61 : decode cX8_placeOf 61 = .ok (.iload_n 3, 1) := by decide +kernel
theorem dX8_placeOf_62 : decode cX8_placeOf 62 = .ok (.iload_n 1, 1) := by decide +kernel
theorem dX8_placeOf_63 : decode cX8_placeOf 63 = .ok (.if_icmp .ge 7, 3) := by decide +kernel
theorem dX8_placeOf_66 : decode cX8_placeOf 66 = .ok (.iconst 1, 1) := by decide +kernel
theorem dX8_placeOf_67 : decode cX8_placeOf 67 = .ok (.goto 4, 3) := by decide +kernel
theorem dX8_placeOf_70 : decode cX8_placeOf 70 = .ok (.iconst 0, 1) := by decide +kernel
theorem dX8_placeOf_71 : decode cX8_placeOf 71 = .ok (.istore 4, 2) := by decide +kernel
theorem dX8_placeOf_73 : decode cX8_placeOf 73 = .ok (.iload_n 2, 1) := by decide +kernel
theorem dX8_placeOf_74 : decode cX8_placeOf 74 = .ok (.aload_n 0, 1) := by decide +kernel
theorem dX8_placeOf_75 : decode cX8_placeOf 75 = .ok (.getfield 7, 3) := by decide +kernel
theorem dX8_placeOf_78 : decode cX8_placeOf 78 = .ok (.iload_n 3, 1) := by decide +kernel
theorem dX8_placeOf_79 : decode cX8_placeOf 79 = .ok (.iconst 0, 1) := by decide +kernel
theorem dX8_placeOf_80 : decode cX8_placeOf 80 = .ok (.invokestatic 48, 3) := by decide +kernel
theorem dX8_placeOf_83 : decode cX8_placeOf 83 = .ok (.iaload, 1) := by decide +kernel
theorem dX8_placeOf_84 : decode cX8_placeOf 84 = .ok (.aload_n 0, 1) := by decide +kernel
theorem dX8_placeOf_85 : decode cX8_placeOf 85 = .ok (.getfield 7, 3) := by decide +kernel
theorem dX8_placeOf_88 : decode cX8_placeOf 88 = .ok (.iload_n 1, 1) := by decide +kernel
theorem dX8_placeOf_89 : decode cX8_placeOf 89 = .ok (.iconst 0, 1) := by decide +kernel
theorem dX8_placeOf_90 : decode cX8_placeOf 90 = .ok (.invokestatic 48, 3) := by decide +kernel
theorem dX8_placeOf_93 : decode cX8_placeOf 93 = .ok (.iaload, 1) := by decide +kernel
theorem dX8_placeOf_94 : decode cX8_placeOf 94 = .ok (.if_icmp .ne 12, 3) := by decide +kernel
theorem dX8_placeOf_97 : decode cX8_placeOf 97 = .ok (.iload 4, 2) := by decide +kernel
theorem dX8_placeOf_99 : decode cX8_placeOf 99 = .ok (.ifCond .eq 7, 3) := by decide +kernel
theorem dX8_placeOf_102 : decode cX8_placeOf 102 = .ok (.iconst 1, 1) := by decide +kernel
theorem dX8_placeOf_103 : decode cX8_placeOf 103 = .ok (.goto 4, 3) := by decide +kernel
theorem dX8_placeOf_106 : decode cX8_placeOf 106 = .ok (.iconst 0, 1) := by decide +kernel
theorem dX8_placeOf_107 : decode cX8_placeOf 107 = .ok (.iadd, 1) := by decide +kernel
theorem dX8_placeOf_108 : decode cX8_placeOf 108 = .ok (.istore_n 2, 1) := by decide +kernel
theorem dX8_placeOf_109 : decode cX8_placeOf 109 = .ok (.iinc 3 1, 3) := by decide +kernel
theorem dX8_placeOf_112 : decode cX8_placeOf 112 = .ok (.goto (-108), 3) := by decide +kernel
theorem dX8_placeOf_115 : decode cX8_placeOf 115 = .ok (.iload_n 2, 1) := by decide +kernel
theorem dX8_placeOf_116 : decode cX8_placeOf 116 = .ok (.ireturn, 1) := by decide +kernel
theorem dX8_vote_0 : decode cX8_vote 0 = .ok (.aload_n 0, 1) := by decide +kernel
theorem dX8_vote_1 : decode cX8_vote 1 = .ok (.iload_n 1, 1) := by decide +kernel
theorem dX8_vote_2 : decode cX8_vote 2 = .ok (.invokevirtual 125, 3) := by decide +kernel
theorem dX8_vote_5 : decode cX8_vote 5 = .ok (.ifCond .eq 16, 3) := by decide +kernel
theorem dX8_vote_8 : decode cX8_vote 8 = .ok (.iload_n 2, 1) := by decide +kernel
theorem dX8_vote_9 : decode cX8_vote 9 = .ok (.ifCond .lt 12, 3) := by decide +kernel
theorem dX8_vote_12 : decode cX8_vote 12 = .ok (.aload_n 0, 1) := by decide +kernel
theorem dX8_vote_13 : decode cX8_vote 13 = .ok (.iload_n 1, 1) := by decide +kernel
theorem dX8_vote_14 : decode cX8_vote 14 = .ok (.iload_n 2, 1) := by decide +kernel
theorem dX8_vote_15 : decode cX8_vote 15 = .ok (.invokevirtual 148, 3) := by decide +kernel
theorem dX8_vote_18 : decode cX8_vote 18 = .ok (.goto 5, 3) := by decide +kernel
theorem dX8_vote_21 : decode cX8_vote 21 = .ok (.bipush (-6), 2) := by decide +kernel
theorem dX8_vote_23 : decode cX8_vote 23 = .ok (.istore 4, 2) := by decide +kernel
theorem dX8_vote_25 : decode cX8_vote 25 = .ok (.iload 4, 2) := by decide +kernel
theorem dX8_vote_27 : decode cX8_vote 27 = .ok (.bipush (-6), 2) := by decide +kernel
theorem dX8_vote_29 : decode cX8_vote 29 = .ok (.if_icmp .ne 5, 3) := by decide +kernel
theorem dX8_vote_32 : decode cX8_vote 32 = .ok (.iconst (-1), 1) := by decide +kernel
theorem dX8_vote_33 : decode cX8_vote 33 = .ok (.ireturn, 1) := by decide +kernel
theorem dX8_vote_34 : decode cX8_vote 34 = .ok (.iload_n 3, 1) := by decide +kernel
theorem dX8_vote_35 : decode cX8_vote 35 = .ok (.tableswitch 75 0 3 #[29, 41, 53, 60], 29) := by decide +kernel
theorem dX8_vote_64 : decode cX8_vote 64 = .ok (.aload_n 0, 1) := by decide +kernel
theorem dX8_vote_65 : decode cX8_vote 65 = .ok (.getfield 7, 3) := by decide +kernel
theorem dX8_vote_68 : decode cX8_vote 68 = .ok (.iload 4, 2) := by decide +kernel
theorem dX8_vote_70 : decode cX8_vote 70 = .ok (.iconst 2, 1) := by decide +kernel
theorem dX8_vote_71 : decode cX8_vote 71 = .ok (.invokestatic 48, 3) := by decide +kernel
theorem dX8_vote_74 : decode cX8_vote 74 = .ok (.iaload, 1) := by decide +kernel
theorem dX8_vote_75 : decode cX8_vote 75 = .ok (.ireturn, 1) := by decide +kernel
theorem dX8_vote_76 : decode cX8_vote 76 = .ok (.aload_n 0, 1) := by decide +kernel
theorem dX8_vote_77 : decode cX8_vote 77 = .ok (.getfield 7, 3) := by decide +kernel
theorem dX8_vote_80 : decode cX8_vote 80 = .ok (.iload 4, 2) := by decide +kernel
theorem dX8_vote_82 : decode cX8_vote 82 = .ok (.iconst 3, 1) := by decide +kernel
theorem dX8_vote_83 : decode cX8_vote 83 = .ok (.invokestatic 48, 3) := by decide +kernel
theorem dX8_vote_86 : decode cX8_vote 86 = .ok (.iaload, 1) := by decide +kernel
theorem dX8_vote_87 : decode cX8_vote 87 = .ok (.ireturn, 1) := by decide +kernel
theorem dX8_vote_88 : decode cX8_vote 88 = .ok (.aload_n 0, 1) := by decide +kernel
theorem dX8_vote_89 : decode cX8_vote 89 = .ok (.iload 4, 2) := by decide +kernel
theorem dX8_vote_91 : decode cX8_vote 91 = .ok (.invokevirtual 151, 3) := by decide +kernel
theorem dX8_vote_94 : decode cX8_vote 94 = .ok (.ireturn, 1) := by decide +kernel
theorem dX8_vote_95 : decode cX8_vote 95 = .ok (.aload_n 0, 1) := by decide +kernel
theorem dX8_vote_96 : decode cX8_vote 96 = .ok (.getfield 7, 3) := by decide +kernel
theorem dX8_vote_99 : decode cX8_vote 99 = .ok (.iload 4, 2) := by decide +kernel
theorem dX8_vote_101 : decode cX8_vote 101 = .ok (.iconst 1, 1) := by decide +kernel
theorem dX8_vote_102 : decode cX8_vote 102 = .ok (.invokestatic 48, 3) := by decide +kernel
theorem dX8_vote_105 : decode cX8_vote 105 = .ok (.iaload, 1) := by decide +kernel
theorem dX8_vote_106 : decode cX8_vote 106 = .ok (.invokestatic 44, 3) := by decide +kernel
theorem dX8_vote_109 : decode cX8_vote 109 = .ok (.ireturn, 1) := by decide +kernel
theorem dX8_vote_110 : decode cX8_vote 110 = .ok (.iload_n 3, 1) := by decide +kernel
theorem dX8_vote_111 : decode cX8_vote 111 = .ok (.ifCond .ge 8, 3) := by decide +kernel
theorem dX8_vote_114 : decode cX8_vote 114 = .ok (.bipush (-2), 2) := by decide +kernel
theorem dX8_vote_116 : decode cX8_vote 116 = .ok (.goto 20, 3) := by decide +kernel
theorem dX8_vote_119 : decode cX8_vote 119 = .ok (.aload_n 0, 1) := by decide +kernel
theorem dX8_vote_120 : decode cX8_vote 120 = .ok (.getfield 7, 3) := by decide +kernel
theorem dX8_vote_123 : decode cX8_vote 123 = .ok (.iload 4, 2) := by decide +kernel
theorem dX8_vote_125 : decode cX8_vote 125 = .ok (.iconst 1, 1) := by decide +kernel
theorem dX8_vote_126 : decode cX8_vote 126 = .ok (.invokestatic 48, 3) := by decide +kernel
theorem dX8_vote_129 : decode cX8_vote 129 = .ok (.iaload, 1) := by decide +kernel
theorem dX8_vote_130 : decode cX8_vote 130 = .ok (.iload_n 3, 1) := by decide +kernel
theorem dX8_vote_131 : decode cX8_vote 131 = .ok (.iconst 4, 1) := by decide +kernel
theorem dX8_vote_132 : decode cX8_vote 132 = .ok (.isub, 1) := by decide +kernel
theorem dX8_vote_133 : decode cX8_vote 133 = .ok (.invokestatic 145, 3) := by decide +kernel
theorem dX8_vote_136 : decode cX8_vote 136 = .ok (.ireturn, 1) := by decide +kernel
theorem dX8_placeOfSolver_0 : decode cX8_placeOfSolver 0 = .ok (.iconst 0, 1) := by decide +kernel
theorem dX8_placeOfSolver_1 : decode cX8_placeOfSolver 1 = .ok (.istore_n 2, 1) := by decide +kernel
theorem dX8_placeOfSolver_2 : decode cX8_placeOfSolver 2 = .ok (.iconst 0, 1) := by decide +kernel
theorem dX8_placeOfSolver_3 : decode cX8_placeOfSolver 3 = .ok (.istore_n 3, 1) := by decide +kernel
theorem dX8_placeOfSolver_4 : decode cX8_placeOfSolver 4 = .ok (.iload_n 3, 1) := by decide +kernel
theorem dX8_placeOfSolver_5 : decode cX8_placeOfSolver 5 = .ok (.bipush 6, 2) := by decide +kernel
theorem dX8_placeOfSolver_7 : decode cX8_placeOfSolver 7 = .ok (.if_icmp .ge 64, 3) := by decide +kernel
theorem dX8_placeOfSolver_10 : decode cX8_placeOfSolver 10 = .ok (.aload_n 0, 1) := by decide +kernel
theorem dX8_placeOfSolver_11 : decode cX8_placeOfSolver 11 = .ok (.getfield 7, 3) := by decide +kernel
theorem dX8_placeOfSolver_14 : decode cX8_placeOfSolver 14 = .ok (.iload_n 3, 1) := by decide +kernel
theorem dX8_placeOfSolver_15 : decode cX8_placeOfSolver 15 = .ok (.iconst 0, 1) := by decide +kernel
theorem dX8_placeOfSolver_16 : decode cX8_placeOfSolver 16 = .ok (.invokestatic 29, 3) := by decide +kernel
theorem dX8_placeOfSolver_19 : decode cX8_placeOfSolver 19 = .ok (.iaload, 1) := by decide +kernel
theorem dX8_placeOfSolver_20 : decode cX8_placeOfSolver 20 = .ok (.istore 4, 2) := by decide +kernel
theorem dX8_placeOfSolver_22 : decode cX8_placeOfSolver 22 = .ok (.iload_n 2, 1) := by decide +kernel
theorem dX8_placeOfSolver_23 : decode cX8_placeOfSolver 23 = .ok (.iload 4, 2) := by decide +kernel
theorem dX8_placeOfSolver_25 : decode cX8_placeOfSolver 25 = .ok (.aload_n 0, 1) := by decide +kernel
theorem dX8_placeOfSolver_26 : decode cX8_placeOfSolver 26 = .ok (.getfield 7, 3) := by decide +kernel
theorem dX8_placeOfSolver_29 : decode cX8_placeOfSolver 29 = .ok (.iload_n 1, 1) := by decide +kernel
theorem dX8_placeOfSolver_30 : decode cX8_placeOfSolver 30 = .ok (.iconst 0, 1) := by decide +kernel
theorem dX8_placeOfSolver_31 : decode cX8_placeOfSolver 31 = .ok (.invokestatic 29, 3) := by decide +kernel
theorem dX8_placeOfSolver_34 : decode cX8_placeOfSolver 34 = .ok (.iaload, 1) := by decide +kernel
theorem dX8_placeOfSolver_35 : decode cX8_placeOfSolver 35 = .ok (.if_icmp .gt 23, 3) := by decide +kernel
theorem dX8_placeOfSolver_38 : decode cX8_placeOfSolver 38 = .ok (.iload 4, 2) := by decide +kernel
theorem dX8_placeOfSolver_40 : decode cX8_placeOfSolver 40 = .ok (.aload_n 0, 1) := by decide +kernel
theorem dX8_placeOfSolver_41 : decode cX8_placeOfSolver 41 = .ok (.getfield 7, 3) := by decide +kernel
theorem dX8_placeOfSolver_44 : decode cX8_placeOfSolver 44 = .ok (.iload_n 1, 1) := by decide +kernel
theorem dX8_placeOfSolver_45 : decode cX8_placeOfSolver 45 = .ok (.iconst 0, 1) := by decide +kernel
theorem dX8_placeOfSolver_46 : decode cX8_placeOfSolver 46 = .ok (.invokestatic 29, 3) := by decide +kernel
theorem dX8_placeOfSolver_49 : decode cX8_placeOfSolver 49 = .ok (.iaload, 1) := by decide +kernel
theorem dX8_placeOfSolver_50 : decode cX8_placeOfSolver 50 = .ok (.if_icmp .ne 12, 3) := by decide +kernel
theorem dX8_placeOfSolver_53 : decode cX8_placeOfSolver 53 = .ok (.iload_n 3, 1) := by decide +kernel
theorem dX8_placeOfSolver_54 : decode cX8_placeOfSolver 54 = .ok (.iload_n 1, 1) := by decide +kernel
theorem dX8_placeOfSolver_55 : decode cX8_placeOfSolver 55 = .ok (.if_icmp .ge 7, 3) := by decide +kernel
theorem dX8_placeOfSolver_58 : decode cX8_placeOfSolver 58 = .ok (.iconst 1, 1) := by decide +kernel
theorem dX8_placeOfSolver_59 : decode cX8_placeOfSolver 59 = .ok (.goto 4, 3) := by decide +kernel
theorem dX8_placeOfSolver_62 : decode cX8_placeOfSolver 62 = .ok (.iconst 0, 1) := by decide +kernel
theorem dX8_placeOfSolver_63 : decode cX8_placeOfSolver 63 = .ok (.iadd, 1) := by decide +kernel
theorem dX8_placeOfSolver_64 : decode cX8_placeOfSolver 64 = .ok (.istore_n 2, 1) := by decide +kernel
theorem dX8_placeOfSolver_65 : decode cX8_placeOfSolver 65 = .ok (.iinc 3 1, 3) := by decide +kernel
theorem dX8_placeOfSolver_68 : decode cX8_placeOfSolver 68 = .ok (.goto (-64), 3) := by decide +kernel
theorem dX8_placeOfSolver_71 : decode cX8_placeOfSolver 71 = .ok (.iload_n 2, 1) := by decide +kernel
theorem dX8_placeOfSolver_72 : decode cX8_placeOfSolver 72 = .ok (.ireturn, 1) := by decide +kernel
theorem dX8_solver_0 : decode cX8_solver 0 = .ok (.iload_n 1, 1) := by decide +kernel
theorem dX8_solver_1 : decode cX8_solver 1 = .ok (.invokestatic 139, 3) := by decide +kernel
theorem dX8_solver_4 : decode cX8_solver 4 = .ok (.ifCond .ne 5, 3) := by decide +kernel
theorem dX8_solver_7 : decode cX8_solver 7 = .ok (.iconst (-1), 1) := by decide +kernel
theorem dX8_solver_8 : decode cX8_solver 8 = .ok (.ireturn, 1) := by decide +kernel
theorem dX8_solver_9 : decode cX8_solver 9 = .ok (.iload_n 2, 1) := by decide +kernel
theorem dX8_solver_10 : decode cX8_solver 10 = .ok (.tableswitch 76 0 4 #[34, 34, 34, 45, 51], 34) := by decide +kernel
theorem dX8_solver_44 : decode cX8_solver 44 = .ok (.aload_n 0, 1) := by decide +kernel
theorem dX8_solver_45 : decode cX8_solver 45 = .ok (.getfield 7, 3) := by decide +kernel
theorem dX8_solver_48 : decode cX8_solver 48 = .ok (.iload_n 1, 1) := by decide +kernel
theorem dX8_solver_49 : decode cX8_solver 49 = .ok (.iload_n 2, 1) := by decide +kernel
theorem dX8_solver_50 : decode cX8_solver 50 = .ok (.invokestatic 29, 3) := by decide +kernel
theorem dX8_solver_53 : decode cX8_solver 53 = .ok (.iaload, 1) := by decide +kernel
theorem dX8_solver_54 : decode cX8_solver 54 = .ok (.ireturn, 1) := by decide +kernel
theorem dX8_solver_55 : decode cX8_solver 55 = .ok (.aload_n 0, 1) := by decide +kernel
theorem dX8_solver_56 : decode cX8_solver 56 = .ok (.iload_n 1, 1) := by decide +kernel
theorem dX8_solver_57 : decode cX8_solver 57 = .ok (.invokevirtual 154, 3) := by decide +kernel
theorem dX8_solver_60 : decode cX8_solver 60 = .ok (.ireturn, 1) := by decide +kernel
theorem dX8_solver_61 : decode cX8_solver 61 = .ok (.aload_n 0, 1) := by decide +kernel
theorem dX8_solver_62 : decode cX8_solver 62 = .ok (.aload_n 0, 1) := by decide +kernel
theorem dX8_solver_63 : decode cX8_solver 63 = .ok (.getfield 7, 3) := by decide +kernel
theorem dX8_solver_66 : decode cX8_solver 66 = .ok (.iload_n 1, 1) := by decide +kernel
theorem dX8_solver_67 : decode cX8_solver 67 = .ok (.iconst 3, 1) := by decide +kernel
theorem dX8_solver_68 : decode cX8_solver 68 = .ok (.invokestatic 29, 3) := by decide +kernel
theorem dX8_solver_71 : decode cX8_solver 71 = .ok (.iaload, 1) := by decide +kernel
theorem dX8_solver_72 : decode cX8_solver 72 = .ok (.aload_n 0, 1) := by decide +kernel
theorem dX8_solver_73 : decode cX8_solver 73 = .ok (.getfield 7, 3) := by decide +kernel
theorem dX8_solver_76 : decode cX8_solver 76 = .ok (.iload_n 1, 1) := by decide +kernel
theorem dX8_solver_77 : decode cX8_solver 77 = .ok (.iconst 1, 1) := by decide +kernel
theorem dX8_solver_78 : decode cX8_solver 78 = .ok (.invokestatic 29, 3) := by decide +kernel
theorem dX8_solver_81 : decode cX8_solver 81 = .ok (.iaload, 1) := by decide +kernel
theorem dX8_solver_82 : decode cX8_solver 82 = .ok (.invokevirtual 60, 3) := by decide +kernel
theorem dX8_solver_85 : decode cX8_solver 85 = .ok (.ireturn, 1) := by decide +kernel
theorem dX8_solver_86 : decode cX8_solver 86 = .ok (.bipush (-2), 2) := by decide +kernel
theorem dX8_solver_88 : decode cX8_solver 88 = .ok (.ireturn, 1) := by decide +kernel
theorem dX8_wordsOf_0 : decode cX8_wordsOf 0 = .ok (.iconst 0, 1) := by decide +kernel
theorem dX8_wordsOf_1 : decode cX8_wordsOf 1 = .ok (.istore_n 2, 1) := by decide +kernel
theorem dX8_wordsOf_2 : decode cX8_wordsOf 2 = .ok (.iconst 0, 1) := by decide +kernel
theorem dX8_wordsOf_3 : decode cX8_wordsOf 3 = .ok (.istore_n 3, 1) := by decide +kernel
theorem dX8_wordsOf_4 : decode cX8_wordsOf 4 = .ok (.iload_n 3, 1) := by decide +kernel
theorem dX8_wordsOf_5 : decode cX8_wordsOf 5 = .ok (.aload_n 0, 1) := by decide +kernel
theorem dX8_wordsOf_6 : decode cX8_wordsOf 6 = .ok (.getfield 7, 3) := by decide +kernel
theorem dX8_wordsOf_9 : decode cX8_wordsOf 9 = .ok (.bipush 6, 2) := by decide +kernel
theorem dX8_wordsOf_11 : decode cX8_wordsOf 11 = .ok (.iaload, 1) := by decide +kernel
theorem dX8_wordsOf_12 : decode cX8_wordsOf 12 = .ok (.if_icmp .ge 26, 3) := by decide +kernel
theorem dX8_wordsOf_15 : decode cX8_wordsOf 15 = .ok (.iload_n 2, 1) := by decide +kernel
theorem dX8_wordsOf_16 : decode cX8_wordsOf 16 = .ok (.aload_n 0, 1) := by decide +kernel
theorem dX8_wordsOf_17 : decode cX8_wordsOf 17 = .ok (.iload_n 3, 1) := by decide +kernel
theorem dX8_wordsOf_18 : decode cX8_wordsOf 18 = .ok (.iload_n 1, 1) := by decide +kernel
theorem dX8_wordsOf_19 : decode cX8_wordsOf 19 = .ok (.invokevirtual 129, 3) := by decide +kernel
theorem dX8_wordsOf_22 : decode cX8_wordsOf 22 = .ok (.ifCond .eq 7, 3) := by decide +kernel
theorem dX8_wordsOf_25 : decode cX8_wordsOf 25 = .ok (.iconst 1, 1) := by decide +kernel
theorem dX8_wordsOf_26 : decode cX8_wordsOf 26 = .ok (.goto 4, 3) := by decide +kernel
theorem dX8_wordsOf_29 : decode cX8_wordsOf 29 = .ok (.iconst 0, 1) := by decide +kernel
theorem dX8_wordsOf_30 : decode cX8_wordsOf 30 = .ok (.iadd, 1) := by decide +kernel
theorem dX8_wordsOf_31 : decode cX8_wordsOf 31 = .ok (.istore_n 2, 1) := by decide +kernel
theorem dX8_wordsOf_32 : decode cX8_wordsOf 32 = .ok (.iinc 3 1, 3) := by decide +kernel
theorem dX8_wordsOf_35 : decode cX8_wordsOf 35 = .ok (.goto (-31), 3) := by decide +kernel
theorem dX8_wordsOf_38 : decode cX8_wordsOf 38 = .ok (.iload_n 2, 1) := by decide +kernel
theorem dX8_wordsOf_39 : decode cX8_wordsOf 39 = .ok (.ireturn, 1) := by decide +kernel
theorem dX8_allTrust_0 : decode cX8_allTrust 0 = .ok (.iconst 0, 1) := by decide +kernel
theorem dX8_allTrust_1 : decode cX8_allTrust 1 = .ok (.istore_n 1, 1) := by decide +kernel
theorem dX8_allTrust_2 : decode cX8_allTrust 2 = .ok (.iconst 0, 1) := by decide +kernel
theorem dX8_allTrust_3 : decode cX8_allTrust 3 = .ok (.istore_n 2, 1) := by decide +kernel
theorem dX8_allTrust_4 : decode cX8_allTrust 4 = .ok (.iload_n 2, 1) := by decide +kernel
theorem dX8_allTrust_5 : decode cX8_allTrust 5 = .ok (.bipush 6, 2) := by decide +kernel
theorem dX8_allTrust_7 : decode cX8_allTrust 7 = .ok (.if_icmp .ge 22, 3) := by decide +kernel
theorem dX8_allTrust_10 : decode cX8_allTrust 10 = .ok (.iload_n 1, 1) := by decide +kernel
theorem dX8_allTrust_11 : decode cX8_allTrust 11 = .ok (.aload_n 0, 1) := by decide +kernel
theorem dX8_allTrust_12 : decode cX8_allTrust 12 = .ok (.getfield 7, 3) := by decide +kernel
theorem dX8_allTrust_15 : decode cX8_allTrust 15 = .ok (.iload_n 2, 1) := by decide +kernel
theorem dX8_allTrust_16 : decode cX8_allTrust 16 = .ok (.iconst 0, 1) := by decide +kernel
theorem dX8_allTrust_17 : decode cX8_allTrust 17 = .ok (.invokestatic 29, 3) := by decide +kernel
theorem dX8_allTrust_20 : decode cX8_allTrust 20 = .ok (.iaload, 1) := by decide +kernel
theorem dX8_allTrust_21 : decode cX8_allTrust 21 = .ok (.iadd, 1) := by decide +kernel
theorem dX8_allTrust_22 : decode cX8_allTrust 22 = .ok (.istore_n 1, 1) := by decide +kernel
theorem dX8_allTrust_23 : decode cX8_allTrust 23 = .ok (.iinc 2 1, 3) := by decide +kernel
theorem dX8_allTrust_26 : decode cX8_allTrust 26 = .ok (.goto (-22), 3) := by decide +kernel
theorem dX8_allTrust_29 : decode cX8_allTrust 29 = .ok (.iload_n 1, 1) := by decide +kernel
theorem dX8_allTrust_30 : decode cX8_allTrust 30 = .ok (.ireturn, 1) := by decide +kernel
theorem dX8_count_0 : decode cX8_count 0 = .ok (.iload_n 1, 1) := by decide +kernel
theorem dX8_count_1 : decode cX8_count 1 = .ok (.iconst 0, 1) := by decide +kernel
theorem dX8_count_2 : decode cX8_count 2 = .ok (.bipush 6, 2) := by decide +kernel
theorem dX8_count_4 : decode cX8_count 4 = .ok (.invokestatic 33, 3) := by decide +kernel
theorem dX8_count_7 : decode cX8_count 7 = .ok (.ifCond .eq 10, 3) := by decide +kernel
theorem dX8_count_10 : decode cX8_count 10 = .ok (.aload_n 0, 1) := by decide +kernel
theorem dX8_count_11 : decode cX8_count 11 = .ok (.getfield 7, 3) := by decide +kernel
theorem dX8_count_14 : decode cX8_count 14 = .ok (.iload_n 1, 1) := by decide +kernel
theorem dX8_count_15 : decode cX8_count 15 = .ok (.iaload, 1) := by decide +kernel
theorem dX8_count_16 : decode cX8_count 16 = .ok (.ireturn, 1) := by decide +kernel
theorem dX8_count_17 : decode cX8_count 17 = .ok (.iload_n 1, 1) := by decide +kernel
theorem dX8_count_18 : decode cX8_count 18 = .ok (.bipush 7, 2) := by decide +kernel
theorem dX8_count_20 : decode cX8_count 20 = .ok (.bipush 10, 2) := by decide +kernel
theorem dX8_count_22 : decode cX8_count 22 = .ok (.invokestatic 33, 3) := by decide +kernel
theorem dX8_count_25 : decode cX8_count 25 = .ok (.ifCond .eq 12, 3) := by decide +kernel
theorem dX8_count_28 : decode cX8_count 28 = .ok (.aload_n 0, 1) := by decide +kernel
theorem dX8_count_29 : decode cX8_count 29 = .ok (.iload_n 1, 1) := by decide +kernel
theorem dX8_count_30 : decode cX8_count 30 = .ok (.bipush 7, 2) := by decide +kernel
theorem dX8_count_32 : decode cX8_count 32 = .ok (.isub, 1) := by decide +kernel
theorem dX8_count_33 : decode cX8_count 33 = .ok (.invokevirtual 157, 3) := by decide +kernel
theorem dX8_count_36 : decode cX8_count 36 = .ok (.ireturn, 1) := by decide +kernel
theorem dX8_count_37 : decode cX8_count 37 = .ok (.iload_n 1, 1) := by decide +kernel
theorem dX8_count_38 : decode cX8_count 38 = .ok (.tableswitch 70 11 17 #[42, 42, 42, 42, 55, 60, 65], 42) := by decide +kernel
theorem dX8_count_80 : decode cX8_count 80 = .ok (.aload_n 0, 1) := by decide +kernel
theorem dX8_count_81 : decode cX8_count 81 = .ok (.getfield 7, 3) := by decide +kernel
theorem dX8_count_84 : decode cX8_count 84 = .ok (.bipush 7, 2) := by decide +kernel
theorem dX8_count_86 : decode cX8_count 86 = .ok (.iload_n 1, 1) := by decide +kernel
theorem dX8_count_87 : decode cX8_count 87 = .ok (.iadd, 1) := by decide +kernel
theorem dX8_count_88 : decode cX8_count 88 = .ok (.bipush 11, 2) := by decide +kernel
theorem dX8_count_90 : decode cX8_count 90 = .ok (.isub, 1) := by decide +kernel
theorem dX8_count_91 : decode cX8_count 91 = .ok (.iaload, 1) := by decide +kernel
theorem dX8_count_92 : decode cX8_count 92 = .ok (.ireturn, 1) := by decide +kernel
theorem dX8_count_93 : decode cX8_count 93 = .ok (.aload_n 0, 1) := by decide +kernel
theorem dX8_count_94 : decode cX8_count 94 = .ok (.invokevirtual 160, 3) := by decide +kernel
theorem dX8_count_97 : decode cX8_count 97 = .ok (.ireturn, 1) := by decide +kernel
theorem dX8_count_98 : decode cX8_count 98 = .ok (.aload_n 0, 1) := by decide +kernel
theorem dX8_count_99 : decode cX8_count 99 = .ok (.getfield 94, 3) := by decide +kernel
theorem dX8_count_102 : decode cX8_count 102 = .ok (.ireturn, 1) := by decide +kernel
theorem dX8_count_103 : decode cX8_count 103 = .ok (.aload_n 0, 1) := by decide +kernel
theorem dX8_count_104 : decode cX8_count 104 = .ok (.getfield 40, 3) := by decide +kernel
theorem dX8_count_107 : decode cX8_count 107 = .ok (.ireturn, 1) := by decide +kernel
theorem dX8_count_108 : decode cX8_count 108 = .ok (.bipush (-2), 2) := by decide +kernel
theorem dX8_count_110 : decode cX8_count 110 = .ok (.ireturn, 1) := by decide +kernel
theorem dX8_lacks_0 : decode cX8_lacks 0 = .ok (.aload_n 0, 1) := by decide +kernel
theorem dX8_lacks_1 : decode cX8_lacks 1 = .ok (.iload_n 1, 1) := by decide +kernel
theorem dX8_lacks_2 : decode cX8_lacks 2 = .ok (.invokevirtual 57, 3) := by decide +kernel
theorem dX8_lacks_5 : decode cX8_lacks 5 = .ok (.aload_n 0, 1) := by decide +kernel
theorem dX8_lacks_6 : decode cX8_lacks 6 = .ok (.iload_n 1, 1) := by decide +kernel
theorem dX8_lacks_7 : decode cX8_lacks 7 = .ok (.invokevirtual 54, 3) := by decide +kernel
theorem dX8_lacks_10 : decode cX8_lacks 10 = .ok (.isub, 1) := by decide +kernel
theorem dX8_lacks_11 : decode cX8_lacks 11 = .ok (.istore_n 2, 1) := by decide +kernel
theorem dX8_lacks_12 : decode cX8_lacks 12 = .ok (.aload_n 0, 1) := by decide +kernel
theorem dX8_lacks_13 : decode cX8_lacks 13 = .ok (.getfield 7, 3) := by decide +kernel
theorem dX8_lacks_16 : decode cX8_lacks 16 = .ok (.iconst 1, 1) := by decide +kernel
theorem dX8_lacks_17 : decode cX8_lacks 17 = .ok (.iaload, 1) := by decide +kernel
theorem dX8_lacks_18 : decode cX8_lacks 18 = .ok (.aload_n 0, 1) := by decide +kernel
theorem dX8_lacks_19 : decode cX8_lacks 19 = .ok (.iload_n 1, 1) := by decide +kernel
theorem dX8_lacks_20 : decode cX8_lacks 20 = .ok (.invokevirtual 66, 3) := by decide +kernel
theorem dX8_lacks_23 : decode cX8_lacks 23 = .ok (.isub, 1) := by decide +kernel
theorem dX8_lacks_24 : decode cX8_lacks 24 = .ok (.istore_n 3, 1) := by decide +kernel
theorem dX8_lacks_25 : decode cX8_lacks 25 = .ok (.iload_n 2, 1) := by decide +kernel
theorem dX8_lacks_26 : decode cX8_lacks 26 = .ok (.iload_n 3, 1) := by decide +kernel
theorem dX8_lacks_27 : decode cX8_lacks 27 = .ok (.if_icmp .le 7, 3) := by decide +kernel
theorem dX8_lacks_30 : decode cX8_lacks 30 = .ok (.iload_n 2, 1) := by decide +kernel
theorem dX8_lacks_31 : decode cX8_lacks 31 = .ok (.goto 4, 3) := by decide +kernel
theorem dX8_lacks_34 : decode cX8_lacks 34 = .ok (.iload_n 3, 1) := by decide +kernel
theorem dX8_lacks_35 : decode cX8_lacks 35 = .ok (.istore 4, 2) := by decide +kernel
theorem dX8_lacks_37 : decode cX8_lacks 37 = .ok (.iload 4, 2) := by decide +kernel
theorem dX8_lacks_39 : decode cX8_lacks 39 = .ok (.ifCond .le 8, 3) := by decide +kernel
theorem dX8_lacks_42 : decode cX8_lacks 42 = .ok (.iload 4, 2) := by decide +kernel
theorem dX8_lacks_44 : decode cX8_lacks 44 = .ok (.goto 4, 3) := by decide +kernel
theorem dX8_lacks_47 : decode cX8_lacks 47 = .ok (.iconst 0, 1) := by decide +kernel
theorem dX8_lacks_48 : decode cX8_lacks 48 = .ok (.ireturn, 1) := by decide +kernel
theorem dX8_lacking_0 : decode cX8_lacking 0 = .ok (.aload_n 0, 1) := by decide +kernel
theorem dX8_lacking_1 : decode cX8_lacking 1 = .ok (.iload_n 1, 1) := by decide +kernel
theorem dX8_lacking_2 : decode cX8_lacking 2 = .ok (.invokevirtual 125, 3) := by decide +kernel
theorem dX8_lacking_5 : decode cX8_lacking 5 = .ok (.ifCond .ne 7, 3) := by decide +kernel
theorem dX8_lacking_8 : decode cX8_lacking 8 = .ok (.iconst (-1), 1) := by decide +kernel
theorem dX8_lacking_9 : decode cX8_lacking 9 = .ok (.goto 22, 3) := by decide +kernel
theorem dX8_lacking_12 : decode cX8_lacking 12 = .ok (.aload_n 0, 1) := by decide +kernel
theorem dX8_lacking_13 : decode cX8_lacking 13 = .ok (.iload_n 1, 1) := by decide +kernel
theorem dX8_lacking_14 : decode cX8_lacking 14 = .ok (.iconst 1, 1) := by decide +kernel
theorem dX8_lacking_15 : decode cX8_lacking 15 = .ok (.invokevirtual 129, 3) := by decide +kernel
theorem dX8_lacking_18 : decode cX8_lacking 18 = .ok (.ifCond .eq 11, 3) := by decide +kernel
theorem dX8_lacking_21 : decode cX8_lacking 21 = .ok (.aload_n 0, 1) := by decide +kernel
theorem dX8_lacking_22 : decode cX8_lacking 22 = .ok (.iload_n 1, 1) := by decide +kernel
theorem dX8_lacking_23 : decode cX8_lacking 23 = .ok (.invokevirtual 163, 3) := by decide +kernel
theorem dX8_lacking_26 : decode cX8_lacking 26 = .ok (.goto 5, 3) := by decide +kernel
theorem dX8_lacking_29 : decode cX8_lacking 29 = .ok (.bipush (-5), 2) := by decide +kernel
theorem dX8_lacking_31 : decode cX8_lacking 31 = .ok (.ireturn, 1) := by decide +kernel
theorem dX8_answersFor_0 : decode cX8_answersFor 0 = .ok (.iload_n 1, 1) := by decide +kernel
theorem dX8_answersFor_1 : decode cX8_answersFor 1 = .ok (.invokestatic 139, 3) := by decide +kernel
theorem dX8_answersFor_4 : decode cX8_answersFor 4 = .ok (.ifCond .eq 11, 3) := by decide +kernel
theorem dX8_answersFor_7 : decode cX8_answersFor 7 = .ok (.aload_n 0, 1) := by decide +kernel
theorem dX8_answersFor_8 : decode cX8_answersFor 8 = .ok (.iload_n 2, 1) := by decide +kernel
theorem dX8_answersFor_9 : decode cX8_answersFor 9 = .ok (.invokevirtual 125, 3) := by decide +kernel
theorem dX8_answersFor_12 : decode cX8_answersFor 12 = .ok (.ifCond .ne 5, 3) := by decide +kernel
theorem dX8_answersFor_15 : decode cX8_answersFor 15 = .ok (.iconst (-1), 1) := by decide +kernel
theorem dX8_answersFor_16 : decode cX8_answersFor 16 = .ok (.ireturn, 1) := by decide +kernel
theorem dX8_answersFor_17 : decode cX8_answersFor 17 = .ok (.aload_n 0, 1) := by decide +kernel
theorem dX8_answersFor_18 : decode cX8_answersFor 18 = .ok (.iload_n 2, 1) := by decide +kernel
theorem dX8_answersFor_19 : decode cX8_answersFor 19 = .ok (.iconst 1, 1) := by decide +kernel
theorem dX8_answersFor_20 : decode cX8_answersFor 20 = .ok (.invokevirtual 129, 3) := by decide +kernel
theorem dX8_answersFor_23 : decode cX8_answersFor 23 = .ok (.ifCond .ne 6, 3) := by decide +kernel
theorem dX8_answersFor_26 : decode cX8_answersFor 26 = .ok (.bipush (-5), 2) := by decide +kernel
theorem dX8_answersFor_28 : decode cX8_answersFor 28 = .ok (.ireturn, 1) := by decide +kernel
theorem dX8_answersFor_29 : decode cX8_answersFor 29 = .ok (.aload_n 0, 1) := by decide +kernel
theorem dX8_answersFor_30 : decode cX8_answersFor 30 = .ok (.iload_n 2, 1) := by decide +kernel
theorem dX8_answersFor_31 : decode cX8_answersFor 31 = .ok (.invokevirtual 163, 3) := by decide +kernel
theorem dX8_answersFor_34 : decode cX8_answersFor 34 = .ok (.istore_n 3, 1) := by decide +kernel
theorem dX8_answersFor_35 : decode cX8_answersFor 35 = .ok (.aload_n 0, 1) := by decide +kernel
theorem dX8_answersFor_36 : decode cX8_answersFor 36 = .ok (.getfield 7, 3) := by decide +kernel
theorem dX8_answersFor_39 : decode cX8_answersFor 39 = .ok (.iload_n 1, 1) := by decide +kernel
theorem dX8_answersFor_40 : decode cX8_answersFor 40 = .ok (.iconst 0, 1) := by decide +kernel
theorem dX8_answersFor_41 : decode cX8_answersFor 41 = .ok (.invokestatic 29, 3) := by decide +kernel
theorem dX8_answersFor_44 : decode cX8_answersFor 44 = .ok (.iaload, 1) := by decide +kernel
theorem dX8_answersFor_45 : decode cX8_answersFor 45 = .ok (.istore 4, 2) := by decide +kernel
theorem dX8_answersFor_47 : decode cX8_answersFor 47 = .ok (.iconst 1, 1) := by decide +kernel
theorem dX8_answersFor_48 : decode cX8_answersFor 48 = .ok (.istore 5, 2) := by decide +kernel
theorem dX8_answersFor_50 : decode cX8_answersFor 50 = .ok (.iload 5, 2) := by decide +kernel
theorem dX8_answersFor_52 : decode cX8_answersFor 52 = .ok (.bipush 100, 2) := by decide +kernel
theorem dX8_answersFor_54 : decode cX8_answersFor 54 = .ok (.if_icmp .gt 51, 3) := by decide +kernel
theorem dX8_answersFor_57 : decode cX8_answersFor 57 = .ok (.iload_n 3, 1) := by decide +kernel
theorem dX8_answersFor_58 : decode cX8_answersFor 58 = .ok (.iload 4, 2) := by decide +kernel
theorem dX8_answersFor_60 : decode cX8_answersFor 60 = .ok (.isub, 1) := by decide +kernel
theorem dX8_answersFor_61 : decode cX8_answersFor 61 = .ok (.istore_n 3, 1) := by decide +kernel
theorem dX8_answersFor_62 : decode cX8_answersFor 62 = .ok (.iload 4, 2) := by decide +kernel
theorem dX8_answersFor_64 : decode cX8_answersFor 64 = .ok (.aload_n 0, 1) := by decide +kernel
theorem dX8_answersFor_65 : decode cX8_answersFor 65 = .ok (.getfield 7, 3) := by decide +kernel
theorem dX8_answersFor_68 : decode cX8_answersFor 68 = .ok (.iconst 4, 1) := by decide +kernel
theorem dX8_answersFor_69 : decode cX8_answersFor 69 = .ok (.iaload, 1) := by decide +kernel
theorem dX8_answersFor_70 : decode cX8_answersFor 70 = .ok (.iadd, 1) := by decide +kernel
theorem dX8_answersFor_71 : decode cX8_answersFor 71 = .ok (.bipush 100, 2) := by decide +kernel
theorem dX8_answersFor_73 : decode cX8_answersFor 73 = .ok (.if_icmp .le 8, 3) := by decide +kernel
theorem dX8_answersFor_76 : decode cX8_answersFor 76 = .ok (.bipush 100, 2) := by decide +kernel
theorem dX8_answersFor_78 : decode cX8_answersFor 78 = .ok (.goto 12, 3) := by decide +kernel
theorem dX8_answersFor_81 : decode cX8_answersFor 81 = .ok (.iload 4, 2) := by decide +kernel
theorem dX8_answersFor_83 : decode cX8_answersFor 83 = .ok (.aload_n 0, 1) := by decide +kernel
theorem dX8_answersFor_84 : decode cX8_answersFor 84 = .ok (.getfield 7, 3) := by decide +kernel
theorem dX8_answersFor_87 : decode cX8_answersFor 87 = .ok (.iconst 4, 1) := by decide +kernel
theorem dX8_answersFor_88 : decode cX8_answersFor 88 = .ok (.iaload, 1) := by decide +kernel
theorem dX8_answersFor_89 : decode cX8_answersFor 89 = .ok (.iadd, 1) := by decide +kernel
theorem dX8_answersFor_90 : decode cX8_answersFor 90 = .ok (.istore 4, 2) := by decide +kernel
theorem dX8_answersFor_92 : decode cX8_answersFor 92 = .ok (.iload_n 3, 1) := by decide +kernel
theorem dX8_answersFor_93 : decode cX8_answersFor 93 = .ok (.ifCond .gt 6, 3) := by decide +kernel
theorem dX8_answersFor_96 : decode cX8_answersFor 96 = .ok (.iload 5, 2) := by decide +kernel
theorem dX8_answersFor_98 : decode cX8_answersFor 98 = .ok (.ireturn, 1) := by decide +kernel
theorem dX8_answersFor_99 : decode cX8_answersFor 99 = .ok (.iinc 5 1, 3) := by decide +kernel
theorem dX8_answersFor_102 : decode cX8_answersFor 102 = .ok (.goto (-52), 3) := by decide +kernel
theorem dX8_answersFor_105 : decode cX8_answersFor 105 = .ok (.bipush (-6), 2) := by decide +kernel
theorem dX8_answersFor_107 : decode cX8_answersFor 107 = .ok (.ireturn, 1) := by decide +kernel
theorem dX8_ifVoted_0 : decode cX8_ifVoted 0 = .ok (.iload_n 1, 1) := by decide +kernel
theorem dX8_ifVoted_1 : decode cX8_ifVoted 1 = .ok (.invokestatic 139, 3) := by decide +kernel
theorem dX8_ifVoted_4 : decode cX8_ifVoted 4 = .ok (.ifCond .eq 11, 3) := by decide +kernel
theorem dX8_ifVoted_7 : decode cX8_ifVoted 7 = .ok (.aload_n 0, 1) := by decide +kernel
theorem dX8_ifVoted_8 : decode cX8_ifVoted 8 = .ok (.iload_n 2, 1) := by decide +kernel
theorem dX8_ifVoted_9 : decode cX8_ifVoted 9 = .ok (.invokevirtual 125, 3) := by decide +kernel
theorem dX8_ifVoted_12 : decode cX8_ifVoted 12 = .ok (.ifCond .ne 5, 3) := by decide +kernel
theorem dX8_ifVoted_15 : decode cX8_ifVoted 15 = .ok (.iconst (-1), 1) := by decide +kernel
theorem dX8_ifVoted_16 : decode cX8_ifVoted 16 = .ok (.ireturn, 1) := by decide +kernel
theorem dX8_ifVoted_17 : decode cX8_ifVoted 17 = .ok (.iload_n 3, 1) := by decide +kernel
theorem dX8_ifVoted_18 : decode cX8_ifVoted 18 = .ok (.iconst 1, 1) := by decide +kernel
theorem dX8_ifVoted_19 : decode cX8_ifVoted 19 = .ok (.bipush 60, 2) := by decide +kernel
theorem dX8_ifVoted_21 : decode cX8_ifVoted 21 = .ok (.invokestatic 33, 3) := by decide +kernel
theorem dX8_ifVoted_24 : decode cX8_ifVoted 24 = .ok (.ifCond .ne 6, 3) := by decide +kernel
theorem dX8_ifVoted_27 : decode cX8_ifVoted 27 = .ok (.bipush (-2), 2) := by decide +kernel
theorem dX8_ifVoted_29 : decode cX8_ifVoted 29 = .ok (.ireturn, 1) := by decide +kernel
theorem dX8_ifVoted_30 : decode cX8_ifVoted 30 = .ok (.aload_n 0, 1) := by decide +kernel
theorem dX8_ifVoted_31 : decode cX8_ifVoted 31 = .ok (.iload_n 2, 1) := by decide +kernel
theorem dX8_ifVoted_32 : decode cX8_ifVoted 32 = .ok (.iconst 1, 1) := by decide +kernel
theorem dX8_ifVoted_33 : decode cX8_ifVoted 33 = .ok (.invokevirtual 129, 3) := by decide +kernel
theorem dX8_ifVoted_36 : decode cX8_ifVoted 36 = .ok (.ifCond .eq 16, 3) := by decide +kernel
theorem dX8_ifVoted_39 : decode cX8_ifVoted 39 = .ok (.aload_n 0, 1) := by decide +kernel
theorem dX8_ifVoted_40 : decode cX8_ifVoted 40 = .ok (.getfield 7, 3) := by decide +kernel
theorem dX8_ifVoted_43 : decode cX8_ifVoted 43 = .ok (.iload_n 2, 1) := by decide +kernel
theorem dX8_ifVoted_44 : decode cX8_ifVoted 44 = .ok (.iconst 4, 1) := by decide +kernel
theorem dX8_ifVoted_45 : decode cX8_ifVoted 45 = .ok (.invokestatic 37, 3) := by decide +kernel
theorem dX8_ifVoted_48 : decode cX8_ifVoted 48 = .ok (.iaload, 1) := by decide +kernel
theorem dX8_ifVoted_49 : decode cX8_ifVoted 49 = .ok (.ifCond .ne 6, 3) := by decide +kernel
theorem dX8_ifVoted_52 : decode cX8_ifVoted 52 = .ok (.bipush (-5), 2) := by decide +kernel
theorem dX8_ifVoted_54 : decode cX8_ifVoted 54 = .ok (.ireturn, 1) := by decide +kernel
theorem dX8_ifVoted_55 : decode cX8_ifVoted 55 = .ok (.aload_n 0, 1) := by decide +kernel
theorem dX8_ifVoted_56 : decode cX8_ifVoted 56 = .ok (.getfield 7, 3) := by decide +kernel
theorem dX8_ifVoted_59 : decode cX8_ifVoted 59 = .ok (.iload_n 1, 1) := by decide +kernel
theorem dX8_ifVoted_60 : decode cX8_ifVoted 60 = .ok (.iconst 0, 1) := by decide +kernel
theorem dX8_ifVoted_61 : decode cX8_ifVoted 61 = .ok (.invokestatic 29, 3) := by decide +kernel
theorem dX8_ifVoted_64 : decode cX8_ifVoted 64 = .ok (.iaload, 1) := by decide +kernel
theorem dX8_ifVoted_65 : decode cX8_ifVoted 65 = .ok (.istore 4, 2) := by decide +kernel
theorem dX8_ifVoted_67 : decode cX8_ifVoted 67 = .ok (.aload_n 0, 1) := by decide +kernel
theorem dX8_ifVoted_68 : decode cX8_ifVoted 68 = .ok (.iload_n 2, 1) := by decide +kernel
theorem dX8_ifVoted_69 : decode cX8_ifVoted 69 = .ok (.aload_n 0, 1) := by decide +kernel
theorem dX8_ifVoted_70 : decode cX8_ifVoted 70 = .ok (.iload_n 2, 1) := by decide +kernel
theorem dX8_ifVoted_71 : decode cX8_ifVoted 71 = .ok (.invokevirtual 54, 3) := by decide +kernel
theorem dX8_ifVoted_74 : decode cX8_ifVoted 74 = .ok (.iload 4, 2) := by decide +kernel
theorem dX8_ifVoted_76 : decode cX8_ifVoted 76 = .ok (.iadd, 1) := by decide +kernel
theorem dX8_ifVoted_77 : decode cX8_ifVoted 77 = .ok (.aload_n 0, 1) := by decide +kernel
theorem dX8_ifVoted_78 : decode cX8_ifVoted 78 = .ok (.iload_n 2, 1) := by decide +kernel
theorem dX8_ifVoted_79 : decode cX8_ifVoted 79 = .ok (.invokevirtual 66, 3) := by decide +kernel
theorem dX8_ifVoted_82 : decode cX8_ifVoted 82 = .ok (.iload 4, 2) := by decide +kernel
theorem dX8_ifVoted_84 : decode cX8_ifVoted 84 = .ok (.iadd, 1) := by decide +kernel
theorem dX8_ifVoted_85 : decode cX8_ifVoted 85 = .ok (.invokevirtual 69, 3) := by decide +kernel
theorem dX8_ifVoted_88 : decode cX8_ifVoted 88 = .ok (.istore 5, 2) := by decide +kernel
theorem dX8_ifVoted_90 : decode cX8_ifVoted 90 = .ok (.iload 5, 2) := by decide +kernel
theorem dX8_ifVoted_92 : decode cX8_ifVoted 92 = .ok (.ifCond .eq 34, 3) := by decide +kernel
theorem dX8_ifVoted_95 : decode cX8_ifVoted 95 = .ok (.aload_n 0, 1) := by decide +kernel
theorem dX8_ifVoted_96 : decode cX8_ifVoted 96 = .ok (.aload_n 0, 1) := by decide +kernel
theorem dX8_ifVoted_97 : decode cX8_ifVoted 97 = .ok (.getfield 7, 3) := by decide +kernel
theorem dX8_ifVoted_100 : decode cX8_ifVoted 100 = .ok (.iload_n 2, 1) := by decide +kernel
theorem dX8_ifVoted_101 : decode cX8_ifVoted 101 = .ok (.iconst 4, 1) := by decide +kernel
theorem dX8_ifVoted_102 : decode cX8_ifVoted 102 = .ok (.invokestatic 37, 3) := by decide +kernel
theorem dX8_ifVoted_105 : decode cX8_ifVoted 105 = .ok (.iaload, 1) := by decide +kernel
theorem dX8_ifVoted_106 : decode cX8_ifVoted 106 = .ok (.iconst 1, 1) := by decide +kernel
theorem dX8_ifVoted_107 : decode cX8_ifVoted 107 = .ok (.iadd, 1) := by decide +kernel
theorem dX8_ifVoted_108 : decode cX8_ifVoted 108 = .ok (.aload_n 0, 1) := by decide +kernel
theorem dX8_ifVoted_109 : decode cX8_ifVoted 109 = .ok (.getfield 7, 3) := by decide +kernel
theorem dX8_ifVoted_112 : decode cX8_ifVoted 112 = .ok (.iload_n 2, 1) := by decide +kernel
theorem dX8_ifVoted_113 : decode cX8_ifVoted 113 = .ok (.iconst 5, 1) := by decide +kernel
theorem dX8_ifVoted_114 : decode cX8_ifVoted 114 = .ok (.invokestatic 37, 3) := by decide +kernel
theorem dX8_ifVoted_117 : decode cX8_ifVoted 117 = .ok (.iaload, 1) := by decide +kernel
theorem dX8_ifVoted_118 : decode cX8_ifVoted 118 = .ok (.iload_n 3, 1) := by decide +kernel
theorem dX8_ifVoted_119 : decode cX8_ifVoted 119 = .ok (.iadd, 1) := by decide +kernel
theorem dX8_ifVoted_120 : decode cX8_ifVoted 120 = .ok (.invokevirtual 72, 3) := by decide +kernel
theorem dX8_ifVoted_123 : decode cX8_ifVoted 123 = .ok (.goto 4, 3) := by decide +kernel
theorem dX8_ifVoted_126 : decode cX8_ifVoted 126 = .ok (.iconst 1, 1) := by decide +kernel
theorem dX8_ifVoted_127 : decode cX8_ifVoted 127 = .ok (.ireturn, 1) := by decide +kernel
theorem dX8_mostMissed_0 : decode cX8_mostMissed 0 = .ok (.bipush (-6), 2) := by decide +kernel
theorem dX8_mostMissed_2 : decode cX8_mostMissed 2 = .ok (.istore_n 1, 1) := by decide +kernel
theorem dX8_mostMissed_3 : decode cX8_mostMissed 3 = .ok (.aload_n 0, 1) := by decide +kernel
theorem dX8_mostMissed_4 : decode cX8_mostMissed 4 = .ok (.getfield 7, 3) := by decide +kernel
theorem dX8_mostMissed_7 : decode cX8_mostMissed 7 = .ok (.bipush 6, 2) := by decide +kernel
theorem dX8_mostMissed_9 : decode cX8_mostMissed 9 = .ok (.iaload, 1) := by decide +kernel
theorem dX8_mostMissed_10 : decode cX8_mostMissed 10 = .ok (.iconst 1, 1) := by decide +kernel
theorem dX8_mostMissed_11 : decode cX8_mostMissed 11 = .ok (.isub, 1) := by decide +kernel
theorem dX8_mostMissed_12 : decode cX8_mostMissed 12 = .ok (.istore_n 2, 1) := by decide +kernel
theorem dX8_mostMissed_13 : decode cX8_mostMissed 13 = .ok (.iload_n 2, 1) := by decide +kernel
theorem dX8_mostMissed_14 : decode cX8_mostMissed 14 = .ok (.ifCond .lt 85, 3) := by decide +kernel
theorem dX8_mostMissed_17 : decode cX8_mostMissed 17 = .ok (.aload_n 0, 1) := by decide +kernel
theorem dX8_mostMissed_18 : decode cX8_mostMissed 18 = .ok (.iload_n 2, 1) := by decide +kernel
theorem dX8_mostMissed_19 : decode cX8_mostMissed 19 = .ok (.iconst 0, 1) := by decide +kernel
theorem dX8_mostMissed_20 : decode cX8_mostMissed 20 = .ok (.invokevirtual 129, 3) := by decide +kernel
theorem dX8_mostMissed_23 : decode cX8_mostMissed 23 = .ok (.ifCond .ne 12, 3) := by decide +kernel
theorem dX8_mostMissed_26 : decode cX8_mostMissed 26 = .ok (.aload_n 0, 1) := by decide +kernel
theorem dX8_mostMissed_27 : decode cX8_mostMissed 27 = .ok (.iload_n 2, 1) := by decide +kernel
theorem dX8_mostMissed_28 : decode cX8_mostMissed 28 = .ok (.iconst 2, 1) := by decide +kernel
theorem dX8_mostMissed_29 : decode cX8_mostMissed 29 = .ok (.invokevirtual 129, 3) := by decide +kernel
theorem dX8_mostMissed_32 : decode cX8_mostMissed 32 = .ok (.ifCond .eq 20, 3) := by decide +kernel
theorem dX8_mostMissed_35 : decode cX8_mostMissed 35 = .ok (.aload_n 0, 1) := by decide +kernel
theorem dX8_mostMissed_36 : decode cX8_mostMissed 36 = .ok (.getfield 7, 3) := by decide +kernel
theorem dX8_mostMissed_39 : decode cX8_mostMissed 39 = .ok (.iload_n 2, 1) := by decide +kernel
theorem dX8_mostMissed_40 : decode cX8_mostMissed 40 = .ok (.iconst 3, 1) := by decide +kernel
theorem dX8_mostMissed_41 : decode cX8_mostMissed 41 = .ok (.invokestatic 37, 3) := by decide +kernel
theorem dX8_mostMissed_44 : decode cX8_mostMissed 44 = .ok (.iaload, 1) := by decide +kernel
theorem dX8_mostMissed_45 : decode cX8_mostMissed 45 = .ok (.ifCond .le 7, 3) := by decide +kernel
theorem dX8_mostMissed_48 : decode cX8_mostMissed 48 = .ok (.iconst 1, 1) := by decide +kernel
theorem dX8_mostMissed_49 : decode cX8_mostMissed 49 = .ok (.goto 4, 3) := by decide +kernel
theorem dX8_mostMissed_52 : decode cX8_mostMissed 52 = .ok (.iconst 0, 1) := by decide +kernel
theorem dX8_mostMissed_53 : decode cX8_mostMissed 53 = .ok (.istore_n 3, 1) := by decide +kernel
theorem dX8_mostMissed_54 : decode cX8_mostMissed 54 = .ok (.iload_n 3, 1) := by decide +kernel
theorem dX8_mostMissed_55 : decode cX8_mostMissed 55 = .ok (.ifCond .eq 36, 3) := by decide +kernel
theorem dX8_mostMissed_58 : decode cX8_mostMissed 58 = .ok (.iload_n 1, 1) := by decide +kernel
theorem dX8_mostMissed_59 : decode cX8_mostMissed 59 = .ok (.bipush (-6), 2) := by decide +kernel
theorem dX8_mostMissed_61 : decode cX8_mostMissed 61 = .ok (.if_icmp .eq 26, 3) := by decide +kernel
theorem dX8_mostMissed_64 : decode cX8_mostMissed 64 = .ok (.aload_n 0, 1) := by decide +kernel
theorem dX8_mostMissed_65 : decode cX8_mostMissed 65 = .ok (.getfield 7, 3) := by decide +kernel
theorem dX8_mostMissed_68 : decode cX8_mostMissed 68 = .ok (.iload_n 2, 1) := by decide +kernel
theorem dX8_mostMissed_69 : decode cX8_mostMissed 69 = .ok (.iconst 3, 1) := by decide +kernel
theorem dX8_mostMissed_70 : decode cX8_mostMissed 70 = .ok (.invokestatic 37, 3) := by decide +kernel
theorem dX8_mostMissed_73 : decode cX8_mostMissed 73 = .ok (.iaload, 1) := by decide +kernel
theorem dX8_mostMissed_74 : decode cX8_mostMissed 74 = .ok (.aload_n 0, 1) := by decide +kernel
theorem dX8_mostMissed_75 : decode cX8_mostMissed 75 = .ok (.getfield 7, 3) := by decide +kernel
theorem dX8_mostMissed_78 : decode cX8_mostMissed 78 = .ok (.iload_n 1, 1) := by decide +kernel
theorem dX8_mostMissed_79 : decode cX8_mostMissed 79 = .ok (.iconst 3, 1) := by decide +kernel
theorem dX8_mostMissed_80 : decode cX8_mostMissed 80 = .ok (.invokestatic 37, 3) := by decide +kernel
theorem dX8_mostMissed_83 : decode cX8_mostMissed 83 = .ok (.iaload, 1) := by decide +kernel
theorem dX8_mostMissed_84 : decode cX8_mostMissed 84 = .ok (.if_icmp .lt 7, 3) := by decide +kernel
theorem dX8_mostMissed_87 : decode cX8_mostMissed 87 = .ok (.iload_n 2, 1) := by decide +kernel
theorem dX8_mostMissed_88 : decode cX8_mostMissed 88 = .ok (.goto 4, 3) := by decide +kernel
theorem dX8_mostMissed_91 : decode cX8_mostMissed 91 = .ok (.iload_n 1, 1) := by decide +kernel
theorem dX8_mostMissed_92 : decode cX8_mostMissed 92 = .ok (.istore_n 1, 1) := by decide +kernel
theorem dX8_mostMissed_93 : decode cX8_mostMissed 93 = .ok (.iinc 2 (-1), 3) := by decide +kernel
theorem dX8_mostMissed_96 : decode cX8_mostMissed 96 = .ok (.goto (-83), 3) := by decide +kernel
theorem dX8_mostMissed_99 : decode cX8_mostMissed 99 = .ok (.iload_n 1, 1) := by decide +kernel
theorem dX8_mostMissed_100 : decode cX8_mostMissed 100 = .ok (.ireturn, 1) := by decide +kernel
theorem dX8_nearest_0 : decode cX8_nearest 0 = .ok (.bipush (-6), 2) := by decide +kernel
theorem dX8_nearest_2 : decode cX8_nearest 2 = .ok (.istore_n 1, 1) := by decide +kernel
theorem dX8_nearest_3 : decode cX8_nearest 3 = .ok (.aload_n 0, 1) := by decide +kernel
theorem dX8_nearest_4 : decode cX8_nearest 4 = .ok (.getfield 7, 3) := by decide +kernel
theorem dX8_nearest_7 : decode cX8_nearest 7 = .ok (.bipush 6, 2) := by decide +kernel
theorem dX8_nearest_9 : decode cX8_nearest 9 = .ok (.iaload, 1) := by decide +kernel
theorem dX8_nearest_10 : decode cX8_nearest 10 = .ok (.iconst 1, 1) := by decide +kernel
theorem dX8_nearest_11 : decode cX8_nearest 11 = .ok (.isub, 1) := by decide +kernel
theorem dX8_nearest_12 : decode cX8_nearest 12 = .ok (.istore_n 2, 1) := by decide +kernel
theorem dX8_nearest_13 : decode cX8_nearest 13 = .ok (.iload_n 2, 1) := by decide +kernel
theorem dX8_nearest_14 : decode cX8_nearest 14 = .ok (.ifCond .lt 43, 3) := by decide +kernel
theorem dX8_nearest_17 : decode cX8_nearest 17 = .ok (.aload_n 0, 1) := by decide +kernel
theorem dX8_nearest_18 : decode cX8_nearest 18 = .ok (.iload_n 2, 1) := by decide +kernel
theorem dX8_nearest_19 : decode cX8_nearest 19 = .ok (.iconst 1, 1) := by decide +kernel
theorem dX8_nearest_20 : decode cX8_nearest 20 = .ok (.invokevirtual 129, 3) := by decide +kernel
theorem dX8_nearest_23 : decode cX8_nearest 23 = .ok (.ifCond .eq 26, 3) := by decide +kernel
theorem dX8_nearest_26 : decode cX8_nearest 26 = .ok (.iload_n 1, 1) := by decide +kernel
theorem dX8_nearest_27 : decode cX8_nearest 27 = .ok (.bipush (-6), 2) := by decide +kernel
theorem dX8_nearest_29 : decode cX8_nearest 29 = .ok (.if_icmp .eq 16, 3) := by decide +kernel
theorem dX8_nearest_32 : decode cX8_nearest 32 = .ok (.aload_n 0, 1) := by decide +kernel
theorem dX8_nearest_33 : decode cX8_nearest 33 = .ok (.iload_n 2, 1) := by decide +kernel
theorem dX8_nearest_34 : decode cX8_nearest 34 = .ok (.invokevirtual 163, 3) := by decide +kernel
theorem dX8_nearest_37 : decode cX8_nearest 37 = .ok (.aload_n 0, 1) := by decide +kernel
theorem dX8_nearest_38 : decode cX8_nearest 38 = .ok (.iload_n 1, 1) := by decide +kernel
theorem dX8_nearest_39 : decode cX8_nearest 39 = .ok (.invokevirtual 163, 3) := by decide +kernel
theorem dX8_nearest_42 : decode cX8_nearest 42 = .ok (.if_icmp .gt 7, 3) := by decide +kernel
theorem dX8_nearest_45 : decode cX8_nearest 45 = .ok (.iload_n 2, 1) := by decide +kernel
theorem dX8_nearest_46 : decode cX8_nearest 46 = .ok (.goto 4, 3) := by decide +kernel
theorem dX8_nearest_49 : decode cX8_nearest 49 = .ok (.iload_n 1, 1) := by decide +kernel
theorem dX8_nearest_50 : decode cX8_nearest 50 = .ok (.istore_n 1, 1) := by decide +kernel
theorem dX8_nearest_51 : decode cX8_nearest 51 = .ok (.iinc 2 (-1), 3) := by decide +kernel
theorem dX8_nearest_54 : decode cX8_nearest 54 = .ok (.goto (-41), 3) := by decide +kernel
theorem dX8_nearest_57 : decode cX8_nearest 57 = .ok (.iload_n 1, 1) := by decide +kernel
theorem dX8_nearest_58 : decode cX8_nearest 58 = .ok (.ireturn, 1) := by decide +kernel
theorem dX8_put_0 : decode cX8_put 0 = .ok (.iconst 0, 1) := by decide +kernel
theorem dX8_put_1 : decode cX8_put 1 = .ok (.istore_n 3, 1) := by decide +kernel
theorem dX8_put_2 : decode cX8_put 2 = .ok (.iconst 0, 1) := by decide +kernel
theorem dX8_put_3 : decode cX8_put 3 = .ok (.istore 4, 2) := by decide +kernel
theorem dX8_put_5 : decode cX8_put 5 = .ok (.iconst 0, 1) := by decide +kernel
theorem dX8_put_6 : decode cX8_put 6 = .ok (.istore 5, 2) := by decide +kernel
theorem dX8_put_8 : decode cX8_put 8 = .ok (.iload 5, 2) := by decide +kernel
theorem dX8_put_10 : decode cX8_put 10 = .ok (.bipush 8, 2) := by decide +kernel
theorem dX8_put_12 : decode cX8_put 12 = .ok (.if_icmp .ge 89, 3) := by decide +kernel
theorem dX8_put_15 : decode cX8_put 15 = .ok (.lload_n 1, 1) := by decide +kernel
theorem dX8_put_16 : decode cX8_put 16 = .ok (.bipush 8, 2) := by decide +kernel
theorem dX8_put_18 : decode cX8_put 18 = .ok (.iload 5, 2) := by decide +kernel
theorem dX8_put_20 : decode cX8_put 20 = .ok (.imul, 1) := by decide +kernel
theorem dX8_put_21 : decode cX8_put 21 = .ok (.lushr, 1) := by decide +kernel
theorem dX8_put_22 : decode cX8_put 22 = .ok (.ldc2_w 166, 3) := by decide +kernel
theorem dX8_put_25 : decode cX8_put 25 = .ok (.land, 1) := by decide +kernel
theorem dX8_put_26 : decode cX8_put 26 = .ok (.l2i, 1) := by decide +kernel
theorem dX8_put_27 : decode cX8_put 27 = .ok (.istore 6, 2) := by decide +kernel
theorem dX8_put_29 : decode cX8_put 29 = .ok (.iload 5, 2) := by decide +kernel
theorem dX8_put_31 : decode cX8_put 31 = .ok (.ifCond .le 19, 3) := by decide +kernel
theorem dX8_put_34 : decode cX8_put 34 = .ok (.lload_n 1, 1) := by decide +kernel
theorem dX8_put_35 : decode cX8_put 35 = .ok (.bipush 8, 2) := by decide +kernel
theorem dX8_put_37 : decode cX8_put 37 = .ok (.iload 5, 2) := by decide +kernel
theorem dX8_put_39 : decode cX8_put 39 = .ok (.imul, 1) := by decide +kernel
theorem dX8_put_40 : decode cX8_put 40 = .ok (.lushr, 1) := by decide +kernel
theorem dX8_put_41 : decode cX8_put 41 = .ok (.lconst 0, 1) := by decide +kernel
theorem dX8_put_42 : decode cX8_put 42 = .ok (.lcmp, 1) := by decide +kernel
theorem dX8_put_43 : decode cX8_put 43 = .ok (.ifCond .ne 7, 3) := by decide +kernel
theorem dX8_put_46 : decode cX8_put 46 = .ok (.iconst 1, 1) := by decide +kernel
theorem dX8_put_47 : decode cX8_put 47 = .ok (.goto 4, 3) := by decide +kernel
theorem dX8_put_50 : decode cX8_put 50 = .ok (.iconst 0, 1) := by decide +kernel
theorem dX8_put_51 : decode cX8_put 51 = .ok (.istore 7, 2) := by decide +kernel
theorem dX8_put_53 : decode cX8_put 53 = .ok (.iload 4, 2) := by decide +kernel
theorem dX8_put_55 : decode cX8_put 55 = .ok (.ifCond .ne 20, 3) := by decide +kernel
theorem dX8_put_58 : decode cX8_put 58 = .ok (.iload 7, 2) := by decide +kernel
theorem dX8_put_60 : decode cX8_put 60 = .ok (.ifCond .ne 19, 3) := by decide +kernel
theorem dX8_put_63 : decode cX8_put 63 = .ok (.iload 6, 2) := by decide +kernel
theorem dX8_put_65 : decode cX8_put 65 = .ok (.bipush 33, 2) := by decide +kernel
theorem dX8_put_67 : decode cX8_put 67 = .ok (.bipush 126, 2) := by decide +kernel
theorem dX8_put_69 : decode cX8_put 69 = .ok (.invokestatic 33, 3) := by decide +kernel
theorem dX8_put_72 : decode cX8_put 72 = .ok (.ifCond .ne 7, 3) := by decide +kernel
theorem dX8_put_75 : decode cX8_put 75 = .ok (.iconst 1, 1) := by decide +kernel
theorem dX8_put_76 : decode cX8_put 76 = .ok (.goto 4, 3) := by decide +kernel
theorem dX8_put_79 : decode cX8_put 79 = .ok (.iconst 0, 1) := by decide +kernel
theorem dX8_put_80 : decode cX8_put 80 = .ok (.istore 4, 2) := by decide +kernel
theorem dX8_put_82 : decode cX8_put 82 = .ok (.iload_n 3, 1) := by decide +kernel
theorem dX8_put_83 : decode cX8_put 83 = .ok (.iload 7, 2) := by decide +kernel
theorem dX8_put_85 : decode cX8_put 85 = .ok (.ifCond .eq 7, 3) := by decide +kernel
theorem dX8_put_88 : decode cX8_put 88 = .ok (.iconst 0, 1) := by decide +kernel
theorem dX8_put_89 : decode cX8_put 89 = .ok (.goto 4, 3) := by decide +kernel
theorem dX8_put_92 : decode cX8_put 92 = .ok (.iconst 1, 1) := by decide +kernel
theorem dX8_put_93 : decode cX8_put 93 = .ok (.iadd, 1) := by decide +kernel
theorem dX8_put_94 : decode cX8_put 94 = .ok (.istore_n 3, 1) := by decide +kernel
theorem dX8_put_95 : decode cX8_put 95 = .ok (.iinc 5 1, 3) := by decide +kernel
theorem dX8_put_98 : decode cX8_put 98 = .ok (.goto (-90), 3) := by decide +kernel
theorem dX8_put_101 : decode cX8_put 101 = .ok (.iload 4, 2) := by decide +kernel
theorem dX8_put_103 : decode cX8_put 103 = .ok (.ifCond .eq 6, 3) := by decide +kernel
theorem dX8_put_106 : decode cX8_put 106 = .ok (.bipush (-2), 2) := by decide +kernel
theorem dX8_put_108 : decode cX8_put 108 = .ok (.ireturn, 1) := by decide +kernel
theorem dX8_put_109 : decode cX8_put 109 = .ok (.aload_n 0, 1) := by decide +kernel
theorem dX8_put_110 : decode cX8_put 110 = .ok (.getfield 94, 3) := by decide +kernel
theorem dX8_put_113 : decode cX8_put 113 = .ok (.iload_n 3, 1) := by decide +kernel
theorem dX8_put_114 : decode cX8_put 114 = .ok (.iadd, 1) := by decide +kernel
theorem dX8_put_115 : decode cX8_put 115 = .ok (.bipush 60, 2) := by decide +kernel
theorem dX8_put_117 : decode cX8_put 117 = .ok (.if_icmp .le 6, 3) := by decide +kernel
theorem dX8_put_120 : decode cX8_put 120 = .ok (.bipush (-4), 2) := by decide +kernel
theorem dX8_put_122 : decode cX8_put 122 = .ok (.ireturn, 1) := by decide +kernel
theorem dX8_put_123 : decode cX8_put 123 = .ok (.iconst 0, 1) := by decide +kernel
theorem dX8_put_124 : decode cX8_put 124 = .ok (.istore 5, 2) := by decide +kernel
theorem dX8_put_126 : decode cX8_put 126 = .ok (.iload 5, 2) := by decide +kernel
theorem dX8_put_128 : decode cX8_put 128 = .ok (.iload_n 3, 1) := by decide +kernel
theorem dX8_put_129 : decode cX8_put 129 = .ok (.if_icmp .ge 37, 3) := by decide +kernel
theorem dX8_put_132 : decode cX8_put 132 = .ok (.aload_n 0, 1) := by decide +kernel
theorem dX8_put_133 : decode cX8_put 133 = .ok (.getfield 23, 3) := by decide +kernel
theorem dX8_put_136 : decode cX8_put 136 = .ok (.aload_n 0, 1) := by decide +kernel
theorem dX8_put_137 : decode cX8_put 137 = .ok (.getfield 94, 3) := by decide +kernel
theorem dX8_put_140 : decode cX8_put 140 = .ok (.iload_n 3, 1) := by decide +kernel
theorem dX8_put_141 : decode cX8_put 141 = .ok (.iadd, 1) := by decide +kernel
theorem dX8_put_142 : decode cX8_put 142 = .ok (.iconst 1, 1) := by decide +kernel
theorem dX8_put_143 : decode cX8_put 143 = .ok (.isub, 1) := by decide +kernel
theorem dX8_put_144 : decode cX8_put 144 = .ok (.iload 5, 2) := by decide +kernel
theorem dX8_put_146 : decode cX8_put 146 = .ok (.isub, 1) := by decide +kernel
theorem dX8_put_147 : decode cX8_put 147 = .ok (.lload_n 1, 1) := by decide +kernel
theorem dX8_put_148 : decode cX8_put 148 = .ok (.bipush 8, 2) := by decide +kernel
theorem dX8_put_150 : decode cX8_put 150 = .ok (.iload 5, 2) := by decide +kernel
theorem dX8_put_152 : decode cX8_put 152 = .ok (.imul, 1) := by decide +kernel
theorem dX8_put_153 : decode cX8_put 153 = .ok (.lushr, 1) := by decide +kernel
theorem dX8_put_154 : decode cX8_put 154 = .ok (.ldc2_w 166, 3) := by decide +kernel
theorem dX8_put_157 : decode cX8_put 157 = .ok (.land, 1) := by decide +kernel
theorem dX8_put_158 : decode cX8_put 158 = .ok (.l2i, 1) := by decide +kernel
theorem dX8_put_159 : decode cX8_put 159 = .ok (.iastore, 1) := by decide +kernel
theorem dX8_put_160 : decode cX8_put 160 = .ok (.iinc 5 1, 3) := by decide +kernel
theorem dX8_put_163 : decode cX8_put 163 = .ok (.goto (-37), 3) := by decide +kernel
theorem dX8_put_166 : decode cX8_put 166 = .ok (.aload_n 0, 1) := by decide +kernel
theorem dX8_put_167 : decode cX8_put 167 = .ok (.dup, 1) := by decide +kernel
theorem dX8_put_168 : decode cX8_put 168 = .ok (.getfield 94, 3) := by decide +kernel
theorem dX8_put_171 : decode cX8_put 171 = .ok (.iload_n 3, 1) := by decide +kernel
theorem dX8_put_172 : decode cX8_put 172 = .ok (.iadd, 1) := by decide +kernel
theorem dX8_put_173 : decode cX8_put 173 = .ok (.putfield 94, 3) := by decide +kernel
theorem dX8_put_176 : decode cX8_put 176 = .ok (.aload_n 0, 1) := by decide +kernel
theorem dX8_put_177 : decode cX8_put 177 = .ok (.getfield 94, 3) := by decide +kernel
theorem dX8_put_180 : decode cX8_put 180 = .ok (.ireturn, 1) := by decide +kernel
theorem dX8_wipe_0 : decode cX8_wipe 0 = .ok (.aload_n 0, 1) := by decide +kernel
theorem dX8_wipe_1 : decode cX8_wipe 1 = .ok (.getfield 94, 3) := by decide +kernel
theorem dX8_wipe_4 : decode cX8_wipe 4 = .ok (.istore_n 1, 1) := by decide +kernel
theorem dX8_wipe_5 : decode cX8_wipe 5 = .ok (.aload_n 0, 1) := by decide +kernel
theorem dX8_wipe_6 : decode cX8_wipe 6 = .ok (.iconst 0, 1) := by decide +kernel
theorem dX8_wipe_7 : decode cX8_wipe 7 = .ok (.putfield 94, 3) := by decide +kernel
theorem dX8_wipe_10 : decode cX8_wipe 10 = .ok (.iload_n 1, 1) := by decide +kernel
theorem dX8_wipe_11 : decode cX8_wipe 11 = .ok (.ireturn, 1) := by decide +kernel
theorem dX8_undo_0 : decode cX8_undo 0 = .ok (.aload_n 0, 1) := by decide +kernel
theorem dX8_undo_1 : decode cX8_undo 1 = .ok (.getfield 40, 3) := by decide +kernel
theorem dX8_undo_4 : decode cX8_undo 4 = .ok (.ifCond .ne 6, 3) := by decide +kernel
theorem dX8_undo_7 : decode cX8_undo 7 = .ok (.bipush (-5), 2) := by decide +kernel
theorem dX8_undo_9 : decode cX8_undo 9 = .ok (.ireturn, 1) := by decide +kernel
theorem dX8_undo_10 : decode cX8_undo 10 = .ok (.aload_n 0, 1) := by decide +kernel
theorem dX8_undo_11 : decode cX8_undo 11 = .ok (.dup, 1) := by decide +kernel
theorem dX8_undo_12 : decode cX8_undo 12 = .ok (.getfield 40, 3) := by decide +kernel
theorem dX8_undo_15 : decode cX8_undo 15 = .ok (.iconst 1, 1) := by decide +kernel
theorem dX8_undo_16 : decode cX8_undo 16 = .ok (.isub, 1) := by decide +kernel
theorem dX8_undo_17 : decode cX8_undo 17 = .ok (.putfield 40, 3) := by decide +kernel
theorem dX8_undo_20 : decode cX8_undo 20 = .ok (.iconst 0, 1) := by decide +kernel
theorem dX8_undo_21 : decode cX8_undo 21 = .ok (.istore_n 1, 1) := by decide +kernel
theorem dX8_undo_22 : decode cX8_undo 22 = .ok (.iload_n 1, 1) := by decide +kernel
theorem dX8_undo_23 : decode cX8_undo 23 = .ok (.sipush 828, 3) := by decide +kernel
theorem dX8_undo_26 : decode cX8_undo 26 = .ok (.if_icmp .ge 30, 3) := by decide +kernel
theorem dX8_undo_29 : decode cX8_undo 29 = .ok (.aload_n 0, 1) := by decide +kernel
theorem dX8_undo_30 : decode cX8_undo 30 = .ok (.getfield 7, 3) := by decide +kernel
theorem dX8_undo_33 : decode cX8_undo 33 = .ok (.iload_n 1, 1) := by decide +kernel
theorem dX8_undo_34 : decode cX8_undo 34 = .ok (.aload_n 0, 1) := by decide +kernel
theorem dX8_undo_35 : decode cX8_undo 35 = .ok (.getfield 13, 3) := by decide +kernel
theorem dX8_undo_38 : decode cX8_undo 38 = .ok (.sipush 828, 3) := by decide +kernel
theorem dX8_undo_41 : decode cX8_undo 41 = .ok (.aload_n 0, 1) := by decide +kernel
theorem dX8_undo_42 : decode cX8_undo 42 = .ok (.getfield 40, 3) := by decide +kernel
theorem dX8_undo_45 : decode cX8_undo 45 = .ok (.imul, 1) := by decide +kernel
theorem dX8_undo_46 : decode cX8_undo 46 = .ok (.iload_n 1, 1) := by decide +kernel
theorem dX8_undo_47 : decode cX8_undo 47 = .ok (.iadd, 1) := by decide +kernel
theorem dX8_undo_48 : decode cX8_undo 48 = .ok (.iaload, 1) := by decide +kernel
theorem dX8_undo_49 : decode cX8_undo 49 = .ok (.iastore, 1) := by decide +kernel
theorem dX8_undo_50 : decode cX8_undo 50 = .ok (.iinc 1 1, 3) := by decide +kernel
theorem dX8_undo_53 : decode cX8_undo 53 = .ok (.goto (-31), 3) := by decide +kernel
theorem dX8_undo_56 : decode cX8_undo 56 = .ok (.aload_n 0, 1) := by decide +kernel
theorem dX8_undo_57 : decode cX8_undo 57 = .ok (.getfield 40, 3) := by decide +kernel
theorem dX8_undo_60 : decode cX8_undo 60 = .ok (.ireturn, 1) := by decide +kernel
theorem dX8_save_0 : decode cX8_save 0 = .ok (.iload_n 1, 1) := by decide +kernel
theorem dX8_save_1 : decode cX8_save 1 = .ok (.iconst 0, 1) := by decide +kernel
theorem dX8_save_2 : decode cX8_save 2 = .ok (.iconst 1, 1) := by decide +kernel
theorem dX8_save_3 : decode cX8_save 3 = .ok (.invokestatic 33, 3) := by decide +kernel
theorem dX8_save_6 : decode cX8_save 6 = .ok (.ifCond .ne 6, 3) := by decide +kernel
theorem dX8_save_9 : decode cX8_save 9 = .ok (.bipush (-2), 2) := by decide +kernel
theorem dX8_save_11 : decode cX8_save 11 = .ok (.ireturn, 1) := by decide +kernel
theorem dX8_save_12 : decode cX8_save 12 = .ok (.iconst 0, 1) := by decide +kernel
theorem dX8_save_13 : decode cX8_save 13 = .ok (.istore_n 2, 1) := by decide +kernel
theorem dX8_save_14 : decode cX8_save 14 = .ok (.iload_n 2, 1) := by decide +kernel
theorem dX8_save_15 : decode cX8_save 15 = .ok (.sipush 828, 3) := by decide +kernel
theorem dX8_save_18 : decode cX8_save 18 = .ok (.if_icmp .ge 27, 3) := by decide +kernel
theorem dX8_save_21 : decode cX8_save 21 = .ok (.aload_n 0, 1) := by decide +kernel
theorem dX8_save_22 : decode cX8_save 22 = .ok (.getfield 16, 3) := by decide +kernel
theorem dX8_save_25 : decode cX8_save 25 = .ok (.sipush 828, 3) := by decide +kernel
theorem dX8_save_28 : decode cX8_save 28 = .ok (.iload_n 1, 1) := by decide +kernel
theorem dX8_save_29 : decode cX8_save 29 = .ok (.imul, 1) := by decide +kernel
theorem dX8_save_30 : decode cX8_save 30 = .ok (.iload_n 2, 1) := by decide +kernel
theorem dX8_save_31 : decode cX8_save 31 = .ok (.iadd, 1) := by decide +kernel
theorem dX8_save_32 : decode cX8_save 32 = .ok (.aload_n 0, 1) := by decide +kernel
theorem dX8_save_33 : decode cX8_save 33 = .ok (.getfield 7, 3) := by decide +kernel
theorem dX8_save_36 : decode cX8_save 36 = .ok (.iload_n 2, 1) := by decide +kernel
theorem dX8_save_37 : decode cX8_save 37 = .ok (.iaload, 1) := by decide +kernel
theorem dX8_save_38 : decode cX8_save 38 = .ok (.iastore, 1) := by decide +kernel
theorem dX8_save_39 : decode cX8_save 39 = .ok (.iinc 2 1, 3) := by decide +kernel
theorem dX8_save_42 : decode cX8_save 42 = .ok (.goto (-28), 3) := by decide +kernel
theorem dX8_save_45 : decode cX8_save 45 = .ok (.aload_n 0, 1) := by decide +kernel
theorem dX8_save_46 : decode cX8_save 46 = .ok (.getfield 19, 3) := by decide +kernel
theorem dX8_save_49 : decode cX8_save 49 = .ok (.iload_n 1, 1) := by decide +kernel
theorem dX8_save_50 : decode cX8_save 50 = .ok (.iconst 1, 1) := by decide +kernel
theorem dX8_save_51 : decode cX8_save 51 = .ok (.bastore, 1) := by decide +kernel
theorem dX8_save_52 : decode cX8_save 52 = .ok (.aload_n 0, 1) := by decide +kernel
theorem dX8_save_53 : decode cX8_save 53 = .ok (.getfield 7, 3) := by decide +kernel
theorem dX8_save_56 : decode cX8_save 56 = .ok (.bipush 6, 2) := by decide +kernel
theorem dX8_save_58 : decode cX8_save 58 = .ok (.iaload, 1) := by decide +kernel
theorem dX8_save_59 : decode cX8_save 59 = .ok (.ireturn, 1) := by decide +kernel
theorem dX8_restore_0 : decode cX8_restore 0 = .ok (.iload_n 1, 1) := by decide +kernel
theorem dX8_restore_1 : decode cX8_restore 1 = .ok (.iconst 0, 1) := by decide +kernel
theorem dX8_restore_2 : decode cX8_restore 2 = .ok (.iconst 1, 1) := by decide +kernel
theorem dX8_restore_3 : decode cX8_restore 3 = .ok (.invokestatic 33, 3) := by decide +kernel
theorem dX8_restore_6 : decode cX8_restore 6 = .ok (.ifCond .ne 6, 3) := by decide +kernel
theorem dX8_restore_9 : decode cX8_restore 9 = .ok (.bipush (-2), 2) := by decide +kernel
theorem dX8_restore_11 : decode cX8_restore 11 = .ok (.ireturn, 1) := by decide +kernel
theorem dX8_restore_12 : decode cX8_restore 12 = .ok (.aload_n 0, 1) := by decide +kernel
theorem dX8_restore_13 : decode cX8_restore 13 = .ok (.getfield 19, 3) := by decide +kernel
theorem dX8_restore_16 : decode cX8_restore 16 = .ok (.iload_n 1, 1) := by decide +kernel
theorem dX8_restore_17 : decode cX8_restore 17 = .ok (.baload, 1) := by decide +kernel
theorem dX8_restore_18 : decode cX8_restore 18 = .ok (.ifCond .ne 6, 3) := by decide +kernel
theorem dX8_restore_21 : decode cX8_restore 21 = .ok (.bipush (-5), 2) := by decide +kernel
theorem dX8_restore_23 : decode cX8_restore 23 = .ok (.ireturn, 1) := by decide +kernel
theorem dX8_restore_24 : decode cX8_restore 24 = .ok (.aload_n 0, 1) := by decide +kernel
theorem dX8_restore_25 : decode cX8_restore 25 = .ok (.invokevirtual 75, 3) := by decide +kernel
theorem dX8_restore_28 : decode cX8_restore 28 = .ok (.iconst 0, 1) := by decide +kernel
theorem dX8_restore_29 : decode cX8_restore 29 = .ok (.istore_n 2, 1) := by decide +kernel
theorem dX8_restore_30 : decode cX8_restore 30 = .ok (.iload_n 2, 1) := by decide +kernel
theorem dX8_restore_31 : decode cX8_restore 31 = .ok (.sipush 828, 3) := by decide +kernel
theorem dX8_restore_34 : decode cX8_restore 34 = .ok (.if_icmp .ge 27, 3) := by decide +kernel
theorem dX8_restore_37 : decode cX8_restore 37 = .ok (.aload_n 0, 1) := by decide +kernel
theorem dX8_restore_38 : decode cX8_restore 38 = .ok (.getfield 7, 3) := by decide +kernel
theorem dX8_restore_41 : decode cX8_restore 41 = .ok (.iload_n 2, 1) := by decide +kernel
theorem dX8_restore_42 : decode cX8_restore 42 = .ok (.aload_n 0, 1) := by decide +kernel
theorem dX8_restore_43 : decode cX8_restore 43 = .ok (.getfield 16, 3) := by decide +kernel
theorem dX8_restore_46 : decode cX8_restore 46 = .ok (.sipush 828, 3) := by decide +kernel
theorem dX8_restore_49 : decode cX8_restore 49 = .ok (.iload_n 1, 1) := by decide +kernel
theorem dX8_restore_50 : decode cX8_restore 50 = .ok (.imul, 1) := by decide +kernel
theorem dX8_restore_51 : decode cX8_restore 51 = .ok (.iload_n 2, 1) := by decide +kernel
theorem dX8_restore_52 : decode cX8_restore 52 = .ok (.iadd, 1) := by decide +kernel
theorem dX8_restore_53 : decode cX8_restore 53 = .ok (.iaload, 1) := by decide +kernel
theorem dX8_restore_54 : decode cX8_restore 54 = .ok (.iastore, 1) := by decide +kernel
theorem dX8_restore_55 : decode cX8_restore 55 = .ok (.iinc 2 1, 3) := by decide +kernel
theorem dX8_restore_58 : decode cX8_restore 58 = .ok (.goto (-28), 3) := by decide +kernel
theorem dX8_restore_61 : decode cX8_restore 61 = .ok (.aload_n 0, 1) := by decide +kernel
theorem dX8_restore_62 : decode cX8_restore 62 = .ok (.getfield 7, 3) := by decide +kernel
theorem dX8_restore_65 : decode cX8_restore 65 = .ok (.bipush 6, 2) := by decide +kernel
theorem dX8_restore_67 : decode cX8_restore 67 = .ok (.iaload, 1) := by decide +kernel
theorem dX8_restore_68 : decode cX8_restore 68 = .ok (.ireturn, 1) := by decide +kernel
