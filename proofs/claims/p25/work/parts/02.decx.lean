theorem dX0_init_0 : decode cX0_init 0 = .ok (.aload_n 0, 1) := by decide +kernel
theorem dX0_init_1 : decode cX0_init 1 = .ok (.invokespecial 3, 3) := by decide +kernel
theorem dX0_init_4 : decode cX0_init 4 = .ok (.aload_n 0, 1) := by decide +kernel
theorem dX0_init_5 : decode cX0_init 5 = .ok (.sipush 170, 3) := by decide +kernel
theorem dX0_init_8 : decode cX0_init 8 = .ok (.newarray .int, 2) := by decide +kernel
theorem dX0_init_10 : decode cX0_init 10 = .ok (.putfield 9, 3) := by decide +kernel
theorem dX0_init_13 : decode cX0_init 13 = .ok (.aload_n 0, 1) := by decide +kernel
theorem dX0_init_14 : decode cX0_init 14 = .ok (.sipush 170, 3) := by decide +kernel
theorem dX0_init_17 : decode cX0_init 17 = .ok (.newarray .int, 2) := by decide +kernel
theorem dX0_init_19 : decode cX0_init 19 = .ok (.putfield 15, 3) := by decide +kernel
theorem dX0_init_22 : decode cX0_init 22 = .ok (.aload_n 0, 1) := by decide +kernel
theorem dX0_init_23 : decode cX0_init 23 = .ok (.sipush 170, 3) := by decide +kernel
theorem dX0_init_26 : decode cX0_init 26 = .ok (.newarray .int, 2) := by decide +kernel
theorem dX0_init_28 : decode cX0_init 28 = .ok (.putfield 18, 3) := by decide +kernel
theorem dX0_init_31 : decode cX0_init 31 = .ok (.aload_n 0, 1) := by decide +kernel
theorem dX0_init_32 : decode cX0_init 32 = .ok (.sipush 170, 3) := by decide +kernel
theorem dX0_init_35 : decode cX0_init 35 = .ok (.newarray .int, 2) := by decide +kernel
theorem dX0_init_37 : decode cX0_init 37 = .ok (.putfield 21, 3) := by decide +kernel
theorem dX0_init_40 : decode cX0_init 40 = .ok (.return_, 1) := by decide +kernel
theorem dX0_copyFrom_0 : decode cX0_copyFrom 0 = .ok (.aload_n 0, 1) := by decide +kernel
theorem dX0_copyFrom_1 : decode cX0_copyFrom 1 = .ok (.aload_n 1, 1) := by decide +kernel
theorem dX0_copyFrom_2 : decode cX0_copyFrom 2 = .ok (.getfield 24, 3) := by decide +kernel
theorem dX0_copyFrom_5 : decode cX0_copyFrom 5 = .ok (.putfield 24, 3) := by decide +kernel
theorem dX0_copyFrom_8 : decode cX0_copyFrom 8 = .ok (.aload_n 1, 1) := by decide +kernel
theorem dX0_copyFrom_9 : decode cX0_copyFrom 9 = .ok (.getfield 9, 3) := by decide +kernel
theorem dX0_copyFrom_12 : decode cX0_copyFrom 12 = .ok (.iconst 0, 1) := by decide +kernel
theorem dX0_copyFrom_13 : decode cX0_copyFrom 13 = .ok (.aload_n 0, 1) := by decide +kernel
theorem dX0_copyFrom_14 : decode cX0_copyFrom 14 = .ok (.getfield 9, 3) := by decide +kernel
theorem dX0_copyFrom_17 : decode cX0_copyFrom 17 = .ok (.iconst 0, 1) := by decide +kernel
theorem dX0_copyFrom_18 : decode cX0_copyFrom 18 = .ok (.aload_n 0, 1) := by decide +kernel
theorem dX0_copyFrom_19 : decode cX0_copyFrom 19 = .ok (.getfield 24, 3) := by decide +kernel
theorem dX0_copyFrom_22 : decode cX0_copyFrom 22 = .ok (.invokestatic 28, 3) := by decide +kernel
theorem dX0_copyFrom_25 : decode cX0_copyFrom 25 = .ok (.aload_n 1, 1) := by decide +kernel
theorem dX0_copyFrom_26 : decode cX0_copyFrom 26 = .ok (.getfield 15, 3) := by decide +kernel
theorem dX0_copyFrom_29 : decode cX0_copyFrom 29 = .ok (.iconst 0, 1) := by decide +kernel
theorem dX0_copyFrom_30 : decode cX0_copyFrom 30 = .ok (.aload_n 0, 1) := by decide +kernel
theorem dX0_copyFrom_31 : decode cX0_copyFrom 31 = .ok (.getfield 15, 3) := by decide +kernel
theorem dX0_copyFrom_34 : decode cX0_copyFrom 34 = .ok (.iconst 0, 1) := by decide +kernel
theorem dX0_copyFrom_35 : decode cX0_copyFrom 35 = .ok (.aload_n 0, 1) := by decide +kernel
theorem dX0_copyFrom_36 : decode cX0_copyFrom 36 = .ok (.getfield 24, 3) := by decide +kernel
theorem dX0_copyFrom_39 : decode cX0_copyFrom 39 = .ok (.invokestatic 28, 3) := by decide +kernel
theorem dX0_copyFrom_42 : decode cX0_copyFrom 42 = .ok (.aload_n 1, 1) := by decide +kernel
theorem dX0_copyFrom_43 : decode cX0_copyFrom 43 = .ok (.getfield 18, 3) := by decide +kernel
theorem dX0_copyFrom_46 : decode cX0_copyFrom 46 = .ok (.iconst 0, 1) := by decide +kernel
theorem dX0_copyFrom_47 : decode cX0_copyFrom 47 = .ok (.aload_n 0, 1) := by decide +kernel
theorem dX0_copyFrom_48 : decode cX0_copyFrom 48 = .ok (.getfield 18, 3) := by decide +kernel
theorem dX0_copyFrom_51 : decode cX0_copyFrom 51 = .ok (.iconst 0, 1) := by decide +kernel
theorem dX0_copyFrom_52 : decode cX0_copyFrom 52 = .ok (.aload_n 0, 1) := by decide +kernel
theorem dX0_copyFrom_53 : decode cX0_copyFrom 53 = .ok (.getfield 24, 3) := by decide +kernel
theorem dX0_copyFrom_56 : decode cX0_copyFrom 56 = .ok (.invokestatic 28, 3) := by decide +kernel
theorem dX0_copyFrom_59 : decode cX0_copyFrom 59 = .ok (.aload_n 1, 1) := by decide +kernel
theorem dX0_copyFrom_60 : decode cX0_copyFrom 60 = .ok (.getfield 21, 3) := by decide +kernel
theorem dX0_copyFrom_63 : decode cX0_copyFrom 63 = .ok (.iconst 0, 1) := by decide +kernel
theorem dX0_copyFrom_64 : decode cX0_copyFrom 64 = .ok (.aload_n 0, 1) := by decide +kernel
theorem dX0_copyFrom_65 : decode cX0_copyFrom 65 = .ok (.getfield 21, 3) := by decide +kernel
theorem dX0_copyFrom_68 : decode cX0_copyFrom 68 = .ok (.iconst 0, 1) := by decide +kernel
theorem dX0_copyFrom_69 : decode cX0_copyFrom 69 = .ok (.aload_n 0, 1) := by decide +kernel
theorem dX0_copyFrom_70 : decode cX0_copyFrom 70 = .ok (.getfield 24, 3) := by decide +kernel
theorem dX0_copyFrom_73 : decode cX0_copyFrom 73 = .ok (.invokestatic 28, 3) := by decide +kernel
theorem dX0_copyFrom_76 : decode cX0_copyFrom 76 = .ok (.return_, 1) := by decide +kernel
theorem dX0_placeOfAnswer_0 : decode cX0_placeOfAnswer 0 = .ok (.iconst 0, 1) := by decide +kernel
theorem dX0_placeOfAnswer_1 : decode cX0_placeOfAnswer 1 = .ok (.istore_n 3, 1) := by decide +kernel
theorem dX0_placeOfAnswer_2 : decode cX0_placeOfAnswer 2 = .ok (.iconst 0, 1) := by decide +kernel
theorem dX0_placeOfAnswer_3 : decode cX0_placeOfAnswer 3 = .ok (.istore 4, 2) := by decide +kernel
theorem dX0_placeOfAnswer_5 : decode cX0_placeOfAnswer 5 = .ok (.iload 4, 2) := by decide +kernel
theorem dX0_placeOfAnswer_7 : decode cX0_placeOfAnswer 7 = .ok (.aload_n 0, 1) := by decide +kernel
theorem dX0_placeOfAnswer_8 : decode cX0_placeOfAnswer 8 = .ok (.getfield 24, 3) := by decide +kernel
theorem dX0_placeOfAnswer_11 : decode cX0_placeOfAnswer 11 = .ok (.if_icmp .ge 31, 3) := by decide +kernel
theorem dX0_placeOfAnswer_14 : decode cX0_placeOfAnswer 14 = .ok (.aload_n 0, 1) := by decide +kernel
theorem dX0_placeOfAnswer_15 : decode cX0_placeOfAnswer 15 = .ok (.getfield 9, 3) := by decide +kernel
theorem dX0_placeOfAnswer_18 : decode cX0_placeOfAnswer 18 = .ok (.iload 4, 2) := by decide +kernel
theorem dX0_placeOfAnswer_20 : decode cX0_placeOfAnswer 20 = .ok (.iaload, 1) := by decide +kernel
theorem dX0_placeOfAnswer_21 : decode cX0_placeOfAnswer 21 = .ok (.iload_n 1, 1) := by decide +kernel
theorem dX0_placeOfAnswer_22 : decode cX0_placeOfAnswer 22 = .ok (.if_icmp .ne 14, 3) := by decide +kernel
theorem dX0_placeOfAnswer_25 : decode cX0_placeOfAnswer 25 = .ok (.iload_n 3, 1) := by decide +kernel
theorem dX0_placeOfAnswer_26 : decode cX0_placeOfAnswer 26 = .ok (.iload_n 2, 1) := by decide +kernel
theorem dX0_placeOfAnswer_27 : decode cX0_placeOfAnswer 27 = .ok (.if_icmp .ne 6, 3) := by decide +kernel
theorem dX0_placeOfAnswer_30 : decode cX0_placeOfAnswer 30 = .ok (.iload 4, 2) := by decide +kernel
theorem dX0_placeOfAnswer_32 : decode cX0_placeOfAnswer 32 = .ok (.ireturn, 1) := by decide +kernel
theorem dX0_placeOfAnswer_33 : decode cX0_placeOfAnswer 33 = .ok (.iinc 3 1, 3) := by decide +kernel
theorem dX0_placeOfAnswer_36 : decode cX0_placeOfAnswer 36 = .ok (.iinc 4 1, 3) := by decide +kernel
theorem dX0_placeOfAnswer_39 : decode cX0_placeOfAnswer 39 = .ok (.goto (-34), 3) := by decide +kernel
theorem dX0_placeOfAnswer_42 : decode cX0_placeOfAnswer 42 = .ok (.iconst (-1), 1) := by decide +kernel
theorem dX0_placeOfAnswer_43 : decode cX0_placeOfAnswer 43 = .ok (.ireturn, 1) := by decide +kernel
theorem dX0_unlikeAnswers_0 : decode cX0_unlikeAnswers 0 = .ok (.iconst 0, 1) := by decide +kernel
theorem dX0_unlikeAnswers_1 : decode cX0_unlikeAnswers 1 = .ok (.istore_n 2, 1) := by decide +kernel
theorem dX0_unlikeAnswers_2 : decode cX0_unlikeAnswers 2 = .ok (.iconst 0, 1) := by decide +kernel
theorem dX0_unlikeAnswers_3 : decode cX0_unlikeAnswers 3 = .ok (.istore_n 3, 1) := by decide +kernel
theorem dX0_unlikeAnswers_4 : decode cX0_unlikeAnswers 4 = .ok (.iload_n 3, 1) := by decide +kernel
theorem dX0_unlikeAnswers_5 : decode cX0_unlikeAnswers 5 = .ok (.aload_n 0, 1) := by decide +kernel
theorem dX0_unlikeAnswers_6 : decode cX0_unlikeAnswers 6 = .ok (.getfield 24, 3) := by decide +kernel
theorem dX0_unlikeAnswers_9 : decode cX0_unlikeAnswers 9 = .ok (.if_icmp .ge 22, 3) := by decide +kernel
theorem dX0_unlikeAnswers_12 : decode cX0_unlikeAnswers 12 = .ok (.aload_n 0, 1) := by decide +kernel
theorem dX0_unlikeAnswers_13 : decode cX0_unlikeAnswers 13 = .ok (.getfield 9, 3) := by decide +kernel
theorem dX0_unlikeAnswers_16 : decode cX0_unlikeAnswers 16 = .ok (.iload_n 3, 1) := by decide +kernel
theorem dX0_unlikeAnswers_17 : decode cX0_unlikeAnswers 17 = .ok (.iaload, 1) := by decide +kernel
theorem dX0_unlikeAnswers_18 : decode cX0_unlikeAnswers 18 = .ok (.iload_n 1, 1) := by decide +kernel
theorem dX0_unlikeAnswers_19 : decode cX0_unlikeAnswers 19 = .ok (.if_icmp .ne 6, 3) := by decide +kernel
theorem dX0_unlikeAnswers_22 : decode cX0_unlikeAnswers 22 = .ok (.iinc 2 1, 3) := by decide +kernel
theorem dX0_unlikeAnswers_25 : decode cX0_unlikeAnswers 25 = .ok (.iinc 3 1, 3) := by decide +kernel
theorem dX0_unlikeAnswers_28 : decode cX0_unlikeAnswers 28 = .ok (.goto (-24), 3) := by decide +kernel
theorem dX0_unlikeAnswers_31 : decode cX0_unlikeAnswers 31 = .ok (.iload_n 2, 1) := by decide +kernel
theorem dX0_unlikeAnswers_32 : decode cX0_unlikeAnswers 32 = .ok (.ireturn, 1) := by decide +kernel
theorem dX0_leadingLetters_0 : decode cX0_leadingLetters 0 = .ok (.aload_n 0, 1) := by decide +kernel
theorem dX0_leadingLetters_1 : decode cX0_leadingLetters 1 = .ok (.iload_n 1, 1) := by decide +kernel
theorem dX0_leadingLetters_2 : decode cX0_leadingLetters 2 = .ok (.invokevirtual 34, 3) := by decide +kernel
theorem dX0_leadingLetters_5 : decode cX0_leadingLetters 5 = .ok (.istore_n 2, 1) := by decide +kernel
theorem dX0_leadingLetters_6 : decode cX0_leadingLetters 6 = .ok (.iload_n 2, 1) := by decide +kernel
theorem dX0_leadingLetters_7 : decode cX0_leadingLetters 7 = .ok (.iconst (-1), 1) := by decide +kernel
theorem dX0_leadingLetters_8 : decode cX0_leadingLetters 8 = .ok (.if_icmp .ne 7, 3) := by decide +kernel
theorem dX0_leadingLetters_11 : decode cX0_leadingLetters 11 = .ok (.iconst 0, 1) := by decide +kernel
theorem dX0_leadingLetters_12 : decode cX0_leadingLetters 12 = .ok (.goto 9, 3) := by decide +kernel
theorem dX0_leadingLetters_15 : decode cX0_leadingLetters 15 = .ok (.aload_n 0, 1) := by decide +kernel
theorem dX0_leadingLetters_16 : decode cX0_leadingLetters 16 = .ok (.getfield 15, 3) := by decide +kernel
theorem dX0_leadingLetters_19 : decode cX0_leadingLetters 19 = .ok (.iload_n 2, 1) := by decide +kernel
theorem dX0_leadingLetters_20 : decode cX0_leadingLetters 20 = .ok (.iaload, 1) := by decide +kernel
theorem dX0_leadingLetters_21 : decode cX0_leadingLetters 21 = .ok (.ireturn, 1) := by decide +kernel
theorem dX0_leadingWeight_0 : decode cX0_leadingWeight 0 = .ok (.aload_n 0, 1) := by decide +kernel
theorem dX0_leadingWeight_1 : decode cX0_leadingWeight 1 = .ok (.iload_n 1, 1) := by decide +kernel
theorem dX0_leadingWeight_2 : decode cX0_leadingWeight 2 = .ok (.invokevirtual 34, 3) := by decide +kernel
theorem dX0_leadingWeight_5 : decode cX0_leadingWeight 5 = .ok (.istore_n 2, 1) := by decide +kernel
theorem dX0_leadingWeight_6 : decode cX0_leadingWeight 6 = .ok (.iload_n 2, 1) := by decide +kernel
theorem dX0_leadingWeight_7 : decode cX0_leadingWeight 7 = .ok (.iconst (-1), 1) := by decide +kernel
theorem dX0_leadingWeight_8 : decode cX0_leadingWeight 8 = .ok (.if_icmp .ne 7, 3) := by decide +kernel
theorem dX0_leadingWeight_11 : decode cX0_leadingWeight 11 = .ok (.iconst 0, 1) := by decide +kernel
theorem dX0_leadingWeight_12 : decode cX0_leadingWeight 12 = .ok (.goto 9, 3) := by decide +kernel
theorem dX0_leadingWeight_15 : decode cX0_leadingWeight 15 = .ok (.aload_n 0, 1) := by decide +kernel
theorem dX0_leadingWeight_16 : decode cX0_leadingWeight 16 = .ok (.getfield 21, 3) := by decide +kernel
theorem dX0_leadingWeight_19 : decode cX0_leadingWeight 19 = .ok (.iload_n 2, 1) := by decide +kernel
theorem dX0_leadingWeight_20 : decode cX0_leadingWeight 20 = .ok (.iaload, 1) := by decide +kernel
theorem dX0_leadingWeight_21 : decode cX0_leadingWeight 21 = .ok (.ireturn, 1) := by decide +kernel
theorem dX0_leadOf_0 : decode cX0_leadOf 0 = .ok (.aload_n 0, 1) := by decide +kernel
theorem dX0_leadOf_1 : decode cX0_leadOf 1 = .ok (.iload_n 1, 1) := by decide +kernel
theorem dX0_leadOf_2 : decode cX0_leadOf 2 = .ok (.invokevirtual 34, 3) := by decide +kernel
theorem dX0_leadOf_5 : decode cX0_leadOf 5 = .ok (.istore_n 2, 1) := by decide +kernel
theorem dX0_leadOf_6 : decode cX0_leadOf 6 = .ok (.iload_n 2, 1) := by decide +kernel
theorem dX0_leadOf_7 : decode cX0_leadOf 7 = .ok (.iconst (-1), 1) := by decide +kernel
theorem dX0_leadOf_8 : decode cX0_leadOf 8 = .ok (.if_icmp .ne 5, 3) := by decide +kernel
theorem dX0_leadOf_11 : decode cX0_leadOf 11 = .ok (.iconst 0, 1) := by decide +kernel
theorem dX0_leadOf_12 : decode cX0_leadOf 12 = .ok (.ireturn, 1) := by decide +kernel
theorem dX0_leadOf_13 : decode cX0_leadOf 13 = .ok (.iconst 0, 1) := by decide +kernel
theorem dX0_leadOf_14 : decode cX0_leadOf 14 = .ok (.istore_n 3, 1) := by decide +kernel
theorem dX0_leadOf_15 : decode cX0_leadOf 15 = .ok (.iconst 0, 1) := by decide +kernel
theorem dX0_leadOf_16 : decode cX0_leadOf 16 = .ok (.istore 4, 2) := by decide +kernel
theorem dX0_leadOf_18 : decode cX0_leadOf 18 = .ok (.iload 4, 2) := by decide +kernel
theorem dX0_leadOf_20 : decode cX0_leadOf 20 = .ok (.aload_n 0, 1) := by decide +kernel
theorem dX0_leadOf_21 : decode cX0_leadOf 21 = .ok (.getfield 24, 3) := by decide +kernel
theorem dX0_leadOf_24 : decode cX0_leadOf 24 = .ok (.if_icmp .ge 38, 3) := by decide +kernel
theorem dX0_leadOf_27 : decode cX0_leadOf 27 = .ok (.aload_n 0, 1) := by decide +kernel
theorem dX0_leadOf_28 : decode cX0_leadOf 28 = .ok (.getfield 9, 3) := by decide +kernel
theorem dX0_leadOf_31 : decode cX0_leadOf 31 = .ok (.iload 4, 2) := by decide +kernel
theorem dX0_leadOf_33 : decode cX0_leadOf 33 = .ok (.iaload, 1) := by decide +kernel
theorem dX0_leadOf_34 : decode cX0_leadOf 34 = .ok (.iload_n 1, 1) := by decide +kernel
theorem dX0_leadOf_35 : decode cX0_leadOf 35 = .ok (.if_icmp .ne 21, 3) := by decide +kernel
theorem dX0_leadOf_38 : decode cX0_leadOf 38 = .ok (.iload 4, 2) := by decide +kernel
theorem dX0_leadOf_40 : decode cX0_leadOf 40 = .ok (.iload_n 2, 1) := by decide +kernel
theorem dX0_leadOf_41 : decode cX0_leadOf 41 = .ok (.if_icmp .eq 15, 3) := by decide +kernel
theorem dX0_leadOf_44 : decode cX0_leadOf 44 = .ok (.iload_n 3, 1) := by decide +kernel
theorem dX0_leadOf_45 : decode cX0_leadOf 45 = .ok (.aload_n 0, 1) := by decide +kernel
theorem dX0_leadOf_46 : decode cX0_leadOf 46 = .ok (.getfield 21, 3) := by decide +kernel
theorem dX0_leadOf_49 : decode cX0_leadOf 49 = .ok (.iload 4, 2) := by decide +kernel
theorem dX0_leadOf_51 : decode cX0_leadOf 51 = .ok (.iaload, 1) := by decide +kernel
theorem dX0_leadOf_52 : decode cX0_leadOf 52 = .ok (.invokestatic 38, 3) := by decide +kernel
theorem dX0_leadOf_55 : decode cX0_leadOf 55 = .ok (.istore_n 3, 1) := by decide +kernel
theorem dX0_leadOf_56 : decode cX0_leadOf 56 = .ok (.iinc 4 1, 3) := by decide +kernel
theorem dX0_leadOf_59 : decode cX0_leadOf 59 = .ok (.goto (-41), 3) := by decide +kernel
theorem dX0_leadOf_62 : decode cX0_leadOf 62 = .ok (.aload_n 0, 1) := by decide +kernel
theorem dX0_leadOf_63 : decode cX0_leadOf 63 = .ok (.getfield 21, 3) := by decide +kernel
theorem dX0_leadOf_66 : decode cX0_leadOf 66 = .ok (.iload_n 2, 1) := by decide +kernel
theorem dX0_leadOf_67 : decode cX0_leadOf 67 = .ok (.iaload, 1) := by decide +kernel
theorem dX0_leadOf_68 : decode cX0_leadOf 68 = .ok (.iload_n 3, 1) := by decide +kernel
theorem dX0_leadOf_69 : decode cX0_leadOf 69 = .ok (.isub, 1) := by decide +kernel
theorem dX0_leadOf_70 : decode cX0_leadOf 70 = .ok (.ireturn, 1) := by decide +kernel
theorem dX0_rankByWeight_0 : decode cX0_rankByWeight 0 = .ok (.iconst 0, 1) := by decide +kernel
theorem dX0_rankByWeight_1 : decode cX0_rankByWeight 1 = .ok (.istore_n 2, 1) := by decide +kernel
theorem dX0_rankByWeight_2 : decode cX0_rankByWeight 2 = .ok (.iconst 0, 1) := by decide +kernel
theorem dX0_rankByWeight_3 : decode cX0_rankByWeight 3 = .ok (.istore_n 3, 1) := by decide +kernel
theorem dX0_rankByWeight_4 : decode cX0_rankByWeight 4 = .ok (.iload_n 3, 1) := by decide +kernel
theorem dX0_rankByWeight_5 : decode cX0_rankByWeight 5 = .ok (.aload_n 0, 1) := by decide +kernel
theorem dX0_rankByWeight_6 : decode cX0_rankByWeight 6 = .ok (.getfield 24, 3) := by decide +kernel
theorem dX0_rankByWeight_9 : decode cX0_rankByWeight 9 = .ok (.if_icmp .ge 74, 3) := by decide +kernel
theorem dX0_rankByWeight_12 : decode cX0_rankByWeight 12 = .ok (.aload_n 0, 1) := by decide +kernel
theorem dX0_rankByWeight_13 : decode cX0_rankByWeight 13 = .ok (.getfield 21, 3) := by decide +kernel
theorem dX0_rankByWeight_16 : decode cX0_rankByWeight 16 = .ok (.iload_n 3, 1) := by decide +kernel
theorem dX0_rankByWeight_17 : decode cX0_rankByWeight 17 = .ok (.iaload, 1) := by decide +kernel
theorem dX0_rankByWeight_18 : decode cX0_rankByWeight 18 = .ok (.aload_n 0, 1) := by decide +kernel
theorem dX0_rankByWeight_19 : decode cX0_rankByWeight 19 = .ok (.getfield 21, 3) := by decide +kernel
theorem dX0_rankByWeight_22 : decode cX0_rankByWeight 22 = .ok (.iload_n 1, 1) := by decide +kernel
theorem dX0_rankByWeight_23 : decode cX0_rankByWeight 23 = .ok (.iaload, 1) := by decide +kernel
theorem dX0_rankByWeight_24 : decode cX0_rankByWeight 24 = .ok (.if_icmp .gt 23, 3) := by decide +kernel
theorem dX0_rankByWeight_27 : decode cX0_rankByWeight 27 = .ok (.aload_n 0, 1) := by decide +kernel
theorem dX0_rankByWeight_28 : decode cX0_rankByWeight 28 = .ok (.getfield 21, 3) := by decide +kernel
theorem dX0_rankByWeight_31 : decode cX0_rankByWeight 31 = .ok (.iload_n 3, 1) := by decide +kernel
theorem dX0_rankByWeight_32 : decode cX0_rankByWeight 32 = .ok (.iaload, 1) := by decide +kernel
theorem dX0_rankByWeight_33 : decode cX0_rankByWeight 33 = .ok (.aload_n 0, 1) := by decide +kernel
theorem dX0_rankByWeight_34 : decode cX0_rankByWeight 34 = .ok (.getfield 21, 3) := by decide +kernel
theorem dX0_rankByWeight_37 : decode cX0_rankByWeight 37 = .ok (.iload_n 1, 1) := by decide +kernel
theorem dX0_rankByWeight_38 : decode cX0_rankByWeight 38 = .ok (.iaload, 1) := by decide +kernel
theorem dX0_rankByWeight_39 : decode cX0_rankByWeight 39 = .ok (.if_icmp .ne 12, 3) := by decide +kernel
theorem dX0_rankByWeight_42 : decode cX0_rankByWeight 42 = .ok (.iload_n 3, 1) := by decide +kernel
theorem dX0_rankByWeight_43 : decode cX0_rankByWeight 43 = .ok (.iload_n 1, 1) := by decide +kernel
theorem dX0_rankByWeight_44 : decode cX0_rankByWeight 44 = .ok (.if_icmp .ge 7, 3) := by decide +kernel
theorem dX0_rankByWeight_47 : decode cX0_rankByWeight 47 = .ok (.iconst 1, 1) := by decide +kernel
theorem dX0_rankByWeight_48 : decode cX0_rankByWeight 48 = .ok (.goto 4, 3) := by decide +kernel
theorem dX0_rankByWeight_51 : decode cX0_rankByWeight 51 = .ok (.iconst 0, 1) := by decide +kernel
theorem dX0_rankByWeight_52 : decode cX0_rankByWeight 52 = .ok (.istore 4, 2) := by decide +kernel
theorem dX0_rankByWeight_54 : decode cX0_rankByWeight 54 = .ok (.aload_n 0, 1) := by decide +kernel
theorem dX0_rankByWeight_55 : decode cX0_rankByWeight 55 = .ok (.getfield 9, 3) := by decide +kernel
theorem dX0_rankByWeight_58 : decode cX0_rankByWeight 58 = .ok (.iload_n 3, 1) := by decide +kernel
theorem dX0_rankByWeight_59 : decode cX0_rankByWeight 59 = .ok (.iaload, 1) := by decide +kernel
theorem dX0_rankByWeight_60 : decode cX0_rankByWeight 60 = .ok (.aload_n 0, 1) := by decide +kernel
theorem dX0_rankByWeight_61 : decode cX0_rankByWeight 61 = .ok (.getfield 9, 3) := by decide +kernel
theorem dX0_rankByWeight_64 : decode cX0_rankByWeight 64 = .ok (.iload_n 1, 1) := by decide +kernel
theorem dX0_rankByWeight_65 : decode cX0_rankByWeight 65 = .ok (.iaload, 1) := by decide +kernel
theorem dX0_rankByWeight_66 : decode cX0_rankByWeight 66 = .ok (.if_icmp .ne 11, 3) := by decide +kernel
theorem dX0_rankByWeight_69 : decode cX0_rankByWeight 69 = .ok (.iload 4, 2) := by decide +kernel
theorem dX0_rankByWeight_71 : decode cX0_rankByWeight 71 = .ok (.ifCond .eq 6, 3) := by decide +kernel
theorem dX0_rankByWeight_74 : decode cX0_rankByWeight 74 = .ok (.iinc 2 1, 3) := by decide +kernel
theorem dX0_rankByWeight_77 : decode cX0_rankByWeight 77 = .ok (.iinc 3 1, 3) := by decide +kernel
theorem dX0_rankByWeight_80 : decode cX0_rankByWeight 80 = .ok (.goto (-76), 3) := by decide +kernel
theorem dX0_rankByWeight_83 : decode cX0_rankByWeight 83 = .ok (.iload_n 2, 1) := by decide +kernel
theorem dX0_rankByWeight_84 : decode cX0_rankByWeight 84 = .ok (.ireturn, 1) := by decide +kernel
theorem dX0_cast_0 : decode cX0_cast 0 = .ok (.aload_n 0, 1) := by decide +kernel
theorem dX0_cast_1 : decode cX0_cast 1 = .ok (.iload_n 1, 1) := by decide +kernel
theorem dX0_cast_2 : decode cX0_cast 2 = .ok (.iload_n 2, 1) := by decide +kernel
theorem dX0_cast_3 : decode cX0_cast 3 = .ok (.invokevirtual 44, 3) := by decide +kernel
theorem dX0_cast_6 : decode cX0_cast 6 = .ok (.istore 4, 2) := by decide +kernel
theorem dX0_cast_8 : decode cX0_cast 8 = .ok (.iload 4, 2) := by decide +kernel
theorem dX0_cast_10 : decode cX0_cast 10 = .ok (.iconst (-1), 1) := by decide +kernel
theorem dX0_cast_11 : decode cX0_cast 11 = .ok (.if_icmp .ne 63, 3) := by decide +kernel
theorem dX0_cast_14 : decode cX0_cast 14 = .ok (.aload_n 0, 1) := by decide +kernel
theorem dX0_cast_15 : decode cX0_cast 15 = .ok (.getfield 24, 3) := by decide +kernel
theorem dX0_cast_18 : decode cX0_cast 18 = .ok (.sipush 170, 3) := by decide +kernel
theorem dX0_cast_21 : decode cX0_cast 21 = .ok (.if_icmp .lt 5, 3) := by decide +kernel
theorem dX0_cast_24 : decode cX0_cast 24 = .ok (.iconst 0, 1) := by decide +kernel
theorem dX0_cast_25 : decode cX0_cast 25 = .ok (.ireturn, 1) := by decide +kernel
theorem dX0_cast_26 : decode cX0_cast 26 = .ok (.aload_n 0, 1) := by decide +kernel
theorem dX0_cast_27 : decode cX0_cast 27 = .ok (.getfield 24, 3) := by decide +kernel
theorem dX0_cast_30 : decode cX0_cast 30 = .ok (.istore 4, 2) := by decide +kernel
theorem dX0_cast_32 : decode cX0_cast 32 = .ok (.aload_n 0, 1) := by decide +kernel
theorem dX0_cast_33 : decode cX0_cast 33 = .ok (.dup, 1) := by decide +kernel
theorem dX0_cast_34 : decode cX0_cast 34 = .ok (.getfield 24, 3) := by decide +kernel
theorem dX0_cast_37 : decode cX0_cast 37 = .ok (.iconst 1, 1) := by decide +kernel
theorem dX0_cast_38 : decode cX0_cast 38 = .ok (.iadd, 1) := by decide +kernel
theorem dX0_cast_39 : decode cX0_cast 39 = .ok (.putfield 24, 3) := by decide +kernel
theorem dX0_cast_42 : decode cX0_cast 42 = .ok (.aload_n 0, 1) := by decide +kernel
theorem dX0_cast_43 : decode cX0_cast 43 = .ok (.getfield 9, 3) := by decide +kernel
theorem dX0_cast_46 : decode cX0_cast 46 = .ok (.iload 4, 2) := by decide +kernel
theorem dX0_cast_48 : decode cX0_cast 48 = .ok (.iload_n 1, 1) := by decide +kernel
theorem dX0_cast_49 : decode cX0_cast 49 = .ok (.iastore, 1) := by decide +kernel
theorem dX0_cast_50 : decode cX0_cast 50 = .ok (.aload_n 0, 1) := by decide +kernel
theorem dX0_cast_51 : decode cX0_cast 51 = .ok (.getfield 15, 3) := by decide +kernel
theorem dX0_cast_54 : decode cX0_cast 54 = .ok (.iload 4, 2) := by decide +kernel
theorem dX0_cast_56 : decode cX0_cast 56 = .ok (.iload_n 2, 1) := by decide +kernel
theorem dX0_cast_57 : decode cX0_cast 57 = .ok (.iastore, 1) := by decide +kernel
theorem dX0_cast_58 : decode cX0_cast 58 = .ok (.aload_n 0, 1) := by decide +kernel
theorem dX0_cast_59 : decode cX0_cast 59 = .ok (.getfield 18, 3) := by decide +kernel
theorem dX0_cast_62 : decode cX0_cast 62 = .ok (.iload 4, 2) := by decide +kernel
theorem dX0_cast_64 : decode cX0_cast 64 = .ok (.iconst 0, 1) := by decide +kernel
theorem dX0_cast_65 : decode cX0_cast 65 = .ok (.iastore, 1) := by decide +kernel
theorem dX0_cast_66 : decode cX0_cast 66 = .ok (.aload_n 0, 1) := by decide +kernel
theorem dX0_cast_67 : decode cX0_cast 67 = .ok (.getfield 21, 3) := by decide +kernel
theorem dX0_cast_70 : decode cX0_cast 70 = .ok (.iload 4, 2) := by decide +kernel
theorem dX0_cast_72 : decode cX0_cast 72 = .ok (.iconst 0, 1) := by decide +kernel
theorem dX0_cast_73 : decode cX0_cast 73 = .ok (.iastore, 1) := by decide +kernel
theorem dX0_cast_74 : decode cX0_cast 74 = .ok (.aload_n 0, 1) := by decide +kernel
theorem dX0_cast_75 : decode cX0_cast 75 = .ok (.getfield 18, 3) := by decide +kernel
theorem dX0_cast_78 : decode cX0_cast 78 = .ok (.iload 4, 2) := by decide +kernel
theorem dX0_cast_80 : decode cX0_cast 80 = .ok (.dup2, 1) := by decide +kernel
theorem dX0_cast_81 : decode cX0_cast 81 = .ok (.iaload, 1) := by decide +kernel
theorem dX0_cast_82 : decode cX0_cast 82 = .ok (.iconst 1, 1) := by decide +kernel
theorem dX0_cast_83 : decode cX0_cast 83 = .ok (.iadd, 1) := by decide +kernel
theorem dX0_cast_84 : decode cX0_cast 84 = .ok (.iastore, 1) := by decide +kernel
theorem dX0_cast_85 : decode cX0_cast 85 = .ok (.aload_n 0, 1) := by decide +kernel
theorem dX0_cast_86 : decode cX0_cast 86 = .ok (.getfield 21, 3) := by decide +kernel
theorem dX0_cast_89 : decode cX0_cast 89 = .ok (.iload 4, 2) := by decide +kernel
theorem dX0_cast_91 : decode cX0_cast 91 = .ok (.dup2, 1) := by decide +kernel
theorem dX0_cast_92 : decode cX0_cast 92 = .ok (.iaload, 1) := by decide +kernel
theorem dX0_cast_93 : decode cX0_cast 93 = .ok (.iload_n 3, 1) := by decide +kernel
theorem dX0_cast_94 : decode cX0_cast 94 = .ok (.iadd, 1) := by decide +kernel
theorem dX0_cast_95 : decode cX0_cast 95 = .ok (.iastore, 1) := by decide +kernel
theorem dX0_cast_96 : decode cX0_cast 96 = .ok (.iconst 1, 1) := by decide +kernel
theorem dX0_cast_97 : decode cX0_cast 97 = .ok (.ireturn, 1) := by decide +kernel
theorem dX0_forget_0 : decode cX0_forget 0 = .ok (.iconst 0, 1) := by decide +kernel
theorem dX0_forget_1 : decode cX0_forget 1 = .ok (.istore_n 2, 1) := by decide +kernel
theorem dX0_forget_2 : decode cX0_forget 2 = .ok (.iconst 0, 1) := by decide +kernel
theorem dX0_forget_3 : decode cX0_forget 3 = .ok (.istore_n 3, 1) := by decide +kernel
theorem dX0_forget_4 : decode cX0_forget 4 = .ok (.iload_n 3, 1) := by decide +kernel
theorem dX0_forget_5 : decode cX0_forget 5 = .ok (.aload_n 0, 1) := by decide +kernel
theorem dX0_forget_6 : decode cX0_forget 6 = .ok (.getfield 24, 3) := by decide +kernel
theorem dX0_forget_9 : decode cX0_forget 9 = .ok (.if_icmp .ge 70, 3) := by decide +kernel
theorem dX0_forget_12 : decode cX0_forget 12 = .ok (.aload_n 0, 1) := by decide +kernel
theorem dX0_forget_13 : decode cX0_forget 13 = .ok (.getfield 9, 3) := by decide +kernel
theorem dX0_forget_16 : decode cX0_forget 16 = .ok (.iload_n 3, 1) := by decide +kernel
theorem dX0_forget_17 : decode cX0_forget 17 = .ok (.iaload, 1) := by decide +kernel
theorem dX0_forget_18 : decode cX0_forget 18 = .ok (.iload_n 1, 1) := by decide +kernel
theorem dX0_forget_19 : decode cX0_forget 19 = .ok (.if_icmp .eq 54, 3) := by decide +kernel
theorem dX0_forget_22 : decode cX0_forget 22 = .ok (.aload_n 0, 1) := by decide +kernel
theorem dX0_forget_23 : decode cX0_forget 23 = .ok (.getfield 9, 3) := by decide +kernel
theorem dX0_forget_26 : decode cX0_forget 26 = .ok (.iload_n 2, 1) := by decide +kernel
theorem dX0_forget_27 : decode cX0_forget 27 = .ok (.aload_n 0, 1) := by decide +kernel
theorem dX0_forget_28 : decode cX0_forget 28 = .ok (.getfield 9, 3) := by decide +kernel
theorem dX0_forget_31 : decode cX0_forget 31 = .ok (.iload_n 3, 1) := by decide +kernel
theorem dX0_forget_32 : decode cX0_forget 32 = .ok (.iaload, 1) := by decide +kernel
theorem dX0_forget_33 : decode cX0_forget 33 = .ok (.iastore, 1) := by decide +kernel
theorem dX0_forget_34 : decode cX0_forget 34 = .ok (.aload_n 0, 1) := by decide +kernel
theorem dX0_forget_35 : decode cX0_forget 35 = .ok (.getfield 15, 3) := by decide +kernel
theorem dX0_forget_38 : decode cX0_forget 38 = .ok (.iload_n 2, 1) := by decide +kernel
theorem dX0_forget_39 : decode cX0_forget 39 = .ok (.aload_n 0, 1) := by decide +kernel
theorem dX0_forget_40 : decode cX0_forget 40 = .ok (.getfield 15, 3) := by decide +kernel
theorem dX0_forget_43 : decode cX0_forget 43 = .ok (.iload_n 3, 1) := by decide +kernel
theorem dX0_forget_44 : decode cX0_forget 44 = .ok (.iaload, 1) := by decide +kernel
theorem dX0_forget_45 : decode cX0_forget 45 = .ok (.iastore, 1) := by decide +kernel
theorem dX0_forget_46 : decode cX0_forget 46 = .ok (.aload_n 0, 1) := by decide +kernel
theorem dX0_forget_47 : decode cX0_forget 47 = .ok (.getfield 18, 3) := by decide +kernel
theorem dX0_forget_50 : decode cX0_forget 50 = .ok (.iload_n 2, 1) := by decide +kernel
theorem dX0_forget_51 : decode cX0_forget 51 = .ok (.aload_n 0, 1) := by decide +kernel
theorem dX0_forget_52 : decode cX0_forget 52 = .ok (.getfield 18, 3) := by decide +kernel
theorem dX0_forget_55 : decode cX0_forget 55 = .ok (.iload_n 3, 1) := by decide +kernel
theorem dX0_forget_56 : decode cX0_forget 56 = .ok (.iaload, 1) := by decide +kernel
theorem dX0_forget_57 : decode cX0_forget 57 = .ok (.iastore, 1) := by decide +kernel
theorem dX0_forget_58 : decode cX0_forget 58 = .ok (.aload_n 0, 1) := by decide +kernel
theorem dX0_forget_59 : decode cX0_forget 59 = .ok (.getfield 21, 3) := by decide +kernel
theorem dX0_forget_62 : decode cX0_forget 62 = .ok (.iload_n 2, 1) := by decide +kernel
theorem dX0_forget_63 : decode cX0_forget 63 = .ok (.aload_n 0, 1) := by decide +kernel
theorem dX0_forget_64 : decode cX0_forget 64 = .ok (.getfield 21, 3) := by decide +kernel
theorem dX0_forget_67 : decode cX0_forget 67 = .ok (.iload_n 3, 1) := by decide +kernel
theorem dX0_forget_68 : decode cX0_forget 68 = .ok (.iaload, 1) := by decide +kernel
theorem dX0_forget_69 : decode cX0_forget 69 = .ok (.iastore, 1) := by decide +kernel
theorem dX0_forget_70 : decode cX0_forget 70 = .ok (.iinc 2 1, 3) := by decide +kernel
theorem dX0_forget_73 : decode cX0_forget 73 = .ok (.iinc 3 1, 3) := by decide +kernel
theorem dX0_forget_76 : decode cX0_forget 76 = .ok (.goto (-72), 3) := by decide +kernel
theorem dX0_forget_79 : decode cX0_forget 79 = .ok (.aload_n 0, 1) := by decide +kernel
theorem dX0_forget_80 : decode cX0_forget 80 = .ok (.iload_n 2, 1) := by decide +kernel
theorem dX0_forget_81 : decode cX0_forget 81 = .ok (.putfield 24, 3) := by decide +kernel
theorem dX0_forget_84 : decode cX0_forget 84 = .ok (.return_, 1) := by decide +kernel
theorem dX0_renumberBehind_0 : decode cX0_renumberBehind 0 = .ok (.iconst 0, 1) := by decide +kernel
theorem dX0_renumberBehind_1 : decode cX0_renumberBehind 1 = .ok (.istore_n 2, 1) := by decide +kernel
theorem dX0_renumberBehind_2 : decode cX0_renumberBehind 2 = .ok (.iload_n 2, 1) := by decide +kernel
theorem dX0_renumberBehind_3 : decode cX0_renumberBehind 3 = .ok (.aload_n 0, 1) := by decide +kernel
theorem dX0_renumberBehind_4 : decode cX0_renumberBehind 4 = .ok (.getfield 24, 3) := by decide +kernel
theorem dX0_renumberBehind_7 : decode cX0_renumberBehind 7 = .ok (.if_icmp .ge 29, 3) := by decide +kernel
theorem dX0_renumberBehind_10 : decode cX0_renumberBehind 10 = .ok (.aload_n 0, 1) := by decide +kernel
theorem dX0_renumberBehind_11 : decode cX0_renumberBehind 11 = .ok (.getfield 9, 3) := by decide +kernel
theorem dX0_renumberBehind_14 : decode cX0_renumberBehind 14 = .ok (.iload_n 2, 1) := by decide +kernel
theorem dX0_renumberBehind_15 : decode cX0_renumberBehind 15 = .ok (.iaload, 1) := by decide +kernel
theorem dX0_renumberBehind_16 : decode cX0_renumberBehind 16 = .ok (.iload_n 1, 1) := by decide +kernel
theorem dX0_renumberBehind_17 : decode cX0_renumberBehind 17 = .ok (.if_icmp .le 13, 3) := by decide +kernel
theorem dX0_renumberBehind_20 : decode cX0_renumberBehind 20 = .ok (.aload_n 0, 1) := by decide +kernel
theorem dX0_renumberBehind_21 : decode cX0_renumberBehind 21 = .ok (.getfield 9, 3) := by decide +kernel
theorem dX0_renumberBehind_24 : decode cX0_renumberBehind 24 = .ok (.iload_n 2, 1) := by decide +kernel
theorem dX0_renumberBehind_25 : decode cX0_renumberBehind 25 = .ok (.dup2, 1) := by decide +kernel
theorem dX0_renumberBehind_26 : decode cX0_renumberBehind 26 = .ok (.iaload, 1) := by decide +kernel
theorem dX0_renumberBehind_27 : decode cX0_renumberBehind 27 = .ok (.iconst 1, 1) := by decide +kernel
theorem dX0_renumberBehind_28 : decode cX0_renumberBehind 28 = .ok (.isub, 1) := by decide +kernel
theorem dX0_renumberBehind_29 : decode cX0_renumberBehind 29 = .ok (.iastore, 1) := by decide +kernel
theorem dX0_renumberBehind_30 : decode cX0_renumberBehind 30 = .ok (.iinc 2 1, 3) := by decide +kernel
theorem dX0_renumberBehind_33 : decode cX0_renumberBehind 33 = .ok (.goto (-31), 3) := by decide +kernel
theorem dX0_renumberBehind_36 : decode cX0_renumberBehind 36 = .ok (.return_, 1) := by decide +kernel
theorem dX0_placeOfLetters_0 : decode cX0_placeOfLetters 0 = .ok (.iconst 0, 1) := by decide +kernel
theorem dX0_placeOfLetters_1 : decode cX0_placeOfLetters 1 = .ok (.istore_n 3, 1) := by decide +kernel
theorem dX0_placeOfLetters_2 : decode cX0_placeOfLetters 2 = .ok (.iload_n 3, 1) := by decide +kernel
theorem dX0_placeOfLetters_3 : decode cX0_placeOfLetters 3 = .ok (.aload_n 0, 1) := by decide +kernel
theorem dX0_placeOfLetters_4 : decode cX0_placeOfLetters 4 = .ok (.getfield 24, 3) := by decide +kernel
theorem dX0_placeOfLetters_7 : decode cX0_placeOfLetters 7 = .ok (.if_icmp .ge 31, 3) := by decide +kernel
theorem dX0_placeOfLetters_10 : decode cX0_placeOfLetters 10 = .ok (.aload_n 0, 1) := by decide +kernel
theorem dX0_placeOfLetters_11 : decode cX0_placeOfLetters 11 = .ok (.getfield 9, 3) := by decide +kernel
theorem dX0_placeOfLetters_14 : decode cX0_placeOfLetters 14 = .ok (.iload_n 3, 1) := by decide +kernel
theorem dX0_placeOfLetters_15 : decode cX0_placeOfLetters 15 = .ok (.iaload, 1) := by decide +kernel
theorem dX0_placeOfLetters_16 : decode cX0_placeOfLetters 16 = .ok (.iload_n 1, 1) := by decide +kernel
theorem dX0_placeOfLetters_17 : decode cX0_placeOfLetters 17 = .ok (.if_icmp .ne 15, 3) := by decide +kernel
theorem dX0_placeOfLetters_20 : decode cX0_placeOfLetters 20 = .ok (.aload_n 0, 1) := by decide +kernel
theorem dX0_placeOfLetters_21 : decode cX0_placeOfLetters 21 = .ok (.getfield 15, 3) := by decide +kernel
theorem dX0_placeOfLetters_24 : decode cX0_placeOfLetters 24 = .ok (.iload_n 3, 1) := by decide +kernel
theorem dX0_placeOfLetters_25 : decode cX0_placeOfLetters 25 = .ok (.iaload, 1) := by decide +kernel
theorem dX0_placeOfLetters_26 : decode cX0_placeOfLetters 26 = .ok (.iload_n 2, 1) := by decide +kernel
theorem dX0_placeOfLetters_27 : decode cX0_placeOfLetters 27 = .ok (.if_icmp .ne 5, 3) := by decide +kernel
theorem dX0_placeOfLetters_30 : decode cX0_placeOfLetters 30 = .ok (.iload_n 3, 1) := by decide +kernel
theorem dX0_placeOfLetters_31 : decode cX0_placeOfLetters 31 = .ok (.ireturn, 1) := by decide +kernel
theorem dX0_placeOfLetters_32 : decode cX0_placeOfLetters 32 = .ok (.iinc 3 1, 3) := by decide +kernel
theorem dX0_placeOfLetters_35 : decode cX0_placeOfLetters 35 = .ok (.goto (-33), 3) := by decide +kernel
theorem dX0_placeOfLetters_38 : decode cX0_placeOfLetters 38 = .ok (.iconst (-1), 1) := by decide +kernel
theorem dX0_placeOfLetters_39 : decode cX0_placeOfLetters 39 = .ok (.ireturn, 1) := by decide +kernel
theorem dX0_leadingPlace_0 : decode cX0_leadingPlace 0 = .ok (.iconst (-1), 1) := by decide +kernel
theorem dX0_leadingPlace_1 : decode cX0_leadingPlace 1 = .ok (.istore_n 2, 1) := by decide +kernel
theorem dX0_leadingPlace_2 : decode cX0_leadingPlace 2 = .ok (.iconst 0, 1) := by decide +kernel
theorem dX0_leadingPlace_3 : decode cX0_leadingPlace 3 = .ok (.istore_n 3, 1) := by decide +kernel
theorem dX0_leadingPlace_4 : decode cX0_leadingPlace 4 = .ok (.iload_n 3, 1) := by decide +kernel
theorem dX0_leadingPlace_5 : decode cX0_leadingPlace 5 = .ok (.aload_n 0, 1) := by decide +kernel
theorem dX0_leadingPlace_6 : decode cX0_leadingPlace 6 = .ok (.getfield 24, 3) := by decide +kernel
theorem dX0_leadingPlace_9 : decode cX0_leadingPlace 9 = .ok (.if_icmp .ge 41, 3) := by decide +kernel
theorem dX0_leadingPlace_12 : decode cX0_leadingPlace 12 = .ok (.aload_n 0, 1) := by decide +kernel
theorem dX0_leadingPlace_13 : decode cX0_leadingPlace 13 = .ok (.getfield 9, 3) := by decide +kernel
theorem dX0_leadingPlace_16 : decode cX0_leadingPlace 16 = .ok (.iload_n 3, 1) := by decide +kernel
theorem dX0_leadingPlace_17 : decode cX0_leadingPlace 17 = .ok (.iaload, 1) := by decide +kernel
theorem dX0_leadingPlace_18 : decode cX0_leadingPlace 18 = .ok (.iload_n 1, 1) := by decide +kernel
theorem dX0_leadingPlace_19 : decode cX0_leadingPlace 19 = .ok (.if_icmp .ne 25, 3) := by decide +kernel
theorem dX0_leadingPlace_22 : decode cX0_leadingPlace 22 = .ok (.iload_n 2, 1) := by decide +kernel
theorem dX0_leadingPlace_23 : decode cX0_leadingPlace 23 = .ok (.iconst (-1), 1) := by decide +kernel
theorem dX0_leadingPlace_24 : decode cX0_leadingPlace 24 = .ok (.if_icmp .eq 18, 3) := by decide +kernel
theorem dX0_leadingPlace_27 : decode cX0_leadingPlace 27 = .ok (.aload_n 0, 1) := by decide +kernel
theorem dX0_leadingPlace_28 : decode cX0_leadingPlace 28 = .ok (.getfield 21, 3) := by decide +kernel
theorem dX0_leadingPlace_31 : decode cX0_leadingPlace 31 = .ok (.iload_n 3, 1) := by decide +kernel
theorem dX0_leadingPlace_32 : decode cX0_leadingPlace 32 = .ok (.iaload, 1) := by decide +kernel
theorem dX0_leadingPlace_33 : decode cX0_leadingPlace 33 = .ok (.aload_n 0, 1) := by decide +kernel
theorem dX0_leadingPlace_34 : decode cX0_leadingPlace 34 = .ok (.getfield 21, 3) := by decide +kernel
theorem dX0_leadingPlace_37 : decode cX0_leadingPlace 37 = .ok (.iload_n 2, 1) := by decide +kernel
theorem dX0_leadingPlace_38 : decode cX0_leadingPlace 38 = .ok (.iaload, 1) := by decide +kernel
theorem dX0_leadingPlace_39 : decode cX0_leadingPlace 39 = .ok (.if_icmp .le 5, 3) := by decide +kernel
theorem dX0_leadingPlace_42 : decode cX0_leadingPlace 42 = .ok (.iload_n 3, 1) := by decide +kernel
theorem dX0_leadingPlace_43 : decode cX0_leadingPlace 43 = .ok (.istore_n 2, 1) := by decide +kernel
theorem dX0_leadingPlace_44 : decode cX0_leadingPlace 44 = .ok (.iinc 3 1, 3) := by decide +kernel
theorem dX0_leadingPlace_47 : decode cX0_leadingPlace 47 = .ok (.goto (-43), 3) := by decide +kernel
theorem dX0_leadingPlace_50 : decode cX0_leadingPlace 50 = .ok (.iload_n 2, 1) := by decide +kernel
theorem dX0_leadingPlace_51 : decode cX0_leadingPlace 51 = .ok (.ireturn, 1) := by decide +kernel
theorem dX1_init_0 : decode cX1_init 0 = .ok (.aload_n 0, 1) := by decide +kernel
theorem dX1_init_1 : decode cX1_init 1 = .ok (.invokespecial 3, 3) := by decide +kernel
theorem dX1_init_4 : decode cX1_init 4 = .ok (.aload_n 0, 1) := by decide +kernel
theorem dX1_init_5 : decode cX1_init 5 = .ok (.bipush 60, 2) := by decide +kernel
theorem dX1_init_7 : decode cX1_init 7 = .ok (.newarray .char, 2) := by decide +kernel
theorem dX1_init_9 : decode cX1_init 9 = .ok (.putfield 9, 3) := by decide +kernel
theorem dX1_init_12 : decode cX1_init 12 = .ok (.return_, 1) := by decide +kernel
theorem dX1_hasRoomFor_0 : decode cX1_hasRoomFor 0 = .ok (.aload_n 0, 1) := by decide +kernel
theorem dX1_hasRoomFor_1 : decode cX1_hasRoomFor 1 = .ok (.getfield 15, 3) := by decide +kernel
theorem dX1_hasRoomFor_4 : decode cX1_hasRoomFor 4 = .ok (.iload_n 1, 1) := by decide +kernel
theorem dX1_hasRoomFor_5 : decode cX1_hasRoomFor 5 = .ok (.iadd, 1) := by decide +kernel
theorem dX1_hasRoomFor_6 : decode cX1_hasRoomFor 6 = .ok (.bipush 60, 2) := by decide +kernel
theorem dX1_hasRoomFor_8 : decode cX1_hasRoomFor 8 = .ok (.if_icmp .gt 7, 3) := by decide +kernel
theorem dX1_hasRoomFor_11 : decode cX1_hasRoomFor 11 = .ok (.iconst 1, 1) := by decide +kernel
theorem dX1_hasRoomFor_12 : decode cX1_hasRoomFor 12 = .ok (.goto 4, 3) := by decide +kernel
theorem dX1_hasRoomFor_15 : decode cX1_hasRoomFor 15 = .ok (.iconst 0, 1) := by decide +kernel
theorem dX1_hasRoomFor_16 : decode cX1_hasRoomFor 16 = .ok (.ireturn, 1) := by decide +kernel
theorem dX1_append_0 : decode cX1_append 0 = .ok (.aload_n 0, 1) := by decide +kernel
theorem dX1_append_1 : decode cX1_append 1 = .ok (.iconst 1, 1) := by decide +kernel
theorem dX1_append_2 : decode cX1_append 2 = .ok (.invokevirtual 19, 3) := by decide +kernel
theorem dX1_append_5 : decode cX1_append 5 = .ok (.ifCond .eq 24, 3) := by decide +kernel
theorem dX1_append_8 : decode cX1_append 8 = .ok (.aload_n 0, 1) := by decide +kernel
theorem dX1_append_9 : decode cX1_append 9 = .ok (.getfield 9, 3) := by decide +kernel
theorem dX1_append_12 : decode cX1_append 12 = .ok (.aload_n 0, 1) := by decide +kernel
theorem dX1_append_13 : decode cX1_append 13 = .ok (.getfield 15, 3) := by decide +kernel
theorem dX1_append_16 : decode cX1_append 16 = .ok (.iload_n 1, 1) := by decide +kernel
theorem dX1_append_17 : decode cX1_append 17 = .ok (.i2c, 1) := by decide +kernel
theorem dX1_append_18 : decode cX1_append 18 = .ok (.castore, 1) := by decide +kernel
theorem dX1_append_19 : decode cX1_append 19 = .ok (.aload_n 0, 1) := by decide +kernel
theorem dX1_append_20 : decode cX1_append 20 = .ok (.dup, 1) := by decide +kernel
theorem dX1_append_21 : decode cX1_append 21 = .ok (.getfield 15, 3) := by decide +kernel
theorem dX1_append_24 : decode cX1_append 24 = .ok (.iconst 1, 1) := by decide +kernel
theorem dX1_append_25 : decode cX1_append 25 = .ok (.iadd, 1) := by decide +kernel
theorem dX1_append_26 : decode cX1_append 26 = .ok (.putfield 15, 3) := by decide +kernel
theorem dX1_append_29 : decode cX1_append 29 = .ok (.return_, 1) := by decide +kernel
theorem dX2_init_0 : decode cX2_init 0 = .ok (.aload_n 0, 1) := by decide +kernel
theorem dX2_init_1 : decode cX2_init 1 = .ok (.invokespecial 1, 3) := by decide +kernel
theorem dX2_init_4 : decode cX2_init 4 = .ok (.return_, 1) := by decide +kernel
theorem dX3_init_0 : decode cX3_init 0 = .ok (.aload_n 0, 1) := by decide +kernel
theorem dX3_init_1 : decode cX3_init 1 = .ok (.invokespecial 3, 3) := by decide +kernel
theorem dX3_init_4 : decode cX3_init 4 = .ok (.aload_n 0, 1) := by decide +kernel
theorem dX3_init_5 : decode cX3_init 5 = .ok (.new 9, 3) := by decide +kernel
theorem dX3_init_8 : decode cX3_init 8 = .ok (.dup, 1) := by decide +kernel
theorem dX3_init_9 : decode cX3_init 9 = .ok (.invokespecial 11, 3) := by decide +kernel
theorem dX3_init_12 : decode cX3_init 12 = .ok (.putfield 12, 3) := by decide +kernel
theorem dX3_init_15 : decode cX3_init 15 = .ok (.aload_n 0, 1) := by decide +kernel
theorem dX3_init_16 : decode cX3_init 16 = .ok (.new 18, 3) := by decide +kernel
theorem dX3_init_19 : decode cX3_init 19 = .ok (.dup, 1) := by decide +kernel
theorem dX3_init_20 : decode cX3_init 20 = .ok (.invokespecial 20, 3) := by decide +kernel
theorem dX3_init_23 : decode cX3_init 23 = .ok (.putfield 21, 3) := by decide +kernel
theorem dX3_init_26 : decode cX3_init 26 = .ok (.aload_n 0, 1) := by decide +kernel
theorem dX3_init_27 : decode cX3_init 27 = .ok (.new 18, 3) := by decide +kernel
theorem dX3_init_30 : decode cX3_init 30 = .ok (.dup, 1) := by decide +kernel
theorem dX3_init_31 : decode cX3_init 31 = .ok (.invokespecial 20, 3) := by decide +kernel
theorem dX3_init_34 : decode cX3_init 34 = .ok (.putfield 25, 3) := by decide +kernel
theorem dX3_init_37 : decode cX3_init 37 = .ok (.return_, 1) := by decide +kernel
theorem dX3_readWholeAsLetters_0 : decode cX3_readWholeAsLetters 0 = .ok (.aload_n 0, 1) := by decide +kernel
theorem dX3_readWholeAsLetters_1 : decode cX3_readWholeAsLetters 1 = .ok (.iconst 0, 1) := by decide +kernel
theorem dX3_readWholeAsLetters_2 : decode cX3_readWholeAsLetters 2 = .ok (.putfield 28, 3) := by decide +kernel
theorem dX3_readWholeAsLetters_5 : decode cX3_readWholeAsLetters 5 = .ok (.aload_n 0, 1) := by decide +kernel
theorem dX3_readWholeAsLetters_6 : decode cX3_readWholeAsLetters 6 = .ok (.invokevirtual 32, 3) := by decide +kernel
theorem dX3_readWholeAsLetters_9 : decode cX3_readWholeAsLetters 9 = .ok (.istore_n 1, 1) := by decide +kernel
theorem dX3_readWholeAsLetters_10 : decode cX3_readWholeAsLetters 10 = .ok (.aload_n 0, 1) := by decide +kernel
theorem dX3_readWholeAsLetters_11 : decode cX3_readWholeAsLetters 11 = .ok (.getfield 28, 3) := by decide +kernel
theorem dX3_readWholeAsLetters_14 : decode cX3_readWholeAsLetters 14 = .ok (.aload_n 0, 1) := by decide +kernel
theorem dX3_readWholeAsLetters_15 : decode cX3_readWholeAsLetters 15 = .ok (.getfield 12, 3) := by decide +kernel
theorem dX3_readWholeAsLetters_18 : decode cX3_readWholeAsLetters 18 = .ok (.getfield 36, 3) := by decide +kernel
theorem dX3_readWholeAsLetters_21 : decode cX3_readWholeAsLetters 21 = .ok (.if_icmp .ne 7, 3) := by decide +kernel
theorem dX3_readWholeAsLetters_24 : decode cX3_readWholeAsLetters 24 = .ok (.iload_n 1, 1) := by decide +kernel
theorem dX3_readWholeAsLetters_25 : decode cX3_readWholeAsLetters 25 = .ok (.goto 4, 3) := by decide +kernel
theorem dX3_readWholeAsLetters_28 : decode cX3_readWholeAsLetters 28 = .ok (.iconst 0, 1) := by decide +kernel
theorem dX3_readWholeAsLetters_29 : decode cX3_readWholeAsLetters 29 = .ok (.ireturn, 1) := by decide +kernel
theorem dX3_readWholeAsAnswer_0 : decode cX3_readWholeAsAnswer 0 = .ok (.aload_n 0, 1) := by decide +kernel
theorem dX3_readWholeAsAnswer_1 : decode cX3_readWholeAsAnswer 1 = .ok (.iconst 0, 1) := by decide +kernel
theorem dX3_readWholeAsAnswer_2 : decode cX3_readWholeAsAnswer 2 = .ok (.putfield 28, 3) := by decide +kernel
theorem dX3_readWholeAsAnswer_5 : decode cX3_readWholeAsAnswer 5 = .ok (.aload_n 0, 1) := by decide +kernel
theorem dX3_readWholeAsAnswer_6 : decode cX3_readWholeAsAnswer 6 = .ok (.invokevirtual 39, 3) := by decide +kernel
theorem dX3_readWholeAsAnswer_9 : decode cX3_readWholeAsAnswer 9 = .ok (.ifCond .eq 77, 3) := by decide +kernel
theorem dX3_readWholeAsAnswer_12 : decode cX3_readWholeAsAnswer 12 = .ok (.aload_n 0, 1) := by decide +kernel
theorem dX3_readWholeAsAnswer_13 : decode cX3_readWholeAsAnswer 13 = .ok (.bipush 58, 2) := by decide +kernel
theorem dX3_readWholeAsAnswer_15 : decode cX3_readWholeAsAnswer 15 = .ok (.invokevirtual 43, 3) := by decide +kernel
theorem dX3_readWholeAsAnswer_18 : decode cX3_readWholeAsAnswer 18 = .ok (.ifCond .eq 68, 3) := by decide +kernel
theorem dX3_readWholeAsAnswer_21 : decode cX3_readWholeAsAnswer 21 = .ok (.aload_n 0, 1) := by decide +kernel
theorem dX3_readWholeAsAnswer_22 : decode cX3_readWholeAsAnswer 22 = .ok (.aload_n 0, 1) := by decide +kernel
theorem dX3_readWholeAsAnswer_23 : decode cX3_readWholeAsAnswer 23 = .ok (.getfield 21, 3) := by decide +kernel
theorem dX3_readWholeAsAnswer_26 : decode cX3_readWholeAsAnswer 26 = .ok (.invokevirtual 47, 3) := by decide +kernel
theorem dX3_readWholeAsAnswer_29 : decode cX3_readWholeAsAnswer 29 = .ok (.ifCond .eq 57, 3) := by decide +kernel
theorem dX3_readWholeAsAnswer_32 : decode cX3_readWholeAsAnswer 32 = .ok (.aload_n 0, 1) := by decide +kernel
theorem dX3_readWholeAsAnswer_33 : decode cX3_readWholeAsAnswer 33 = .ok (.bipush 43, 2) := by decide +kernel
theorem dX3_readWholeAsAnswer_35 : decode cX3_readWholeAsAnswer 35 = .ok (.invokevirtual 43, 3) := by decide +kernel
theorem dX3_readWholeAsAnswer_38 : decode cX3_readWholeAsAnswer 38 = .ok (.ifCond .eq 48, 3) := by decide +kernel
theorem dX3_readWholeAsAnswer_41 : decode cX3_readWholeAsAnswer 41 = .ok (.aload_n 0, 1) := by decide +kernel
theorem dX3_readWholeAsAnswer_42 : decode cX3_readWholeAsAnswer 42 = .ok (.aload_n 0, 1) := by decide +kernel
theorem dX3_readWholeAsAnswer_43 : decode cX3_readWholeAsAnswer 43 = .ok (.getfield 25, 3) := by decide +kernel
theorem dX3_readWholeAsAnswer_46 : decode cX3_readWholeAsAnswer 46 = .ok (.invokevirtual 47, 3) := by decide +kernel
theorem dX3_readWholeAsAnswer_49 : decode cX3_readWholeAsAnswer 49 = .ok (.ifCond .eq 37, 3) := by decide +kernel
theorem dX3_readWholeAsAnswer_52 : decode cX3_readWholeAsAnswer 52 = .ok (.aload_n 0, 1) := by decide +kernel
theorem dX3_readWholeAsAnswer_53 : decode cX3_readWholeAsAnswer 53 = .ok (.bipush 64, 2) := by decide +kernel
theorem dX3_readWholeAsAnswer_55 : decode cX3_readWholeAsAnswer 55 = .ok (.invokevirtual 43, 3) := by decide +kernel
theorem dX3_readWholeAsAnswer_58 : decode cX3_readWholeAsAnswer 58 = .ok (.ifCond .eq 28, 3) := by decide +kernel
theorem dX3_readWholeAsAnswer_61 : decode cX3_readWholeAsAnswer 61 = .ok (.aload_n 0, 1) := by decide +kernel
theorem dX3_readWholeAsAnswer_62 : decode cX3_readWholeAsAnswer 62 = .ok (.invokevirtual 51, 3) := by decide +kernel
theorem dX3_readWholeAsAnswer_65 : decode cX3_readWholeAsAnswer 65 = .ok (.ifCond .eq 21, 3) := by decide +kernel
theorem dX3_readWholeAsAnswer_68 : decode cX3_readWholeAsAnswer 68 = .ok (.aload_n 0, 1) := by decide +kernel
theorem dX3_readWholeAsAnswer_69 : decode cX3_readWholeAsAnswer 69 = .ok (.getfield 28, 3) := by decide +kernel
theorem dX3_readWholeAsAnswer_72 : decode cX3_readWholeAsAnswer 72 = .ok (.aload_n 0, 1) := by decide +kernel
theorem dX3_readWholeAsAnswer_73 : decode cX3_readWholeAsAnswer 73 = .ok (.getfield 12, 3) := by decide +kernel
theorem dX3_readWholeAsAnswer_76 : decode cX3_readWholeAsAnswer 76 = .ok (.getfield 36, 3) := by decide +kernel
theorem dX3_readWholeAsAnswer_79 : decode cX3_readWholeAsAnswer 79 = .ok (.if_icmp .ne 7, 3) := by decide +kernel
theorem dX3_readWholeAsAnswer_82 : decode cX3_readWholeAsAnswer 82 = .ok (.iconst 1, 1) := by decide +kernel
theorem dX3_readWholeAsAnswer_83 : decode cX3_readWholeAsAnswer 83 = .ok (.goto 4, 3) := by decide +kernel
theorem dX3_readWholeAsAnswer_86 : decode cX3_readWholeAsAnswer 86 = .ok (.iconst 0, 1) := by decide +kernel
theorem dX3_readWholeAsAnswer_87 : decode cX3_readWholeAsAnswer 87 = .ok (.istore_n 1, 1) := by decide +kernel
theorem dX3_readWholeAsAnswer_88 : decode cX3_readWholeAsAnswer 88 = .ok (.iload_n 1, 1) := by decide +kernel
theorem dX3_readWholeAsAnswer_89 : decode cX3_readWholeAsAnswer 89 = .ok (.ifCond .eq 8, 3) := by decide +kernel
theorem dX3_readWholeAsAnswer_92 : decode cX3_readWholeAsAnswer 92 = .ok (.bipush (-6), 2) := by decide +kernel
theorem dX3_readWholeAsAnswer_94 : decode cX3_readWholeAsAnswer 94 = .ok (.goto 7, 3) := by decide +kernel
theorem dX3_readWholeAsAnswer_97 : decode cX3_readWholeAsAnswer 97 = .ok (.aload_n 0, 1) := by decide +kernel
theorem dX3_readWholeAsAnswer_98 : decode cX3_readWholeAsAnswer 98 = .ok (.getfield 28, 3) := by decide +kernel
theorem dX3_readWholeAsAnswer_101 : decode cX3_readWholeAsAnswer 101 = .ok (.ireturn, 1) := by decide +kernel
theorem dX3_readSolver_0 : decode cX3_readSolver 0 = .ok (.aload_n 0, 1) := by decide +kernel
theorem dX3_readSolver_1 : decode cX3_readSolver 1 = .ok (.aload_n 0, 1) := by decide +kernel
theorem dX3_readSolver_2 : decode cX3_readSolver 2 = .ok (.iconst 0, 1) := by decide +kernel
theorem dX3_readSolver_3 : decode cX3_readSolver 3 = .ok (.iconst 5, 1) := by decide +kernel
theorem dX3_readSolver_4 : decode cX3_readSolver 4 = .ok (.invokevirtual 54, 3) := by decide +kernel
theorem dX3_readSolver_7 : decode cX3_readSolver 7 = .ok (.putfield 58, 3) := by decide +kernel
theorem dX3_readSolver_10 : decode cX3_readSolver 10 = .ok (.aload_n 0, 1) := by decide +kernel
theorem dX3_readSolver_11 : decode cX3_readSolver 11 = .ok (.getfield 58, 3) := by decide +kernel
theorem dX3_readSolver_14 : decode cX3_readSolver 14 = .ok (.ifCond .lt 7, 3) := by decide +kernel
theorem dX3_readSolver_17 : decode cX3_readSolver 17 = .ok (.iconst 1, 1) := by decide +kernel
theorem dX3_readSolver_18 : decode cX3_readSolver 18 = .ok (.goto 4, 3) := by decide +kernel
theorem dX3_readSolver_21 : decode cX3_readSolver 21 = .ok (.iconst 0, 1) := by decide +kernel
theorem dX3_readSolver_22 : decode cX3_readSolver 22 = .ok (.ireturn, 1) := by decide +kernel
theorem dX3_readPart_0 : decode cX3_readPart 0 = .ok (.aload_n 1, 1) := by decide +kernel
theorem dX3_readPart_1 : decode cX3_readPart 1 = .ok (.aload_n 0, 1) := by decide +kernel
theorem dX3_readPart_2 : decode cX3_readPart 2 = .ok (.invokevirtual 61, 3) := by decide +kernel
theorem dX3_readPart_5 : decode cX3_readPart 5 = .ok (.putfield 64, 3) := by decide +kernel
theorem dX3_readPart_8 : decode cX3_readPart 8 = .ok (.aload_n 1, 1) := by decide +kernel
theorem dX3_readPart_9 : decode cX3_readPart 9 = .ok (.getfield 64, 3) := by decide +kernel
theorem dX3_readPart_12 : decode cX3_readPart 12 = .ok (.ifCond .lt 12, 3) := by decide +kernel
theorem dX3_readPart_15 : decode cX3_readPart 15 = .ok (.aload_n 0, 1) := by decide +kernel
theorem dX3_readPart_16 : decode cX3_readPart 16 = .ok (.bipush 61, 2) := by decide +kernel
theorem dX3_readPart_18 : decode cX3_readPart 18 = .ok (.invokevirtual 43, 3) := by decide +kernel
theorem dX3_readPart_21 : decode cX3_readPart 21 = .ok (.ifCond .ne 5, 3) := by decide +kernel
theorem dX3_readPart_24 : decode cX3_readPart 24 = .ok (.iconst 0, 1) := by decide +kernel
theorem dX3_readPart_25 : decode cX3_readPart 25 = .ok (.ireturn, 1) := by decide +kernel
theorem dX3_readPart_26 : decode cX3_readPart 26 = .ok (.aload_n 1, 1) := by decide +kernel
theorem dX3_readPart_27 : decode cX3_readPart 27 = .ok (.aload_n 0, 1) := by decide +kernel
theorem dX3_readPart_28 : decode cX3_readPart 28 = .ok (.invokevirtual 32, 3) := by decide +kernel
theorem dX3_readPart_31 : decode cX3_readPart 31 = .ok (.putfield 67, 3) := by decide +kernel
theorem dX3_readPart_34 : decode cX3_readPart 34 = .ok (.aload_n 1, 1) := by decide +kernel
theorem dX3_readPart_35 : decode cX3_readPart 35 = .ok (.getfield 67, 3) := by decide +kernel
theorem dX3_readPart_38 : decode cX3_readPart 38 = .ok (.ifCond .eq 7, 3) := by decide +kernel
theorem dX3_readPart_41 : decode cX3_readPart 41 = .ok (.iconst 1, 1) := by decide +kernel
theorem dX3_readPart_42 : decode cX3_readPart 42 = .ok (.goto 4, 3) := by decide +kernel
theorem dX3_readPart_45 : decode cX3_readPart 45 = .ok (.iconst 0, 1) := by decide +kernel
theorem dX3_readPart_46 : decode cX3_readPart 46 = .ok (.ireturn, 1) := by decide +kernel
theorem dX3_readSeconds_0 : decode cX3_readSeconds 0 = .ok (.aload_n 0, 1) := by decide +kernel
theorem dX3_readSeconds_1 : decode cX3_readSeconds 1 = .ok (.aload_n 0, 1) := by decide +kernel
theorem dX3_readSeconds_2 : decode cX3_readSeconds 2 = .ok (.iconst 1, 1) := by decide +kernel
theorem dX3_readSeconds_3 : decode cX3_readSeconds 3 = .ok (.bipush 9, 2) := by decide +kernel
theorem dX3_readSeconds_5 : decode cX3_readSeconds 5 = .ok (.invokevirtual 54, 3) := by decide +kernel
theorem dX3_readSeconds_8 : decode cX3_readSeconds 8 = .ok (.putfield 70, 3) := by decide +kernel
theorem dX3_readSeconds_11 : decode cX3_readSeconds 11 = .ok (.aload_n 0, 1) := by decide +kernel
theorem dX3_readSeconds_12 : decode cX3_readSeconds 12 = .ok (.getfield 70, 3) := by decide +kernel
theorem dX3_readSeconds_15 : decode cX3_readSeconds 15 = .ok (.iconst 1, 1) := by decide +kernel
theorem dX3_readSeconds_16 : decode cX3_readSeconds 16 = .ok (.if_icmp .lt 50, 3) := by decide +kernel
theorem dX3_readSeconds_19 : decode cX3_readSeconds 19 = .ok (.aload_n 0, 1) := by decide +kernel
theorem dX3_readSeconds_20 : decode cX3_readSeconds 20 = .ok (.getfield 70, 3) := by decide +kernel
theorem dX3_readSeconds_23 : decode cX3_readSeconds 23 = .ok (.bipush 6, 2) := by decide +kernel
theorem dX3_readSeconds_25 : decode cX3_readSeconds 25 = .ok (.if_icmp .gt 41, 3) := by decide +kernel
theorem dX3_readSeconds_28 : decode cX3_readSeconds 28 = .ok (.aload_n 0, 1) := by decide +kernel
theorem dX3_readSeconds_29 : decode cX3_readSeconds 29 = .ok (.iconst 0, 1) := by decide +kernel
theorem dX3_readSeconds_30 : decode cX3_readSeconds 30 = .ok (.aload_n 0, 1) := by decide +kernel
theorem dX3_readSeconds_31 : decode cX3_readSeconds 31 = .ok (.getfield 70, 3) := by decide +kernel
theorem dX3_readSeconds_34 : decode cX3_readSeconds 34 = .ok (.bipush 6, 2) := by decide +kernel
theorem dX3_readSeconds_36 : decode cX3_readSeconds 36 = .ok (.if_icmp .ne 7, 3) := by decide +kernel
theorem dX3_readSeconds_39 : decode cX3_readSeconds 39 = .ok (.iconst 0, 1) := by decide +kernel
theorem dX3_readSeconds_40 : decode cX3_readSeconds 40 = .ok (.goto 5, 3) := by decide +kernel
theorem dX3_readSeconds_43 : decode cX3_readSeconds 43 = .ok (.bipush 9, 2) := by decide +kernel
theorem dX3_readSeconds_45 : decode cX3_readSeconds 45 = .ok (.invokevirtual 54, 3) := by decide +kernel
theorem dX3_readSeconds_48 : decode cX3_readSeconds 48 = .ok (.istore_n 1, 1) := by decide +kernel
theorem dX3_readSeconds_49 : decode cX3_readSeconds 49 = .ok (.iload_n 1, 1) := by decide +kernel
theorem dX3_readSeconds_50 : decode cX3_readSeconds 50 = .ok (.ifCond .lt 16, 3) := by decide +kernel
theorem dX3_readSeconds_53 : decode cX3_readSeconds 53 = .ok (.aload_n 0, 1) := by decide +kernel
theorem dX3_readSeconds_54 : decode cX3_readSeconds 54 = .ok (.bipush 10, 2) := by decide +kernel
theorem dX3_readSeconds_56 : decode cX3_readSeconds 56 = .ok (.aload_n 0, 1) := by decide +kernel
theorem dX3_readSeconds_57 : decode cX3_readSeconds 57 = .ok (.getfield 70, 3) := by decide +kernel
theorem dX3_readSeconds_60 : decode cX3_readSeconds 60 = .ok (.imul, 1) := by decide +kernel
theorem dX3_readSeconds_61 : decode cX3_readSeconds 61 = .ok (.iload_n 1, 1) := by decide +kernel
theorem dX3_readSeconds_62 : decode cX3_readSeconds 62 = .ok (.iadd, 1) := by decide +kernel
theorem dX3_readSeconds_63 : decode cX3_readSeconds 63 = .ok (.putfield 70, 3) := by decide +kernel
theorem dX3_readSeconds_66 : decode cX3_readSeconds 66 = .ok (.aload_n 0, 1) := by decide +kernel
theorem dX3_readSeconds_67 : decode cX3_readSeconds 67 = .ok (.getfield 70, 3) := by decide +kernel
theorem dX3_readSeconds_70 : decode cX3_readSeconds 70 = .ok (.ifCond .le 7, 3) := by decide +kernel
theorem dX3_readSeconds_73 : decode cX3_readSeconds 73 = .ok (.iconst 1, 1) := by decide +kernel
theorem dX3_readSeconds_74 : decode cX3_readSeconds 74 = .ok (.goto 4, 3) := by decide +kernel
theorem dX3_readSeconds_77 : decode cX3_readSeconds 77 = .ok (.iconst 0, 1) := by decide +kernel
theorem dX3_readSeconds_78 : decode cX3_readSeconds 78 = .ok (.ireturn, 1) := by decide +kernel
theorem dX3_readWordNumber_0 : decode cX3_readWordNumber 0 = .ok (.aload_n 0, 1) := by decide +kernel
theorem dX3_readWordNumber_1 : decode cX3_readWordNumber 1 = .ok (.iconst 0, 1) := by decide +kernel
theorem dX3_readWordNumber_2 : decode cX3_readWordNumber 2 = .ok (.bipush 9, 2) := by decide +kernel
theorem dX3_readWordNumber_4 : decode cX3_readWordNumber 4 = .ok (.invokevirtual 54, 3) := by decide +kernel
theorem dX3_readWordNumber_7 : decode cX3_readWordNumber 7 = .ok (.istore_n 1, 1) := by decide +kernel
theorem dX3_readWordNumber_8 : decode cX3_readWordNumber 8 = .ok (.iload_n 1, 1) := by decide +kernel
theorem dX3_readWordNumber_9 : decode cX3_readWordNumber 9 = .ok (.iconst 1, 1) := by decide +kernel
theorem dX3_readWordNumber_10 : decode cX3_readWordNumber 10 = .ok (.if_icmp .eq 5, 3) := by decide +kernel
theorem dX3_readWordNumber_13 : decode cX3_readWordNumber 13 = .ok (.iload_n 1, 1) := by decide +kernel
theorem dX3_readWordNumber_14 : decode cX3_readWordNumber 14 = .ok (.ireturn, 1) := by decide +kernel
theorem dX3_readWordNumber_15 : decode cX3_readWordNumber 15 = .ok (.aload_n 0, 1) := by decide +kernel
theorem dX3_readWordNumber_16 : decode cX3_readWordNumber 16 = .ok (.iconst 0, 1) := by decide +kernel
theorem dX3_readWordNumber_17 : decode cX3_readWordNumber 17 = .ok (.iconst 1, 1) := by decide +kernel
theorem dX3_readWordNumber_18 : decode cX3_readWordNumber 18 = .ok (.invokevirtual 54, 3) := by decide +kernel
theorem dX3_readWordNumber_21 : decode cX3_readWordNumber 21 = .ok (.istore_n 2, 1) := by decide +kernel
theorem dX3_readWordNumber_22 : decode cX3_readWordNumber 22 = .ok (.iload_n 2, 1) := by decide +kernel
theorem dX3_readWordNumber_23 : decode cX3_readWordNumber 23 = .ok (.ifCond .ge 7, 3) := by decide +kernel
theorem dX3_readWordNumber_26 : decode cX3_readWordNumber 26 = .ok (.iconst 1, 1) := by decide +kernel
theorem dX3_readWordNumber_27 : decode cX3_readWordNumber 27 = .ok (.goto 7, 3) := by decide +kernel
theorem dX3_readWordNumber_30 : decode cX3_readWordNumber 30 = .ok (.bipush 10, 2) := by decide +kernel
theorem dX3_readWordNumber_32 : decode cX3_readWordNumber 32 = .ok (.iload_n 2, 1) := by decide +kernel
theorem dX3_readWordNumber_33 : decode cX3_readWordNumber 33 = .ok (.iadd, 1) := by decide +kernel
theorem dX3_readWordNumber_34 : decode cX3_readWordNumber 34 = .ok (.ireturn, 1) := by decide +kernel
theorem dX3_readSign_0 : decode cX3_readSign 0 = .ok (.aload_n 0, 1) := by decide +kernel
theorem dX3_readSign_1 : decode cX3_readSign 1 = .ok (.getfield 28, 3) := by decide +kernel
theorem dX3_readSign_4 : decode cX3_readSign 4 = .ok (.aload_n 0, 1) := by decide +kernel
theorem dX3_readSign_5 : decode cX3_readSign 5 = .ok (.getfield 12, 3) := by decide +kernel
theorem dX3_readSign_8 : decode cX3_readSign 8 = .ok (.getfield 36, 3) := by decide +kernel
theorem dX3_readSign_11 : decode cX3_readSign 11 = .ok (.if_icmp .ge 19, 3) := by decide +kernel
theorem dX3_readSign_14 : decode cX3_readSign 14 = .ok (.aload_n 0, 1) := by decide +kernel
theorem dX3_readSign_15 : decode cX3_readSign 15 = .ok (.getfield 12, 3) := by decide +kernel
theorem dX3_readSign_18 : decode cX3_readSign 18 = .ok (.getfield 73, 3) := by decide +kernel
theorem dX3_readSign_21 : decode cX3_readSign 21 = .ok (.aload_n 0, 1) := by decide +kernel
theorem dX3_readSign_22 : decode cX3_readSign 22 = .ok (.getfield 28, 3) := by decide +kernel
theorem dX3_readSign_25 : decode cX3_readSign 25 = .ok (.caload, 1) := by decide +kernel
theorem dX3_readSign_26 : decode cX3_readSign 26 = .ok (.iload_n 1, 1) := by decide +kernel
theorem dX3_readSign_27 : decode cX3_readSign 27 = .ok (.if_icmp .eq 5, 3) := by decide +kernel
theorem dX3_readSign_30 : decode cX3_readSign 30 = .ok (.iconst 0, 1) := by decide +kernel
theorem dX3_readSign_31 : decode cX3_readSign 31 = .ok (.ireturn, 1) := by decide +kernel
theorem dX3_readSign_32 : decode cX3_readSign 32 = .ok (.aload_n 0, 1) := by decide +kernel
theorem dX3_readSign_33 : decode cX3_readSign 33 = .ok (.dup, 1) := by decide +kernel
theorem dX3_readSign_34 : decode cX3_readSign 34 = .ok (.getfield 28, 3) := by decide +kernel
theorem dX3_readSign_37 : decode cX3_readSign 37 = .ok (.iconst 1, 1) := by decide +kernel
theorem dX3_readSign_38 : decode cX3_readSign 38 = .ok (.iadd, 1) := by decide +kernel
theorem dX3_readSign_39 : decode cX3_readSign 39 = .ok (.putfield 28, 3) := by decide +kernel
theorem dX3_readSign_42 : decode cX3_readSign 42 = .ok (.iconst 1, 1) := by decide +kernel
theorem dX3_readSign_43 : decode cX3_readSign 43 = .ok (.ireturn, 1) := by decide +kernel
theorem dX3_readDigit_0 : decode cX3_readDigit 0 = .ok (.aload_n 0, 1) := by decide +kernel
theorem dX3_readDigit_1 : decode cX3_readDigit 1 = .ok (.getfield 28, 3) := by decide +kernel
theorem dX3_readDigit_4 : decode cX3_readDigit 4 = .ok (.aload_n 0, 1) := by decide +kernel
theorem dX3_readDigit_5 : decode cX3_readDigit 5 = .ok (.getfield 12, 3) := by decide +kernel
theorem dX3_readDigit_8 : decode cX3_readDigit 8 = .ok (.getfield 36, 3) := by decide +kernel
theorem dX3_readDigit_11 : decode cX3_readDigit 11 = .ok (.if_icmp .lt 5, 3) := by decide +kernel
theorem dX3_readDigit_14 : decode cX3_readDigit 14 = .ok (.iconst (-1), 1) := by decide +kernel
theorem dX3_readDigit_15 : decode cX3_readDigit 15 = .ok (.ireturn, 1) := by decide +kernel
theorem dX3_readDigit_16 : decode cX3_readDigit 16 = .ok (.aload_n 0, 1) := by decide +kernel
theorem dX3_readDigit_17 : decode cX3_readDigit 17 = .ok (.getfield 12, 3) := by decide +kernel
theorem dX3_readDigit_20 : decode cX3_readDigit 20 = .ok (.getfield 73, 3) := by decide +kernel
theorem dX3_readDigit_23 : decode cX3_readDigit 23 = .ok (.aload_n 0, 1) := by decide +kernel
theorem dX3_readDigit_24 : decode cX3_readDigit 24 = .ok (.getfield 28, 3) := by decide +kernel
theorem dX3_readDigit_27 : decode cX3_readDigit 27 = .ok (.caload, 1) := by decide +kernel
theorem dX3_readDigit_28 : decode cX3_readDigit 28 = .ok (.bipush 48, 2) := by decide +kernel
theorem dX3_readDigit_30 : decode cX3_readDigit 30 = .ok (.isub, 1) := by decide +kernel
theorem dX3_readDigit_31 : decode cX3_readDigit 31 = .ok (.istore_n 3, 1) := by decide +kernel
theorem dX3_readDigit_32 : decode cX3_readDigit 32 = .ok (.iload_n 3, 1) := by decide +kernel
theorem dX3_readDigit_33 : decode cX3_readDigit 33 = .ok (.iload_n 1, 1) := by decide +kernel
theorem dX3_readDigit_34 : decode cX3_readDigit 34 = .ok (.iload_n 2, 1) := by decide +kernel
theorem dX3_readDigit_35 : decode cX3_readDigit 35 = .ok (.invokestatic 77, 3) := by decide +kernel
theorem dX3_readDigit_38 : decode cX3_readDigit 38 = .ok (.ifCond .ne 5, 3) := by decide +kernel
theorem dX3_readDigit_41 : decode cX3_readDigit 41 = .ok (.iconst (-1), 1) := by decide +kernel
theorem dX3_readDigit_42 : decode cX3_readDigit 42 = .ok (.ireturn, 1) := by decide +kernel
theorem dX3_readDigit_43 : decode cX3_readDigit 43 = .ok (.aload_n 0, 1) := by decide +kernel
theorem dX3_readDigit_44 : decode cX3_readDigit 44 = .ok (.dup, 1) := by decide +kernel
theorem dX3_readDigit_45 : decode cX3_readDigit 45 = .ok (.getfield 28, 3) := by decide +kernel
theorem dX3_readDigit_48 : decode cX3_readDigit 48 = .ok (.iconst 1, 1) := by decide +kernel
theorem dX3_readDigit_49 : decode cX3_readDigit 49 = .ok (.iadd, 1) := by decide +kernel
theorem dX3_readDigit_50 : decode cX3_readDigit 50 = .ok (.putfield 28, 3) := by decide +kernel
theorem dX3_readDigit_53 : decode cX3_readDigit 53 = .ok (.iload_n 3, 1) := by decide +kernel
theorem dX3_readDigit_54 : decode cX3_readDigit 54 = .ok (.ireturn, 1) := by decide +kernel
theorem dX3_readLetters_0 : decode cX3_readLetters 0 = .ok (.iconst 0, 1) := by decide +kernel
theorem dX3_readLetters_1 : decode cX3_readLetters 1 = .ok (.istore_n 1, 1) := by decide +kernel
theorem dX3_readLetters_2 : decode cX3_readLetters 2 = .ok (.iconst 0, 1) := by decide +kernel
theorem dX3_readLetters_3 : decode cX3_readLetters 3 = .ok (.istore_n 2, 1) := by decide +kernel
theorem dX3_readLetters_4 : decode cX3_readLetters 4 = .ok (.iload_n 2, 1) := by decide +kernel
theorem dX3_readLetters_5 : decode cX3_readLetters 5 = .ok (.bipush 6, 2) := by decide +kernel
theorem dX3_readLetters_7 : decode cX3_readLetters 7 = .ok (.if_icmp .ge 69, 3) := by decide +kernel
theorem dX3_readLetters_10 : decode cX3_readLetters 10 = .ok (.aload_n 0, 1) := by decide +kernel
theorem dX3_readLetters_11 : decode cX3_readLetters 11 = .ok (.getfield 28, 3) := by decide +kernel
theorem dX3_readLetters_14 : decode cX3_readLetters 14 = .ok (.aload_n 0, 1) := by decide +kernel
theorem dX3_readLetters_15 : decode cX3_readLetters 15 = .ok (.getfield 12, 3) := by decide +kernel
theorem dX3_readLetters_18 : decode cX3_readLetters 18 = .ok (.getfield 36, 3) := by decide +kernel
theorem dX3_readLetters_21 : decode cX3_readLetters 21 = .ok (.if_icmp .ge 55, 3) := by decide +kernel
theorem dX3_readLetters_24 : decode cX3_readLetters 24 = .ok (.aload_n 0, 1) := by decide +kernel
theorem dX3_readLetters_25 : decode cX3_readLetters 25 = .ok (.getfield 12, 3) := by decide +kernel
theorem dX3_readLetters_28 : decode cX3_readLetters 28 = .ok (.getfield 73, 3) := by decide +kernel
theorem dX3_readLetters_31 : decode cX3_readLetters 31 = .ok (.aload_n 0, 1) := by decide +kernel
theorem dX3_readLetters_32 : decode cX3_readLetters 32 = .ok (.getfield 28, 3) := by decide +kernel
theorem dX3_readLetters_35 : decode cX3_readLetters 35 = .ok (.caload, 1) := by decide +kernel
theorem dX3_readLetters_36 : decode cX3_readLetters 36 = .ok (.istore_n 3, 1) := by decide +kernel
theorem dX3_readLetters_37 : decode cX3_readLetters 37 = .ok (.iload_n 3, 1) := by decide +kernel
theorem dX3_readLetters_38 : decode cX3_readLetters 38 = .ok (.bipush 97, 2) := by decide +kernel
theorem dX3_readLetters_40 : decode cX3_readLetters 40 = .ok (.if_icmp .lt 9, 3) := by decide +kernel
theorem dX3_readLetters_43 : decode cX3_readLetters 43 = .ok (.iload_n 3, 1) := by decide +kernel
theorem dX3_readLetters_44 : decode cX3_readLetters 44 = .ok (.bipush 122, 2) := by decide +kernel
theorem dX3_readLetters_46 : decode cX3_readLetters 46 = .ok (.if_icmp .le 5, 3) := by decide +kernel
theorem dX3_readLetters_49 : decode cX3_readLetters 49 = .ok (.iload_n 1, 1) := by decide +kernel
theorem dX3_readLetters_50 : decode cX3_readLetters 50 = .ok (.ireturn, 1) := by decide +kernel
theorem dX3_readLetters_51 : decode cX3_readLetters 51 = .ok (.iload_n 1, 1) := by decide +kernel
theorem dX3_readLetters_52 : decode cX3_readLetters 52 = .ok (.iconst 5, 1) := by decide +kernel
theorem dX3_readLetters_53 : decode cX3_readLetters 53 = .ok (.ishl, 1) := by decide +kernel
theorem dX3_readLetters_54 : decode cX3_readLetters 54 = .ok (.iload_n 3, 1) := by decide +kernel
theorem dX3_readLetters_55 : decode cX3_readLetters 55 = .ok (.bipush 96, 2) := by decide +kernel
theorem dX3_readLetters_57 : decode cX3_readLetters 57 = .ok (.isub, 1) := by decide +kernel
theorem dX3_readLetters_58 : decode cX3_readLetters 58 = .ok (.ior, 1) := by decide +kernel
theorem dX3_readLetters_59 : decode cX3_readLetters 59 = .ok (.istore_n 1, 1) := by decide +kernel
theorem dX3_readLetters_60 : decode cX3_readLetters 60 = .ok (.aload_n 0, 1) := by decide +kernel
theorem dX3_readLetters_61 : decode cX3_readLetters 61 = .ok (.dup, 1) := by decide +kernel
theorem dX3_readLetters_62 : decode cX3_readLetters 62 = .ok (.getfield 28, 3) := by decide +kernel
theorem dX3_readLetters_65 : decode cX3_readLetters 65 = .ok (.iconst 1, 1) := by decide +kernel
theorem dX3_readLetters_66 : decode cX3_readLetters 66 = .ok (.iadd, 1) := by decide +kernel
theorem dX3_readLetters_67 : decode cX3_readLetters 67 = .ok (.putfield 28, 3) := by decide +kernel
theorem dX3_readLetters_70 : decode cX3_readLetters 70 = .ok (.iinc 2 1, 3) := by decide +kernel
theorem dX3_readLetters_73 : decode cX3_readLetters 73 = .ok (.goto (-69), 3) := by decide +kernel
theorem dX3_readLetters_76 : decode cX3_readLetters 76 = .ok (.iload_n 1, 1) := by decide +kernel
theorem dX3_readLetters_77 : decode cX3_readLetters 77 = .ok (.ireturn, 1) := by decide +kernel
theorem dX4_init_0 : decode cX4_init 0 = .ok (.aload_n 0, 1) := by decide +kernel
theorem dX4_init_1 : decode cX4_init 1 = .ok (.invokespecial 3, 3) := by decide +kernel
theorem dX4_init_4 : decode cX4_init 4 = .ok (.aload_n 0, 1) := by decide +kernel
theorem dX4_init_5 : decode cX4_init 5 = .ok (.bipush 50, 2) := by decide +kernel
theorem dX4_init_7 : decode cX4_init 7 = .ok (.putfield 9, 3) := by decide +kernel
theorem dX4_init_10 : decode cX4_init 10 = .ok (.return_, 1) := by decide +kernel
theorem dX4_copyFrom_0 : decode cX4_copyFrom 0 = .ok (.aload_n 0, 1) := by decide +kernel
theorem dX4_copyFrom_1 : decode cX4_copyFrom 1 = .ok (.aload_n 1, 1) := by decide +kernel
theorem dX4_copyFrom_2 : decode cX4_copyFrom 2 = .ok (.getfield 9, 3) := by decide +kernel
theorem dX4_copyFrom_5 : decode cX4_copyFrom 5 = .ok (.putfield 9, 3) := by decide +kernel
theorem dX4_copyFrom_8 : decode cX4_copyFrom 8 = .ok (.aload_n 0, 1) := by decide +kernel
theorem dX4_copyFrom_9 : decode cX4_copyFrom 9 = .ok (.aload_n 1, 1) := by decide +kernel
theorem dX4_copyFrom_10 : decode cX4_copyFrom 10 = .ok (.getfield 15, 3) := by decide +kernel
theorem dX4_copyFrom_13 : decode cX4_copyFrom 13 = .ok (.putfield 15, 3) := by decide +kernel
theorem dX4_copyFrom_16 : decode cX4_copyFrom 16 = .ok (.aload_n 0, 1) := by decide +kernel
theorem dX4_copyFrom_17 : decode cX4_copyFrom 17 = .ok (.aload_n 1, 1) := by decide +kernel
theorem dX4_copyFrom_18 : decode cX4_copyFrom 18 = .ok (.getfield 18, 3) := by decide +kernel
theorem dX4_copyFrom_21 : decode cX4_copyFrom 21 = .ok (.putfield 18, 3) := by decide +kernel
theorem dX4_copyFrom_24 : decode cX4_copyFrom 24 = .ok (.aload_n 0, 1) := by decide +kernel
theorem dX4_copyFrom_25 : decode cX4_copyFrom 25 = .ok (.aload_n 1, 1) := by decide +kernel
theorem dX4_copyFrom_26 : decode cX4_copyFrom 26 = .ok (.getfield 21, 3) := by decide +kernel
theorem dX4_copyFrom_29 : decode cX4_copyFrom 29 = .ok (.putfield 21, 3) := by decide +kernel
theorem dX4_copyFrom_32 : decode cX4_copyFrom 32 = .ok (.return_, 1) := by decide +kernel
theorem dX5_init_0 : decode cX5_init 0 = .ok (.aload_n 0, 1) := by decide +kernel
theorem dX5_init_1 : decode cX5_init 1 = .ok (.invokespecial 3, 3) := by decide +kernel
theorem dX5_init_4 : decode cX5_init 4 = .ok (.aload_n 0, 1) := by decide +kernel
theorem dX5_init_5 : decode cX5_init 5 = .ok (.getstatic 9, 3) := by decide +kernel
theorem dX5_init_8 : decode cX5_init 8 = .ok (.invokevirtual 13, 3) := by decide +kernel
theorem dX5_init_11 : decode cX5_init 11 = .ok (.checkcast 14, 3) := by decide +kernel
theorem dX5_init_14 : decode cX5_init 14 = .ok (.putfield 18, 3) := by decide +kernel
theorem dX5_init_17 : decode cX5_init 17 = .ok (.aload_n 0, 1) := by decide +kernel
theorem dX5_init_18 : decode cX5_init 18 = .ok (.bipush 6, 2) := by decide +kernel
theorem dX5_init_20 : decode cX5_init 20 = .ok (.anewarray 23, 3) := by decide +kernel
theorem dX5_init_23 : decode cX5_init 23 = .ok (.putfield 25, 3) := by decide +kernel
theorem dX5_init_26 : decode cX5_init 26 = .ok (.aload_n 0, 1) := by decide +kernel
theorem dX5_init_27 : decode cX5_init 27 = .ok (.bipush 12, 2) := by decide +kernel
theorem dX5_init_29 : decode cX5_init 29 = .ok (.anewarray 29, 3) := by decide +kernel
theorem dX5_init_32 : decode cX5_init 32 = .ok (.putfield 31, 3) := by decide +kernel
theorem dX5_init_35 : decode cX5_init 35 = .ok (.aload_n 0, 1) := by decide +kernel
theorem dX5_init_36 : decode cX5_init 36 = .ok (.new 35, 3) := by decide +kernel
theorem dX5_init_39 : decode cX5_init 39 = .ok (.dup, 1) := by decide +kernel
theorem dX5_init_40 : decode cX5_init 40 = .ok (.invokespecial 37, 3) := by decide +kernel
theorem dX5_init_43 : decode cX5_init 43 = .ok (.putfield 38, 3) := by decide +kernel
theorem dX5_init_46 : decode cX5_init 46 = .ok (.iconst 0, 1) := by decide +kernel
theorem dX5_init_47 : decode cX5_init 47 = .ok (.istore_n 1, 1) := by decide +kernel
theorem dX5_init_48 : decode cX5_init 48 = .ok (.iload_n 1, 1) := by decide +kernel
theorem dX5_init_49 : decode cX5_init 49 = .ok (.bipush 6, 2) := by decide +kernel
theorem dX5_init_51 : decode cX5_init 51 = .ok (.if_icmp .ge 22, 3) := by decide +kernel
theorem dX5_init_54 : decode cX5_init 54 = .ok (.aload_n 0, 1) := by decide +kernel
theorem dX5_init_55 : decode cX5_init 55 = .ok (.getfield 25, 3) := by decide +kernel
theorem dX5_init_58 : decode cX5_init 58 = .ok (.iload_n 1, 1) := by decide +kernel
theorem dX5_init_59 : decode cX5_init 59 = .ok (.new 23, 3) := by decide +kernel
theorem dX5_init_62 : decode cX5_init 62 = .ok (.dup, 1) := by decide +kernel
theorem dX5_init_63 : decode cX5_init 63 = .ok (.invokespecial 42, 3) := by decide +kernel
theorem dX5_init_66 : decode cX5_init 66 = .ok (.aastore, 1) := by decide +kernel
theorem dX5_init_67 : decode cX5_init 67 = .ok (.iinc 1 1, 3) := by decide +kernel
theorem dX5_init_70 : decode cX5_init 70 = .ok (.goto (-22), 3) := by decide +kernel
theorem dX5_init_73 : decode cX5_init 73 = .ok (.iconst 0, 1) := by decide +kernel
theorem dX5_init_74 : decode cX5_init 74 = .ok (.istore_n 1, 1) := by decide +kernel
theorem dX5_init_75 : decode cX5_init 75 = .ok (.iload_n 1, 1) := by decide +kernel
theorem dX5_init_76 : decode cX5_init 76 = .ok (.bipush 12, 2) := by decide +kernel
theorem dX5_init_78 : decode cX5_init 78 = .ok (.if_icmp .ge 22, 3) := by decide +kernel
theorem dX5_init_81 : decode cX5_init 81 = .ok (.aload_n 0, 1) := by decide +kernel
theorem dX5_init_82 : decode cX5_init 82 = .ok (.getfield 31, 3) := by decide +kernel
theorem dX5_init_85 : decode cX5_init 85 = .ok (.iload_n 1, 1) := by decide +kernel
theorem dX5_init_86 : decode cX5_init 86 = .ok (.new 29, 3) := by decide +kernel
theorem dX5_init_89 : decode cX5_init 89 = .ok (.dup, 1) := by decide +kernel
theorem dX5_init_90 : decode cX5_init 90 = .ok (.invokespecial 43, 3) := by decide +kernel
theorem dX5_init_93 : decode cX5_init 93 = .ok (.aastore, 1) := by decide +kernel
theorem dX5_init_94 : decode cX5_init 94 = .ok (.iinc 1 1, 3) := by decide +kernel
theorem dX5_init_97 : decode cX5_init 97 = .ok (.goto (-22), 3) := by decide +kernel
theorem dX5_init_100 : decode cX5_init 100 = .ok (.return_, 1) := by decide +kernel
theorem dX5_copyFrom_0 : decode cX5_copyFrom 0 = .ok (.aload_n 1, 1) := by decide +kernel
theorem dX5_copyFrom_1 : decode cX5_copyFrom 1 = .ok (.getfield 18, 3) := by decide +kernel
theorem dX5_copyFrom_4 : decode cX5_copyFrom 4 = .ok (.iconst 0, 1) := by decide +kernel
theorem dX5_copyFrom_5 : decode cX5_copyFrom 5 = .ok (.aload_n 0, 1) := by decide +kernel
theorem dX5_copyFrom_6 : decode cX5_copyFrom 6 = .ok (.getfield 18, 3) := by decide +kernel
theorem dX5_copyFrom_9 : decode cX5_copyFrom 9 = .ok (.iconst 0, 1) := by decide +kernel
theorem dX5_copyFrom_10 : decode cX5_copyFrom 10 = .ok (.bipush 6, 2) := by decide +kernel
theorem dX5_copyFrom_12 : decode cX5_copyFrom 12 = .ok (.invokestatic 44, 3) := by decide +kernel
theorem dX5_copyFrom_15 : decode cX5_copyFrom 15 = .ok (.iconst 0, 1) := by decide +kernel
theorem dX5_copyFrom_16 : decode cX5_copyFrom 16 = .ok (.istore_n 2, 1) := by decide +kernel
theorem dX5_copyFrom_17 : decode cX5_copyFrom 17 = .ok (.iload_n 2, 1) := by decide +kernel
theorem dX5_copyFrom_18 : decode cX5_copyFrom 18 = .ok (.bipush 6, 2) := by decide +kernel
theorem dX5_copyFrom_20 : decode cX5_copyFrom 20 = .ok (.if_icmp .ge 24, 3) := by decide +kernel
theorem dX5_copyFrom_23 : decode cX5_copyFrom 23 = .ok (.aload_n 0, 1) := by decide +kernel
theorem dX5_copyFrom_24 : decode cX5_copyFrom 24 = .ok (.getfield 25, 3) := by decide +kernel
theorem dX5_copyFrom_27 : decode cX5_copyFrom 27 = .ok (.iload_n 2, 1) := by decide +kernel
theorem dX5_copyFrom_28 : decode cX5_copyFrom 28 = .ok (.aaload, 1) := by decide +kernel
theorem dX5_copyFrom_29 : decode cX5_copyFrom 29 = .ok (.aload_n 1, 1) := by decide +kernel
theorem dX5_copyFrom_30 : decode cX5_copyFrom 30 = .ok (.getfield 25, 3) := by decide +kernel
theorem dX5_copyFrom_33 : decode cX5_copyFrom 33 = .ok (.iload_n 2, 1) := by decide +kernel
theorem dX5_copyFrom_34 : decode cX5_copyFrom 34 = .ok (.aaload, 1) := by decide +kernel
theorem dX5_copyFrom_35 : decode cX5_copyFrom 35 = .ok (.invokevirtual 50, 3) := by decide +kernel
theorem dX5_copyFrom_38 : decode cX5_copyFrom 38 = .ok (.iinc 2 1, 3) := by decide +kernel
theorem dX5_copyFrom_41 : decode cX5_copyFrom 41 = .ok (.goto (-24), 3) := by decide +kernel
theorem dX5_copyFrom_44 : decode cX5_copyFrom 44 = .ok (.aload_n 0, 1) := by decide +kernel
theorem dX5_copyFrom_45 : decode cX5_copyFrom 45 = .ok (.aload_n 1, 1) := by decide +kernel
theorem dX5_copyFrom_46 : decode cX5_copyFrom 46 = .ok (.getfield 54, 3) := by decide +kernel
theorem dX5_copyFrom_49 : decode cX5_copyFrom 49 = .ok (.putfield 54, 3) := by decide +kernel
theorem dX5_copyFrom_52 : decode cX5_copyFrom 52 = .ok (.iconst 0, 1) := by decide +kernel
theorem dX5_copyFrom_53 : decode cX5_copyFrom 53 = .ok (.istore_n 2, 1) := by decide +kernel
theorem dX5_copyFrom_54 : decode cX5_copyFrom 54 = .ok (.iload_n 2, 1) := by decide +kernel
theorem dX5_copyFrom_55 : decode cX5_copyFrom 55 = .ok (.aload_n 0, 1) := by decide +kernel
theorem dX5_copyFrom_56 : decode cX5_copyFrom 56 = .ok (.getfield 54, 3) := by decide +kernel
theorem dX5_copyFrom_59 : decode cX5_copyFrom 59 = .ok (.if_icmp .ge 24, 3) := by decide +kernel
theorem dX5_copyFrom_62 : decode cX5_copyFrom 62 = .ok (.aload_n 0, 1) := by decide +kernel
theorem dX5_copyFrom_63 : decode cX5_copyFrom 63 = .ok (.getfield 31, 3) := by decide +kernel
theorem dX5_copyFrom_66 : decode cX5_copyFrom 66 = .ok (.iload_n 2, 1) := by decide +kernel
theorem dX5_copyFrom_67 : decode cX5_copyFrom 67 = .ok (.aaload, 1) := by decide +kernel
theorem dX5_copyFrom_68 : decode cX5_copyFrom 68 = .ok (.aload_n 1, 1) := by decide +kernel
theorem dX5_copyFrom_69 : decode cX5_copyFrom 69 = .ok (.getfield 31, 3) := by decide +kernel
theorem dX5_copyFrom_72 : decode cX5_copyFrom 72 = .ok (.iload_n 2, 1) := by decide +kernel
theorem dX5_copyFrom_73 : decode cX5_copyFrom 73 = .ok (.aaload, 1) := by decide +kernel
theorem dX5_copyFrom_74 : decode cX5_copyFrom 74 = .ok (.invokevirtual 58, 3) := by decide +kernel
theorem dX5_copyFrom_77 : decode cX5_copyFrom 77 = .ok (.iinc 2 1, 3) := by decide +kernel
theorem dX5_copyFrom_80 : decode cX5_copyFrom 80 = .ok (.goto (-26), 3) := by decide +kernel
theorem dX5_copyFrom_83 : decode cX5_copyFrom 83 = .ok (.aload_n 0, 1) := by decide +kernel
theorem dX5_copyFrom_84 : decode cX5_copyFrom 84 = .ok (.getfield 38, 3) := by decide +kernel
theorem dX5_copyFrom_87 : decode cX5_copyFrom 87 = .ok (.aload_n 1, 1) := by decide +kernel
theorem dX5_copyFrom_88 : decode cX5_copyFrom 88 = .ok (.getfield 38, 3) := by decide +kernel
theorem dX5_copyFrom_91 : decode cX5_copyFrom 91 = .ok (.invokevirtual 61, 3) := by decide +kernel
theorem dX5_copyFrom_94 : decode cX5_copyFrom 94 = .ok (.aload_n 0, 1) := by decide +kernel
theorem dX5_copyFrom_95 : decode cX5_copyFrom 95 = .ok (.aload_n 1, 1) := by decide +kernel
theorem dX5_copyFrom_96 : decode cX5_copyFrom 96 = .ok (.getfield 64, 3) := by decide +kernel
theorem dX5_copyFrom_99 : decode cX5_copyFrom 99 = .ok (.putfield 64, 3) := by decide +kernel
theorem dX5_copyFrom_102 : decode cX5_copyFrom 102 = .ok (.aload_n 0, 1) := by decide +kernel
theorem dX5_copyFrom_103 : decode cX5_copyFrom 103 = .ok (.aload_n 1, 1) := by decide +kernel
theorem dX5_copyFrom_104 : decode cX5_copyFrom 104 = .ok (.getfield 67, 3) := by decide +kernel
theorem dX5_copyFrom_107 : decode cX5_copyFrom 107 = .ok (.putfield 67, 3) := by decide +kernel
theorem dX5_copyFrom_110 : decode cX5_copyFrom 110 = .ok (.return_, 1) := by decide +kernel
theorem dX5_hasWord_0 : decode cX5_hasWord 0 = .ok (.iload_n 1, 1) := by decide +kernel
theorem dX5_hasWord_1 : decode cX5_hasWord 1 = .ok (.ifCond .lt 15, 3) := by decide +kernel
theorem dX5_hasWord_4 : decode cX5_hasWord 4 = .ok (.iload_n 1, 1) := by decide +kernel
theorem dX5_hasWord_5 : decode cX5_hasWord 5 = .ok (.aload_n 0, 1) := by decide +kernel
theorem dX5_hasWord_6 : decode cX5_hasWord 6 = .ok (.getfield 54, 3) := by decide +kernel
theorem dX5_hasWord_9 : decode cX5_hasWord 9 = .ok (.if_icmp .ge 7, 3) := by decide +kernel
theorem dX5_hasWord_12 : decode cX5_hasWord 12 = .ok (.iconst 1, 1) := by decide +kernel
theorem dX5_hasWord_13 : decode cX5_hasWord 13 = .ok (.goto 4, 3) := by decide +kernel
theorem dX5_hasWord_16 : decode cX5_hasWord 16 = .ok (.iconst 0, 1) := by decide +kernel
theorem dX5_hasWord_17 : decode cX5_hasWord 17 = .ok (.ireturn, 1) := by decide +kernel
theorem dX5_hasRoom_0 : decode cX5_hasRoom 0 = .ok (.aload_n 0, 1) := by decide +kernel
theorem dX5_hasRoom_1 : decode cX5_hasRoom 1 = .ok (.getfield 54, 3) := by decide +kernel
theorem dX5_hasRoom_4 : decode cX5_hasRoom 4 = .ok (.bipush 12, 2) := by decide +kernel
theorem dX5_hasRoom_6 : decode cX5_hasRoom 6 = .ok (.if_icmp .ge 7, 3) := by decide +kernel
theorem dX5_hasRoom_9 : decode cX5_hasRoom 9 = .ok (.iconst 1, 1) := by decide +kernel
theorem dX5_hasRoom_10 : decode cX5_hasRoom 10 = .ok (.goto 4, 3) := by decide +kernel
theorem dX5_hasRoom_13 : decode cX5_hasRoom 13 = .ok (.iconst 0, 1) := by decide +kernel
theorem dX5_hasRoom_14 : decode cX5_hasRoom 14 = .ok (.ireturn, 1) := by decide +kernel
theorem dX5_append_0 : decode cX5_append 0 = .ok (.aload_n 0, 1) := by decide +kernel
theorem dX5_append_1 : decode cX5_append 1 = .ok (.invokevirtual 70, 3) := by decide +kernel
theorem dX5_append_4 : decode cX5_append 4 = .ok (.ifCond .ne 6, 3) := by decide +kernel
theorem dX5_append_7 : decode cX5_append 7 = .ok (.bipush (-4), 2) := by decide +kernel
theorem dX5_append_9 : decode cX5_append 9 = .ok (.ireturn, 1) := by decide +kernel
theorem dX5_append_10 : decode cX5_append 10 = .ok (.aload_n 0, 1) := by decide +kernel
theorem dX5_append_11 : decode cX5_append 11 = .ok (.getfield 54, 3) := by decide +kernel
theorem dX5_append_14 : decode cX5_append 14 = .ok (.istore 4, 2) := by decide +kernel
theorem dX5_append_16 : decode cX5_append 16 = .ok (.aload_n 0, 1) := by decide +kernel
theorem dX5_append_17 : decode cX5_append 17 = .ok (.dup, 1) := by decide +kernel
theorem dX5_append_18 : decode cX5_append 18 = .ok (.getfield 54, 3) := by decide +kernel
theorem dX5_append_21 : decode cX5_append 21 = .ok (.iconst 1, 1) := by decide +kernel
theorem dX5_append_22 : decode cX5_append 22 = .ok (.iadd, 1) := by decide +kernel
theorem dX5_append_23 : decode cX5_append 23 = .ok (.putfield 54, 3) := by decide +kernel
theorem dX5_append_26 : decode cX5_append 26 = .ok (.aload_n 0, 1) := by decide +kernel
theorem dX5_append_27 : decode cX5_append 27 = .ok (.getfield 31, 3) := by decide +kernel
theorem dX5_append_30 : decode cX5_append 30 = .ok (.iload 4, 2) := by decide +kernel
theorem dX5_append_32 : decode cX5_append 32 = .ok (.aaload, 1) := by decide +kernel
theorem dX5_append_33 : decode cX5_append 33 = .ok (.iload_n 1, 1) := by decide +kernel
theorem dX5_append_34 : decode cX5_append 34 = .ok (.iload_n 2, 1) := by decide +kernel
theorem dX5_append_35 : decode cX5_append 35 = .ok (.iload_n 3, 1) := by decide +kernel
theorem dX5_append_36 : decode cX5_append 36 = .ok (.invokevirtual 74, 3) := by decide +kernel
theorem dX5_append_39 : decode cX5_append 39 = .ok (.iload 4, 2) := by decide +kernel
theorem dX5_append_41 : decode cX5_append 41 = .ok (.ireturn, 1) := by decide +kernel
theorem dX5_remove_0 : decode cX5_remove 0 = .ok (.aload_n 0, 1) := by decide +kernel
theorem dX5_remove_1 : decode cX5_remove 1 = .ok (.getfield 31, 3) := by decide +kernel
theorem dX5_remove_4 : decode cX5_remove 4 = .ok (.iload_n 1, 1) := by decide +kernel
theorem dX5_remove_5 : decode cX5_remove 5 = .ok (.aaload, 1) := by decide +kernel
theorem dX5_remove_6 : decode cX5_remove 6 = .ok (.astore_n 2, 1) := by decide +kernel
theorem dX5_remove_7 : decode cX5_remove 7 = .ok (.iload_n 1, 1) := by decide +kernel
theorem dX5_remove_8 : decode cX5_remove 8 = .ok (.iconst 1, 1) := by decide +kernel
theorem dX5_remove_9 : decode cX5_remove 9 = .ok (.iadd, 1) := by decide +kernel
theorem dX5_remove_10 : decode cX5_remove 10 = .ok (.istore_n 3, 1) := by decide +kernel
theorem dX5_remove_11 : decode cX5_remove 11 = .ok (.iload_n 3, 1) := by decide +kernel
theorem dX5_remove_12 : decode cX5_remove 12 = .ok (.aload_n 0, 1) := by decide +kernel
theorem dX5_remove_13 : decode cX5_remove 13 = .ok (.getfield 54, 3) := by decide +kernel
theorem dX5_remove_16 : decode cX5_remove 16 = .ok (.if_icmp .ge 23, 3) := by decide +kernel
theorem dX5_remove_19 : decode cX5_remove 19 = .ok (.aload_n 0, 1) := by decide +kernel
theorem dX5_remove_20 : decode cX5_remove 20 = .ok (.getfield 31, 3) := by decide +kernel
theorem dX5_remove_23 : decode cX5_remove 23 = .ok (.iload_n 3, 1) := by decide +kernel
theorem dX5_remove_24 : decode cX5_remove 24 = .ok (.iconst 1, 1) := by decide +kernel
theorem dX5_remove_25 : decode cX5_remove 25 = .ok (.isub, 1) := by decide +kernel
theorem dX5_remove_26 : decode cX5_remove 26 = .ok (.aload_n 0, 1) := by decide +kernel
theorem dX5_remove_27 : decode cX5_remove 27 = .ok (.getfield 31, 3) := by decide +kernel
theorem dX5_remove_30 : decode cX5_remove 30 = .ok (.iload_n 3, 1) := by decide +kernel
theorem dX5_remove_31 : decode cX5_remove 31 = .ok (.aaload, 1) := by decide +kernel
theorem dX5_remove_32 : decode cX5_remove 32 = .ok (.aastore, 1) := by decide +kernel
theorem dX5_remove_33 : decode cX5_remove 33 = .ok (.iinc 3 1, 3) := by decide +kernel
theorem dX5_remove_36 : decode cX5_remove 36 = .ok (.goto (-25), 3) := by decide +kernel
theorem dX5_remove_39 : decode cX5_remove 39 = .ok (.aload_n 0, 1) := by decide +kernel
theorem dX5_remove_40 : decode cX5_remove 40 = .ok (.dup, 1) := by decide +kernel
theorem dX5_remove_41 : decode cX5_remove 41 = .ok (.getfield 54, 3) := by decide +kernel
theorem dX5_remove_44 : decode cX5_remove 44 = .ok (.iconst 1, 1) := by decide +kernel
theorem dX5_remove_45 : decode cX5_remove 45 = .ok (.isub, 1) := by decide +kernel
theorem dX5_remove_46 : decode cX5_remove 46 = .ok (.putfield 54, 3) := by decide +kernel
theorem dX5_remove_49 : decode cX5_remove 49 = .ok (.aload_n 0, 1) := by decide +kernel
theorem dX5_remove_50 : decode cX5_remove 50 = .ok (.getfield 31, 3) := by decide +kernel
theorem dX5_remove_53 : decode cX5_remove 53 = .ok (.aload_n 0, 1) := by decide +kernel
theorem dX5_remove_54 : decode cX5_remove 54 = .ok (.getfield 54, 3) := by decide +kernel
theorem dX5_remove_57 : decode cX5_remove 57 = .ok (.aload_n 2, 1) := by decide +kernel
theorem dX5_remove_58 : decode cX5_remove 58 = .ok (.aastore, 1) := by decide +kernel
theorem dX5_remove_59 : decode cX5_remove 59 = .ok (.aload_n 0, 1) := by decide +kernel
theorem dX5_remove_60 : decode cX5_remove 60 = .ok (.getfield 38, 3) := by decide +kernel
theorem dX5_remove_63 : decode cX5_remove 63 = .ok (.iload_n 1, 1) := by decide +kernel
theorem dX5_remove_64 : decode cX5_remove 64 = .ok (.invokevirtual 78, 3) := by decide +kernel
theorem dX5_remove_67 : decode cX5_remove 67 = .ok (.aload_n 0, 1) := by decide +kernel
theorem dX5_remove_68 : decode cX5_remove 68 = .ok (.getfield 38, 3) := by decide +kernel
theorem dX5_remove_71 : decode cX5_remove 71 = .ok (.iload_n 1, 1) := by decide +kernel
theorem dX5_remove_72 : decode cX5_remove 72 = .ok (.invokevirtual 82, 3) := by decide +kernel
theorem dX5_remove_75 : decode cX5_remove 75 = .ok (.return_, 1) := by decide +kernel
theorem dX5_take_0 : decode cX5_take 0 = .ok (.aload_n 0, 1) := by decide +kernel
theorem dX5_take_1 : decode cX5_take 1 = .ok (.getfield 25, 3) := by decide +kernel
theorem dX5_take_4 : decode cX5_take 4 = .ok (.aload_n 1, 1) := by decide +kernel
theorem dX5_take_5 : decode cX5_take 5 = .ok (.getfield 85, 3) := by decide +kernel
theorem dX5_take_8 : decode cX5_take 8 = .ok (.aaload, 1) := by decide +kernel
theorem dX5_take_9 : decode cX5_take 9 = .ok (.astore_n 2, 1) := by decide +kernel
theorem dX5_take_10 : decode cX5_take 10 = .ok (.aload_n 0, 1) := by decide +kernel
theorem dX5_take_11 : decode cX5_take 11 = .ok (.getfield 31, 3) := by decide +kernel
theorem dX5_take_14 : decode cX5_take 14 = .ok (.aload_n 1, 1) := by decide +kernel
theorem dX5_take_15 : decode cX5_take 15 = .ok (.getfield 90, 3) := by decide +kernel
theorem dX5_take_18 : decode cX5_take 18 = .ok (.getfield 94, 3) := by decide +kernel
theorem dX5_take_21 : decode cX5_take 21 = .ok (.aaload, 1) := by decide +kernel
theorem dX5_take_22 : decode cX5_take 22 = .ok (.astore_n 3, 1) := by decide +kernel
theorem dX5_take_23 : decode cX5_take 23 = .ok (.aload_n 2, 1) := by decide +kernel
theorem dX5_take_24 : decode cX5_take 24 = .ok (.dup, 1) := by decide +kernel
theorem dX5_take_25 : decode cX5_take 25 = .ok (.getfield 99, 3) := by decide +kernel
theorem dX5_take_28 : decode cX5_take 28 = .ok (.iconst 1, 1) := by decide +kernel
theorem dX5_take_29 : decode cX5_take 29 = .ok (.iadd, 1) := by decide +kernel
theorem dX5_take_30 : decode cX5_take 30 = .ok (.putfield 99, 3) := by decide +kernel
theorem dX5_take_33 : decode cX5_take 33 = .ok (.aload_n 2, 1) := by decide +kernel
theorem dX5_take_34 : decode cX5_take 34 = .ok (.dup, 1) := by decide +kernel
theorem dX5_take_35 : decode cX5_take 35 = .ok (.getfield 102, 3) := by decide +kernel
theorem dX5_take_38 : decode cX5_take 38 = .ok (.aload_n 1, 1) := by decide +kernel
theorem dX5_take_39 : decode cX5_take 39 = .ok (.getfield 105, 3) := by decide +kernel
theorem dX5_take_42 : decode cX5_take 42 = .ok (.iadd, 1) := by decide +kernel
theorem dX5_take_43 : decode cX5_take 43 = .ok (.putfield 102, 3) := by decide +kernel
theorem dX5_take_46 : decode cX5_take 46 = .ok (.aload_n 3, 1) := by decide +kernel
theorem dX5_take_47 : decode cX5_take 47 = .ok (.getfield 106, 3) := by decide +kernel
theorem dX5_take_50 : decode cX5_take 50 = .ok (.aload_n 1, 1) := by decide +kernel
theorem dX5_take_51 : decode cX5_take 51 = .ok (.getfield 90, 3) := by decide +kernel
theorem dX5_take_54 : decode cX5_take 54 = .ok (.getfield 109, 3) := by decide +kernel
theorem dX5_take_57 : decode cX5_take 57 = .ok (.if_icmp .ne 46, 3) := by decide +kernel
theorem dX5_take_60 : decode cX5_take 60 = .ok (.aload_n 2, 1) := by decide +kernel
theorem dX5_take_61 : decode cX5_take 61 = .ok (.getfield 110, 3) := by decide +kernel
theorem dX5_take_64 : decode cX5_take 64 = .ok (.istore 4, 2) := by decide +kernel
theorem dX5_take_66 : decode cX5_take 66 = .ok (.aload_n 2, 1) := by decide +kernel
theorem dX5_take_67 : decode cX5_take 67 = .ok (.dup, 1) := by decide +kernel
theorem dX5_take_68 : decode cX5_take 68 = .ok (.getfield 113, 3) := by decide +kernel
theorem dX5_take_71 : decode cX5_take 71 = .ok (.iconst 1, 1) := by decide +kernel
theorem dX5_take_72 : decode cX5_take 72 = .ok (.iadd, 1) := by decide +kernel
theorem dX5_take_73 : decode cX5_take 73 = .ok (.putfield 113, 3) := by decide +kernel
theorem dX5_take_76 : decode cX5_take 76 = .ok (.aload_n 2, 1) := by decide +kernel
theorem dX5_take_77 : decode cX5_take 77 = .ok (.aload_n 0, 1) := by decide +kernel
theorem dX5_take_78 : decode cX5_take 78 = .ok (.iload 4, 2) := by decide +kernel
theorem dX5_take_80 : decode cX5_take 80 = .ok (.invokevirtual 116, 3) := by decide +kernel
theorem dX5_take_83 : decode cX5_take 83 = .ok (.putfield 110, 3) := by decide +kernel
theorem dX5_take_86 : decode cX5_take 86 = .ok (.aload_n 0, 1) := by decide +kernel
theorem dX5_take_87 : decode cX5_take 87 = .ok (.aload_n 1, 1) := by decide +kernel
theorem dX5_take_88 : decode cX5_take 88 = .ok (.getfield 120, 3) := by decide +kernel
theorem dX5_take_91 : decode cX5_take 91 = .ok (.iload 4, 2) := by decide +kernel
theorem dX5_take_93 : decode cX5_take 93 = .ok (.aload_n 1, 1) := by decide +kernel
theorem dX5_take_94 : decode cX5_take 94 = .ok (.getfield 105, 3) := by decide +kernel
theorem dX5_take_97 : decode cX5_take 97 = .ok (.invokevirtual 123, 3) := by decide +kernel
theorem dX5_take_100 : decode cX5_take 100 = .ok (.goto 32, 3) := by decide +kernel
theorem dX5_take_103 : decode cX5_take 103 = .ok (.aload_n 2, 1) := by decide +kernel
theorem dX5_take_104 : decode cX5_take 104 = .ok (.iconst 0, 1) := by decide +kernel
theorem dX5_take_105 : decode cX5_take 105 = .ok (.aload_n 2, 1) := by decide +kernel
theorem dX5_take_106 : decode cX5_take 106 = .ok (.getfield 110, 3) := by decide +kernel
theorem dX5_take_109 : decode cX5_take 109 = .ok (.aload_n 0, 1) := by decide +kernel
theorem dX5_take_110 : decode cX5_take 110 = .ok (.getfield 18, 3) := by decide +kernel
theorem dX5_take_113 : decode cX5_take 113 = .ok (.iconst 5, 1) := by decide +kernel
theorem dX5_take_114 : decode cX5_take 114 = .ok (.iaload, 1) := by decide +kernel
theorem dX5_take_115 : decode cX5_take 115 = .ok (.isub, 1) := by decide +kernel
theorem dX5_take_116 : decode cX5_take 116 = .ok (.invokestatic 127, 3) := by decide +kernel
theorem dX5_take_119 : decode cX5_take 119 = .ok (.putfield 110, 3) := by decide +kernel
theorem dX5_take_122 : decode cX5_take 122 = .ok (.aload_n 3, 1) := by decide +kernel
theorem dX5_take_123 : decode cX5_take 123 = .ok (.dup, 1) := by decide +kernel
theorem dX5_take_124 : decode cX5_take 124 = .ok (.getfield 133, 3) := by decide +kernel
theorem dX5_take_127 : decode cX5_take 127 = .ok (.iconst 1, 1) := by decide +kernel
theorem dX5_take_128 : decode cX5_take 128 = .ok (.iadd, 1) := by decide +kernel
theorem dX5_take_129 : decode cX5_take 129 = .ok (.putfield 133, 3) := by decide +kernel
theorem dX5_take_132 : decode cX5_take 132 = .ok (.return_, 1) := by decide +kernel
theorem dX5_takeVote_0 : decode cX5_takeVote 0 = .ok (.aload_n 0, 1) := by decide +kernel
theorem dX5_takeVote_1 : decode cX5_takeVote 1 = .ok (.getfield 38, 3) := by decide +kernel
theorem dX5_takeVote_4 : decode cX5_takeVote 4 = .ok (.aload_n 1, 1) := by decide +kernel
theorem dX5_takeVote_5 : decode cX5_takeVote 5 = .ok (.getfield 94, 3) := by decide +kernel
theorem dX5_takeVote_8 : decode cX5_takeVote 8 = .ok (.aload_n 1, 1) := by decide +kernel
theorem dX5_takeVote_9 : decode cX5_takeVote 9 = .ok (.getfield 109, 3) := by decide +kernel
theorem dX5_takeVote_12 : decode cX5_takeVote 12 = .ok (.iload_n 2, 1) := by decide +kernel
theorem dX5_takeVote_13 : decode cX5_takeVote 13 = .ok (.invokevirtual 136, 3) := by decide +kernel
theorem dX5_takeVote_16 : decode cX5_takeVote 16 = .ok (.ifCond .eq 44, 3) := by decide +kernel
theorem dX5_takeVote_19 : decode cX5_takeVote 19 = .ok (.aload_n 0, 1) := by decide +kernel
theorem dX5_takeVote_20 : decode cX5_takeVote 20 = .ok (.getfield 31, 3) := by decide +kernel
theorem dX5_takeVote_23 : decode cX5_takeVote 23 = .ok (.aload_n 1, 1) := by decide +kernel
theorem dX5_takeVote_24 : decode cX5_takeVote 24 = .ok (.getfield 94, 3) := by decide +kernel
theorem dX5_takeVote_27 : decode cX5_takeVote 27 = .ok (.aaload, 1) := by decide +kernel
theorem dX5_takeVote_28 : decode cX5_takeVote 28 = .ok (.astore 4, 2) := by decide +kernel
theorem dX5_takeVote_30 : decode cX5_takeVote 30 = .ok (.aload 4, 2) := by decide +kernel
theorem dX5_takeVote_32 : decode cX5_takeVote 32 = .ok (.dup, 1) := by decide +kernel
theorem dX5_takeVote_33 : decode cX5_takeVote 33 = .ok (.getfield 140, 3) := by decide +kernel
theorem dX5_takeVote_36 : decode cX5_takeVote 36 = .ok (.iconst 1, 1) := by decide +kernel
theorem dX5_takeVote_37 : decode cX5_takeVote 37 = .ok (.iadd, 1) := by decide +kernel
theorem dX5_takeVote_38 : decode cX5_takeVote 38 = .ok (.putfield 140, 3) := by decide +kernel
theorem dX5_takeVote_41 : decode cX5_takeVote 41 = .ok (.aload 4, 2) := by decide +kernel
theorem dX5_takeVote_43 : decode cX5_takeVote 43 = .ok (.dup, 1) := by decide +kernel
theorem dX5_takeVote_44 : decode cX5_takeVote 44 = .ok (.getfield 143, 3) := by decide +kernel
theorem dX5_takeVote_47 : decode cX5_takeVote 47 = .ok (.iload_n 3, 1) := by decide +kernel
theorem dX5_takeVote_48 : decode cX5_takeVote 48 = .ok (.iadd, 1) := by decide +kernel
theorem dX5_takeVote_49 : decode cX5_takeVote 49 = .ok (.putfield 143, 3) := by decide +kernel
theorem dX5_takeVote_52 : decode cX5_takeVote 52 = .ok (.aload_n 0, 1) := by decide +kernel
theorem dX5_takeVote_53 : decode cX5_takeVote 53 = .ok (.aload_n 1, 1) := by decide +kernel
theorem dX5_takeVote_54 : decode cX5_takeVote 54 = .ok (.getfield 94, 3) := by decide +kernel
theorem dX5_takeVote_57 : decode cX5_takeVote 57 = .ok (.invokevirtual 144, 3) := by decide +kernel
theorem dX5_takeVote_60 : decode cX5_takeVote 60 = .ok (.return_, 1) := by decide +kernel
theorem dX5_lookBehindVote_0 : decode cX5_lookBehindVote 0 = .ok (.aload_n 0, 1) := by decide +kernel
theorem dX5_lookBehindVote_1 : decode cX5_lookBehindVote 1 = .ok (.iload_n 1, 1) := by decide +kernel
theorem dX5_lookBehindVote_2 : decode cX5_lookBehindVote 2 = .ok (.invokevirtual 147, 3) := by decide +kernel
theorem dX5_lookBehindVote_5 : decode cX5_lookBehindVote 5 = .ok (.ifCond .le 4, 3) := by decide +kernel
theorem dX5_lookBehindVote_8 : decode cX5_lookBehindVote 8 = .ok (.return_, 1) := by decide +kernel
theorem dX5_lookBehindVote_9 : decode cX5_lookBehindVote 9 = .ok (.aload_n 0, 1) := by decide +kernel
theorem dX5_lookBehindVote_10 : decode cX5_lookBehindVote 10 = .ok (.getfield 31, 3) := by decide +kernel
theorem dX5_lookBehindVote_13 : decode cX5_lookBehindVote 13 = .ok (.iload_n 1, 1) := by decide +kernel
theorem dX5_lookBehindVote_14 : decode cX5_lookBehindVote 14 = .ok (.aaload, 1) := by decide +kernel
theorem dX5_lookBehindVote_15 : decode cX5_lookBehindVote 15 = .ok (.astore_n 2, 1) := by decide +kernel
theorem dX5_lookBehindVote_16 : decode cX5_lookBehindVote 16 = .ok (.aload_n 2, 1) := by decide +kernel
theorem dX5_lookBehindVote_17 : decode cX5_lookBehindVote 17 = .ok (.aload_n 0, 1) := by decide +kernel
theorem dX5_lookBehindVote_18 : decode cX5_lookBehindVote 18 = .ok (.aload_n 2, 1) := by decide +kernel
theorem dX5_lookBehindVote_19 : decode cX5_lookBehindVote 19 = .ok (.getfield 140, 3) := by decide +kernel
theorem dX5_lookBehindVote_22 : decode cX5_lookBehindVote 22 = .ok (.aload_n 2, 1) := by decide +kernel
theorem dX5_lookBehindVote_23 : decode cX5_lookBehindVote 23 = .ok (.getfield 143, 3) := by decide +kernel
theorem dX5_lookBehindVote_26 : decode cX5_lookBehindVote 26 = .ok (.invokevirtual 150, 3) := by decide +kernel
theorem dX5_lookBehindVote_29 : decode cX5_lookBehindVote 29 = .ok (.putfield 153, 3) := by decide +kernel
theorem dX5_lookBehindVote_32 : decode cX5_lookBehindVote 32 = .ok (.aload_n 2, 1) := by decide +kernel
theorem dX5_lookBehindVote_33 : decode cX5_lookBehindVote 33 = .ok (.getfield 153, 3) := by decide +kernel
theorem dX5_lookBehindVote_36 : decode cX5_lookBehindVote 36 = .ok (.iconst 2, 1) := by decide +kernel
theorem dX5_lookBehindVote_37 : decode cX5_lookBehindVote 37 = .ok (.if_icmp .ne 28, 3) := by decide +kernel
theorem dX5_lookBehindVote_40 : decode cX5_lookBehindVote 40 = .ok (.aload_n 2, 1) := by decide +kernel
theorem dX5_lookBehindVote_41 : decode cX5_lookBehindVote 41 = .ok (.aload_n 0, 1) := by decide +kernel
theorem dX5_lookBehindVote_42 : decode cX5_lookBehindVote 42 = .ok (.getfield 38, 3) := by decide +kernel
theorem dX5_lookBehindVote_45 : decode cX5_lookBehindVote 45 = .ok (.iload_n 1, 1) := by decide +kernel
theorem dX5_lookBehindVote_46 : decode cX5_lookBehindVote 46 = .ok (.invokevirtual 156, 3) := by decide +kernel
theorem dX5_lookBehindVote_49 : decode cX5_lookBehindVote 49 = .ok (.putfield 106, 3) := by decide +kernel
theorem dX5_lookBehindVote_52 : decode cX5_lookBehindVote 52 = .ok (.aload_n 0, 1) := by decide +kernel
theorem dX5_lookBehindVote_53 : decode cX5_lookBehindVote 53 = .ok (.dup, 1) := by decide +kernel
theorem dX5_lookBehindVote_54 : decode cX5_lookBehindVote 54 = .ok (.getfield 67, 3) := by decide +kernel
theorem dX5_lookBehindVote_57 : decode cX5_lookBehindVote 57 = .ok (.iconst 1, 1) := by decide +kernel
theorem dX5_lookBehindVote_58 : decode cX5_lookBehindVote 58 = .ok (.iadd, 1) := by decide +kernel
theorem dX5_lookBehindVote_59 : decode cX5_lookBehindVote 59 = .ok (.putfield 67, 3) := by decide +kernel
theorem dX5_lookBehindVote_62 : decode cX5_lookBehindVote 62 = .ok (.goto 13, 3) := by decide +kernel
theorem dX5_lookBehindVote_65 : decode cX5_lookBehindVote 65 = .ok (.aload_n 0, 1) := by decide +kernel
theorem dX5_lookBehindVote_66 : decode cX5_lookBehindVote 66 = .ok (.dup, 1) := by decide +kernel
theorem dX5_lookBehindVote_67 : decode cX5_lookBehindVote 67 = .ok (.getfield 64, 3) := by decide +kernel
theorem dX5_lookBehindVote_70 : decode cX5_lookBehindVote 70 = .ok (.iconst 1, 1) := by decide +kernel
theorem dX5_lookBehindVote_71 : decode cX5_lookBehindVote 71 = .ok (.iadd, 1) := by decide +kernel
theorem dX5_lookBehindVote_72 : decode cX5_lookBehindVote 72 = .ok (.putfield 64, 3) := by decide +kernel
theorem dX5_lookBehindVote_75 : decode cX5_lookBehindVote 75 = .ok (.return_, 1) := by decide +kernel
theorem dX5_kindWhenAgreed_0 : decode cX5_kindWhenAgreed 0 = .ok (.iload_n 1, 1) := by decide +kernel
theorem dX5_kindWhenAgreed_1 : decode cX5_kindWhenAgreed 1 = .ok (.aload_n 0, 1) := by decide +kernel
theorem dX5_kindWhenAgreed_2 : decode cX5_kindWhenAgreed 2 = .ok (.getfield 18, 3) := by decide +kernel
theorem dX5_kindWhenAgreed_5 : decode cX5_kindWhenAgreed 5 = .ok (.iconst 2, 1) := by decide +kernel
theorem dX5_kindWhenAgreed_6 : decode cX5_kindWhenAgreed 6 = .ok (.iaload, 1) := by decide +kernel
theorem dX5_kindWhenAgreed_7 : decode cX5_kindWhenAgreed 7 = .ok (.if_icmp .le 17, 3) := by decide +kernel
theorem dX5_kindWhenAgreed_10 : decode cX5_kindWhenAgreed 10 = .ok (.iload_n 2, 1) := by decide +kernel
theorem dX5_kindWhenAgreed_11 : decode cX5_kindWhenAgreed 11 = .ok (.iload_n 1, 1) := by decide +kernel
theorem dX5_kindWhenAgreed_12 : decode cX5_kindWhenAgreed 12 = .ok (.invokestatic 159, 3) := by decide +kernel
theorem dX5_kindWhenAgreed_15 : decode cX5_kindWhenAgreed 15 = .ok (.aload_n 0, 1) := by decide +kernel
theorem dX5_kindWhenAgreed_16 : decode cX5_kindWhenAgreed 16 = .ok (.getfield 18, 3) := by decide +kernel
theorem dX5_kindWhenAgreed_19 : decode cX5_kindWhenAgreed 19 = .ok (.iconst 3, 1) := by decide +kernel
theorem dX5_kindWhenAgreed_20 : decode cX5_kindWhenAgreed 20 = .ok (.iaload, 1) := by decide +kernel
theorem dX5_kindWhenAgreed_21 : decode cX5_kindWhenAgreed 21 = .ok (.if_icmp .ge 7, 3) := by decide +kernel
theorem dX5_kindWhenAgreed_24 : decode cX5_kindWhenAgreed 24 = .ok (.iconst 1, 1) := by decide +kernel
theorem dX5_kindWhenAgreed_25 : decode cX5_kindWhenAgreed 25 = .ok (.goto 4, 3) := by decide +kernel
theorem dX5_kindWhenAgreed_28 : decode cX5_kindWhenAgreed 28 = .ok (.iconst 0, 1) := by decide +kernel
theorem dX5_kindWhenAgreed_29 : decode cX5_kindWhenAgreed 29 = .ok (.istore_n 3, 1) := by decide +kernel
theorem dX5_kindWhenAgreed_30 : decode cX5_kindWhenAgreed 30 = .ok (.iload_n 3, 1) := by decide +kernel
theorem dX5_kindWhenAgreed_31 : decode cX5_kindWhenAgreed 31 = .ok (.ifCond .eq 7, 3) := by decide +kernel
theorem dX5_kindWhenAgreed_34 : decode cX5_kindWhenAgreed 34 = .ok (.iconst 3, 1) := by decide +kernel
theorem dX5_kindWhenAgreed_35 : decode cX5_kindWhenAgreed 35 = .ok (.goto 4, 3) := by decide +kernel
theorem dX5_kindWhenAgreed_38 : decode cX5_kindWhenAgreed 38 = .ok (.iconst 2, 1) := by decide +kernel
theorem dX5_kindWhenAgreed_39 : decode cX5_kindWhenAgreed 39 = .ok (.ireturn, 1) := by decide +kernel
theorem dX5_weightLacking_0 : decode cX5_weightLacking 0 = .ok (.aload_n 0, 1) := by decide +kernel
theorem dX5_weightLacking_1 : decode cX5_weightLacking 1 = .ok (.getfield 18, 3) := by decide +kernel
theorem dX5_weightLacking_4 : decode cX5_weightLacking 4 = .ok (.iconst 0, 1) := by decide +kernel
theorem dX5_weightLacking_5 : decode cX5_weightLacking 5 = .ok (.iaload, 1) := by decide +kernel
theorem dX5_weightLacking_6 : decode cX5_weightLacking 6 = .ok (.bipush 10, 2) := by decide +kernel
theorem dX5_weightLacking_8 : decode cX5_weightLacking 8 = .ok (.aload_n 0, 1) := by decide +kernel
theorem dX5_weightLacking_9 : decode cX5_weightLacking 9 = .ok (.getfield 31, 3) := by decide +kernel
theorem dX5_weightLacking_12 : decode cX5_weightLacking 12 = .ok (.iload_n 1, 1) := by decide +kernel
theorem dX5_weightLacking_13 : decode cX5_weightLacking 13 = .ok (.aaload, 1) := by decide +kernel
theorem dX5_weightLacking_14 : decode cX5_weightLacking 14 = .ok (.getfield 162, 3) := by decide +kernel
theorem dX5_weightLacking_17 : decode cX5_weightLacking 17 = .ok (.imul, 1) := by decide +kernel
theorem dX5_weightLacking_18 : decode cX5_weightLacking 18 = .ok (.iadd, 1) := by decide +kernel
theorem dX5_weightLacking_19 : decode cX5_weightLacking 19 = .ok (.aload_n 0, 1) := by decide +kernel
theorem dX5_weightLacking_20 : decode cX5_weightLacking 20 = .ok (.getfield 38, 3) := by decide +kernel
theorem dX5_weightLacking_23 : decode cX5_weightLacking 23 = .ok (.iload_n 1, 1) := by decide +kernel
theorem dX5_weightLacking_24 : decode cX5_weightLacking 24 = .ok (.invokevirtual 165, 3) := by decide +kernel
theorem dX5_weightLacking_27 : decode cX5_weightLacking 27 = .ok (.isub, 1) := by decide +kernel
theorem dX5_weightLacking_28 : decode cX5_weightLacking 28 = .ok (.istore_n 2, 1) := by decide +kernel
theorem dX5_weightLacking_29 : decode cX5_weightLacking 29 = .ok (.aload_n 0, 1) := by decide +kernel
theorem dX5_weightLacking_30 : decode cX5_weightLacking 30 = .ok (.getfield 18, 3) := by decide +kernel
theorem dX5_weightLacking_33 : decode cX5_weightLacking 33 = .ok (.iconst 1, 1) := by decide +kernel
theorem dX5_weightLacking_34 : decode cX5_weightLacking 34 = .ok (.iaload, 1) := by decide +kernel
theorem dX5_weightLacking_35 : decode cX5_weightLacking 35 = .ok (.aload_n 0, 1) := by decide +kernel
theorem dX5_weightLacking_36 : decode cX5_weightLacking 36 = .ok (.getfield 38, 3) := by decide +kernel
theorem dX5_weightLacking_39 : decode cX5_weightLacking 39 = .ok (.iload_n 1, 1) := by decide +kernel
theorem dX5_weightLacking_40 : decode cX5_weightLacking 40 = .ok (.invokevirtual 168, 3) := by decide +kernel
theorem dX5_weightLacking_43 : decode cX5_weightLacking 43 = .ok (.isub, 1) := by decide +kernel
theorem dX5_weightLacking_44 : decode cX5_weightLacking 44 = .ok (.istore_n 3, 1) := by decide +kernel
theorem dX5_weightLacking_45 : decode cX5_weightLacking 45 = .ok (.iconst 0, 1) := by decide +kernel
theorem dX5_weightLacking_46 : decode cX5_weightLacking 46 = .ok (.iload_n 2, 1) := by decide +kernel
theorem dX5_weightLacking_47 : decode cX5_weightLacking 47 = .ok (.iload_n 3, 1) := by decide +kernel
theorem dX5_weightLacking_48 : decode cX5_weightLacking 48 = .ok (.invokestatic 127, 3) := by decide +kernel
theorem dX5_weightLacking_51 : decode cX5_weightLacking 51 = .ok (.invokestatic 127, 3) := by decide +kernel
theorem dX5_weightLacking_54 : decode cX5_weightLacking 54 = .ok (.ireturn, 1) := by decide +kernel
theorem dX5_trustBehindRight_0 : decode cX5_trustBehindRight 0 = .ok (.bipush 100, 2) := by decide +kernel
theorem dX5_trustBehindRight_2 : decode cX5_trustBehindRight 2 = .ok (.iload_n 1, 1) := by decide +kernel
theorem dX5_trustBehindRight_3 : decode cX5_trustBehindRight 3 = .ok (.aload_n 0, 1) := by decide +kernel
theorem dX5_trustBehindRight_4 : decode cX5_trustBehindRight 4 = .ok (.getfield 18, 3) := by decide +kernel
theorem dX5_trustBehindRight_7 : decode cX5_trustBehindRight 7 = .ok (.iconst 4, 1) := by decide +kernel
theorem dX5_trustBehindRight_8 : decode cX5_trustBehindRight 8 = .ok (.iaload, 1) := by decide +kernel
theorem dX5_trustBehindRight_9 : decode cX5_trustBehindRight 9 = .ok (.iadd, 1) := by decide +kernel
theorem dX5_trustBehindRight_10 : decode cX5_trustBehindRight 10 = .ok (.invokestatic 171, 3) := by decide +kernel
theorem dX5_trustBehindRight_13 : decode cX5_trustBehindRight 13 = .ok (.ireturn, 1) := by decide +kernel
theorem dX5_rankByTrust_0 : decode cX5_rankByTrust 0 = .ok (.iconst 0, 1) := by decide +kernel
theorem dX5_rankByTrust_1 : decode cX5_rankByTrust 1 = .ok (.istore_n 2, 1) := by decide +kernel
theorem dX5_rankByTrust_2 : decode cX5_rankByTrust 2 = .ok (.iconst 0, 1) := by decide +kernel
theorem dX5_rankByTrust_3 : decode cX5_rankByTrust 3 = .ok (.istore_n 3, 1) := by decide +kernel
theorem dX5_rankByTrust_4 : decode cX5_rankByTrust 4 = .ok (.iload_n 3, 1) := by decide +kernel
theorem dX5_rankByTrust_5 : decode cX5_rankByTrust 5 = .ok (.bipush 6, 2) := by decide +kernel
theorem dX5_rankByTrust_7 : decode cX5_rankByTrust 7 = .ok (.if_icmp .ge 48, 3) := by decide +kernel
theorem dX5_rankByTrust_10 : decode cX5_rankByTrust 10 = .ok (.aload_n 0, 1) := by decide +kernel
theorem dX5_rankByTrust_11 : decode cX5_rankByTrust 11 = .ok (.getfield 25, 3) := by decide +kernel
theorem dX5_rankByTrust_14 : decode cX5_rankByTrust 14 = .ok (.iload_n 3, 1) := by decide +kernel
theorem dX5_rankByTrust_15 : decode cX5_rankByTrust 15 = .ok (.aaload, 1) := by decide +kernel
theorem dX5_rankByTrust_16 : decode cX5_rankByTrust 16 = .ok (.getfield 110, 3) := by decide +kernel
theorem dX5_rankByTrust_19 : decode cX5_rankByTrust 19 = .ok (.aload_n 0, 1) := by decide +kernel
theorem dX5_rankByTrust_20 : decode cX5_rankByTrust 20 = .ok (.getfield 25, 3) := by decide +kernel
theorem dX5_rankByTrust_23 : decode cX5_rankByTrust 23 = .ok (.iload_n 1, 1) := by decide +kernel
theorem dX5_rankByTrust_24 : decode cX5_rankByTrust 24 = .ok (.aaload, 1) := by decide +kernel
theorem dX5_rankByTrust_25 : decode cX5_rankByTrust 25 = .ok (.getfield 110, 3) := by decide +kernel
theorem dX5_rankByTrust_28 : decode cX5_rankByTrust 28 = .ok (.isub, 1) := by decide +kernel
theorem dX5_rankByTrust_29 : decode cX5_rankByTrust 29 = .ok (.istore 4, 2) := by decide +kernel
theorem dX5_rankByTrust_31 : decode cX5_rankByTrust 31 = .ok (.iload 4, 2) := by decide +kernel
theorem dX5_rankByTrust_33 : decode cX5_rankByTrust 33 = .ok (.ifCond .gt 13, 3) := by decide +kernel
theorem dX5_rankByTrust_36 : decode cX5_rankByTrust 36 = .ok (.iload 4, 2) := by decide +kernel
theorem dX5_rankByTrust_38 : decode cX5_rankByTrust 38 = .ok (.ifCond .ne 11, 3) := by decide +kernel
theorem dX5_rankByTrust_41 : decode cX5_rankByTrust 41 = .ok (.iload_n 3, 1) := by decide +kernel
theorem dX5_rankByTrust_42 : decode cX5_rankByTrust 42 = .ok (.iload_n 1, 1) := by decide +kernel
theorem dX5_rankByTrust_43 : decode cX5_rankByTrust 43 = .ok (.if_icmp .ge 6, 3) := by decide +kernel
theorem dX5_rankByTrust_46 : decode cX5_rankByTrust 46 = .ok (.iinc 2 1, 3) := by decide +kernel
theorem dX5_rankByTrust_49 : decode cX5_rankByTrust 49 = .ok (.iinc 3 1, 3) := by decide +kernel
theorem dX5_rankByTrust_52 : decode cX5_rankByTrust 52 = .ok (.goto (-48), 3) := by decide +kernel
theorem dX5_rankByTrust_55 : decode cX5_rankByTrust 55 = .ok (.iload_n 2, 1) := by decide +kernel
theorem dX5_rankByTrust_56 : decode cX5_rankByTrust 56 = .ok (.ireturn, 1) := by decide +kernel
theorem dX5_wordsOfKind_0 : decode cX5_wordsOfKind 0 = .ok (.iconst 0, 1) := by decide +kernel
theorem dX5_wordsOfKind_1 : decode cX5_wordsOfKind 1 = .ok (.istore_n 2, 1) := by decide +kernel
theorem dX5_wordsOfKind_2 : decode cX5_wordsOfKind 2 = .ok (.iconst 0, 1) := by decide +kernel
theorem dX5_wordsOfKind_3 : decode cX5_wordsOfKind 3 = .ok (.istore_n 3, 1) := by decide +kernel
theorem dX5_wordsOfKind_4 : decode cX5_wordsOfKind 4 = .ok (.iload_n 3, 1) := by decide +kernel
theorem dX5_wordsOfKind_5 : decode cX5_wordsOfKind 5 = .ok (.aload_n 0, 1) := by decide +kernel
theorem dX5_wordsOfKind_6 : decode cX5_wordsOfKind 6 = .ok (.getfield 54, 3) := by decide +kernel
theorem dX5_wordsOfKind_9 : decode cX5_wordsOfKind 9 = .ok (.if_icmp .ge 25, 3) := by decide +kernel
theorem dX5_wordsOfKind_12 : decode cX5_wordsOfKind 12 = .ok (.aload_n 0, 1) := by decide +kernel
theorem dX5_wordsOfKind_13 : decode cX5_wordsOfKind 13 = .ok (.getfield 31, 3) := by decide +kernel
theorem dX5_wordsOfKind_16 : decode cX5_wordsOfKind 16 = .ok (.iload_n 3, 1) := by decide +kernel
theorem dX5_wordsOfKind_17 : decode cX5_wordsOfKind 17 = .ok (.aaload, 1) := by decide +kernel
theorem dX5_wordsOfKind_18 : decode cX5_wordsOfKind 18 = .ok (.getfield 153, 3) := by decide +kernel
theorem dX5_wordsOfKind_21 : decode cX5_wordsOfKind 21 = .ok (.iload_n 1, 1) := by decide +kernel
theorem dX5_wordsOfKind_22 : decode cX5_wordsOfKind 22 = .ok (.if_icmp .ne 6, 3) := by decide +kernel
theorem dX5_wordsOfKind_25 : decode cX5_wordsOfKind 25 = .ok (.iinc 2 1, 3) := by decide +kernel
theorem dX5_wordsOfKind_28 : decode cX5_wordsOfKind 28 = .ok (.iinc 3 1, 3) := by decide +kernel
theorem dX5_wordsOfKind_31 : decode cX5_wordsOfKind 31 = .ok (.goto (-27), 3) := by decide +kernel
theorem dX5_wordsOfKind_34 : decode cX5_wordsOfKind 34 = .ok (.iload_n 2, 1) := by decide +kernel
theorem dX5_wordsOfKind_35 : decode cX5_wordsOfKind 35 = .ok (.ireturn, 1) := by decide +kernel
theorem dX5_allAnswers_0 : decode cX5_allAnswers 0 = .ok (.iconst 0, 1) := by decide +kernel
theorem dX5_allAnswers_1 : decode cX5_allAnswers 1 = .ok (.istore_n 1, 1) := by decide +kernel
theorem dX5_allAnswers_2 : decode cX5_allAnswers 2 = .ok (.iconst 0, 1) := by decide +kernel
theorem dX5_allAnswers_3 : decode cX5_allAnswers 3 = .ok (.istore_n 2, 1) := by decide +kernel
theorem dX5_allAnswers_4 : decode cX5_allAnswers 4 = .ok (.iload_n 2, 1) := by decide +kernel
theorem dX5_allAnswers_5 : decode cX5_allAnswers 5 = .ok (.bipush 6, 2) := by decide +kernel
theorem dX5_allAnswers_7 : decode cX5_allAnswers 7 = .ok (.if_icmp .ge 21, 3) := by decide +kernel
theorem dX5_allAnswers_10 : decode cX5_allAnswers 10 = .ok (.iload_n 1, 1) := by decide +kernel
theorem dX5_allAnswers_11 : decode cX5_allAnswers 11 = .ok (.aload_n 0, 1) := by decide +kernel
theorem dX5_allAnswers_12 : decode cX5_allAnswers 12 = .ok (.getfield 25, 3) := by decide +kernel
theorem dX5_allAnswers_15 : decode cX5_allAnswers 15 = .ok (.iload_n 2, 1) := by decide +kernel
theorem dX5_allAnswers_16 : decode cX5_allAnswers 16 = .ok (.aaload, 1) := by decide +kernel
theorem dX5_allAnswers_17 : decode cX5_allAnswers 17 = .ok (.getfield 99, 3) := by decide +kernel
theorem dX5_allAnswers_20 : decode cX5_allAnswers 20 = .ok (.iadd, 1) := by decide +kernel
theorem dX5_allAnswers_21 : decode cX5_allAnswers 21 = .ok (.istore_n 1, 1) := by decide +kernel
theorem dX5_allAnswers_22 : decode cX5_allAnswers 22 = .ok (.iinc 2 1, 3) := by decide +kernel
theorem dX5_allAnswers_25 : decode cX5_allAnswers 25 = .ok (.goto (-21), 3) := by decide +kernel
theorem dX5_allAnswers_28 : decode cX5_allAnswers 28 = .ok (.iload_n 1, 1) := by decide +kernel
theorem dX5_allAnswers_29 : decode cX5_allAnswers 29 = .ok (.ireturn, 1) := by decide +kernel
theorem dX5_allRight_0 : decode cX5_allRight 0 = .ok (.iconst 0, 1) := by decide +kernel
theorem dX5_allRight_1 : decode cX5_allRight 1 = .ok (.istore_n 1, 1) := by decide +kernel
theorem dX5_allRight_2 : decode cX5_allRight 2 = .ok (.iconst 0, 1) := by decide +kernel
theorem dX5_allRight_3 : decode cX5_allRight 3 = .ok (.istore_n 2, 1) := by decide +kernel
theorem dX5_allRight_4 : decode cX5_allRight 4 = .ok (.iload_n 2, 1) := by decide +kernel
theorem dX5_allRight_5 : decode cX5_allRight 5 = .ok (.bipush 6, 2) := by decide +kernel
theorem dX5_allRight_7 : decode cX5_allRight 7 = .ok (.if_icmp .ge 21, 3) := by decide +kernel
theorem dX5_allRight_10 : decode cX5_allRight 10 = .ok (.iload_n 1, 1) := by decide +kernel
theorem dX5_allRight_11 : decode cX5_allRight 11 = .ok (.aload_n 0, 1) := by decide +kernel
theorem dX5_allRight_12 : decode cX5_allRight 12 = .ok (.getfield 25, 3) := by decide +kernel
theorem dX5_allRight_15 : decode cX5_allRight 15 = .ok (.iload_n 2, 1) := by decide +kernel
theorem dX5_allRight_16 : decode cX5_allRight 16 = .ok (.aaload, 1) := by decide +kernel
theorem dX5_allRight_17 : decode cX5_allRight 17 = .ok (.getfield 113, 3) := by decide +kernel
theorem dX5_allRight_20 : decode cX5_allRight 20 = .ok (.iadd, 1) := by decide +kernel
theorem dX5_allRight_21 : decode cX5_allRight 21 = .ok (.istore_n 1, 1) := by decide +kernel
theorem dX5_allRight_22 : decode cX5_allRight 22 = .ok (.iinc 2 1, 3) := by decide +kernel
theorem dX5_allRight_25 : decode cX5_allRight 25 = .ok (.goto (-21), 3) := by decide +kernel
theorem dX5_allRight_28 : decode cX5_allRight 28 = .ok (.iload_n 1, 1) := by decide +kernel
theorem dX5_allRight_29 : decode cX5_allRight 29 = .ok (.ireturn, 1) := by decide +kernel
theorem dX5_allTrust_0 : decode cX5_allTrust 0 = .ok (.iconst 0, 1) := by decide +kernel
theorem dX5_allTrust_1 : decode cX5_allTrust 1 = .ok (.istore_n 1, 1) := by decide +kernel
theorem dX5_allTrust_2 : decode cX5_allTrust 2 = .ok (.iconst 0, 1) := by decide +kernel
theorem dX5_allTrust_3 : decode cX5_allTrust 3 = .ok (.istore_n 2, 1) := by decide +kernel
theorem dX5_allTrust_4 : decode cX5_allTrust 4 = .ok (.iload_n 2, 1) := by decide +kernel
theorem dX5_allTrust_5 : decode cX5_allTrust 5 = .ok (.bipush 6, 2) := by decide +kernel
theorem dX5_allTrust_7 : decode cX5_allTrust 7 = .ok (.if_icmp .ge 21, 3) := by decide +kernel
theorem dX5_allTrust_10 : decode cX5_allTrust 10 = .ok (.iload_n 1, 1) := by decide +kernel
theorem dX5_allTrust_11 : decode cX5_allTrust 11 = .ok (.aload_n 0, 1) := by decide +kernel
theorem dX5_allTrust_12 : decode cX5_allTrust 12 = .ok (.getfield 25, 3) := by decide +kernel
theorem dX5_allTrust_15 : decode cX5_allTrust 15 = .ok (.iload_n 2, 1) := by decide +kernel
theorem dX5_allTrust_16 : decode cX5_allTrust 16 = .ok (.aaload, 1) := by decide +kernel
theorem dX5_allTrust_17 : decode cX5_allTrust 17 = .ok (.getfield 110, 3) := by decide +kernel
theorem dX5_allTrust_20 : decode cX5_allTrust 20 = .ok (.iadd, 1) := by decide +kernel
theorem dX5_allTrust_21 : decode cX5_allTrust 21 = .ok (.istore_n 1, 1) := by decide +kernel
theorem dX5_allTrust_22 : decode cX5_allTrust 22 = .ok (.iinc 2 1, 3) := by decide +kernel
theorem dX5_allTrust_25 : decode cX5_allTrust 25 = .ok (.goto (-21), 3) := by decide +kernel
theorem dX5_allTrust_28 : decode cX5_allTrust 28 = .ok (.iload_n 1, 1) := by decide +kernel
theorem dX5_allTrust_29 : decode cX5_allTrust 29 = .ok (.ireturn, 1) := by decide +kernel
theorem dX6_init_0 : decode cX6_init 0 = .ok (.aload_n 0, 1) := by decide +kernel
theorem dX6_init_1 : decode cX6_init 1 = .ok (.invokespecial 3, 3) := by decide +kernel
theorem dX6_init_4 : decode cX6_init 4 = .ok (.return_, 1) := by decide +kernel
theorem dX6_begin_0 : decode cX6_begin 0 = .ok (.aload_n 0, 1) := by decide +kernel
theorem dX6_begin_1 : decode cX6_begin 1 = .ok (.iload_n 1, 1) := by decide +kernel
theorem dX6_begin_2 : decode cX6_begin 2 = .ok (.putfield 9, 3) := by decide +kernel
theorem dX6_begin_5 : decode cX6_begin 5 = .ok (.aload_n 0, 1) := by decide +kernel
theorem dX6_begin_6 : decode cX6_begin 6 = .ok (.iload_n 2, 1) := by decide +kernel
theorem dX6_begin_7 : decode cX6_begin 7 = .ok (.putfield 15, 3) := by decide +kernel
theorem dX6_begin_10 : decode cX6_begin 10 = .ok (.aload_n 0, 1) := by decide +kernel
theorem dX6_begin_11 : decode cX6_begin 11 = .ok (.iload_n 3, 1) := by decide +kernel
theorem dX6_begin_12 : decode cX6_begin 12 = .ok (.putfield 18, 3) := by decide +kernel
theorem dX6_begin_15 : decode cX6_begin 15 = .ok (.aload_n 0, 1) := by decide +kernel
theorem dX6_begin_16 : decode cX6_begin 16 = .ok (.iconst 0, 1) := by decide +kernel
theorem dX6_begin_17 : decode cX6_begin 17 = .ok (.putfield 21, 3) := by decide +kernel
theorem dX6_begin_20 : decode cX6_begin 20 = .ok (.aload_n 0, 1) := by decide +kernel
theorem dX6_begin_21 : decode cX6_begin 21 = .ok (.iconst 0, 1) := by decide +kernel
theorem dX6_begin_22 : decode cX6_begin 22 = .ok (.putfield 24, 3) := by decide +kernel
theorem dX6_begin_25 : decode cX6_begin 25 = .ok (.aload_n 0, 1) := by decide +kernel
theorem dX6_begin_26 : decode cX6_begin 26 = .ok (.iconst 0, 1) := by decide +kernel
theorem dX6_begin_27 : decode cX6_begin 27 = .ok (.putfield 27, 3) := by decide +kernel
theorem dX6_begin_30 : decode cX6_begin 30 = .ok (.return_, 1) := by decide +kernel
theorem dX6_isTold_0 : decode cX6_isTold 0 = .ok (.aload_n 0, 1) := by decide +kernel
theorem dX6_isTold_1 : decode cX6_isTold 1 = .ok (.getfield 9, 3) := by decide +kernel
theorem dX6_isTold_4 : decode cX6_isTold 4 = .ok (.ifCond .eq 11, 3) := by decide +kernel
theorem dX6_isTold_7 : decode cX6_isTold 7 = .ok (.aload_n 0, 1) := by decide +kernel
theorem dX6_isTold_8 : decode cX6_isTold 8 = .ok (.getfield 9, 3) := by decide +kernel
theorem dX6_isTold_11 : decode cX6_isTold 11 = .ok (.iconst 2, 1) := by decide +kernel
theorem dX6_isTold_12 : decode cX6_isTold 12 = .ok (.if_icmp .ne 7, 3) := by decide +kernel
theorem dX6_isTold_15 : decode cX6_isTold 15 = .ok (.iconst 1, 1) := by decide +kernel
theorem dX6_isTold_16 : decode cX6_isTold 16 = .ok (.goto 4, 3) := by decide +kernel
theorem dX6_isTold_19 : decode cX6_isTold 19 = .ok (.iconst 0, 1) := by decide +kernel
theorem dX6_isTold_20 : decode cX6_isTold 20 = .ok (.ireturn, 1) := by decide +kernel
theorem dX6_copyFrom_0 : decode cX6_copyFrom 0 = .ok (.aload_n 0, 1) := by decide +kernel
theorem dX6_copyFrom_1 : decode cX6_copyFrom 1 = .ok (.aload_n 1, 1) := by decide +kernel
theorem dX6_copyFrom_2 : decode cX6_copyFrom 2 = .ok (.getfield 9, 3) := by decide +kernel
theorem dX6_copyFrom_5 : decode cX6_copyFrom 5 = .ok (.putfield 9, 3) := by decide +kernel
theorem dX6_copyFrom_8 : decode cX6_copyFrom 8 = .ok (.aload_n 0, 1) := by decide +kernel
theorem dX6_copyFrom_9 : decode cX6_copyFrom 9 = .ok (.aload_n 1, 1) := by decide +kernel
theorem dX6_copyFrom_10 : decode cX6_copyFrom 10 = .ok (.getfield 15, 3) := by decide +kernel
theorem dX6_copyFrom_13 : decode cX6_copyFrom 13 = .ok (.putfield 15, 3) := by decide +kernel
theorem dX6_copyFrom_16 : decode cX6_copyFrom 16 = .ok (.aload_n 0, 1) := by decide +kernel
theorem dX6_copyFrom_17 : decode cX6_copyFrom 17 = .ok (.aload_n 1, 1) := by decide +kernel
theorem dX6_copyFrom_18 : decode cX6_copyFrom 18 = .ok (.getfield 18, 3) := by decide +kernel
theorem dX6_copyFrom_21 : decode cX6_copyFrom 21 = .ok (.putfield 18, 3) := by decide +kernel
theorem dX6_copyFrom_24 : decode cX6_copyFrom 24 = .ok (.aload_n 0, 1) := by decide +kernel
theorem dX6_copyFrom_25 : decode cX6_copyFrom 25 = .ok (.aload_n 1, 1) := by decide +kernel
theorem dX6_copyFrom_26 : decode cX6_copyFrom 26 = .ok (.getfield 21, 3) := by decide +kernel
theorem dX6_copyFrom_29 : decode cX6_copyFrom 29 = .ok (.putfield 21, 3) := by decide +kernel
theorem dX6_copyFrom_32 : decode cX6_copyFrom 32 = .ok (.aload_n 0, 1) := by decide +kernel
theorem dX6_copyFrom_33 : decode cX6_copyFrom 33 = .ok (.aload_n 1, 1) := by decide +kernel
theorem dX6_copyFrom_34 : decode cX6_copyFrom 34 = .ok (.getfield 24, 3) := by decide +kernel
theorem dX6_copyFrom_37 : decode cX6_copyFrom 37 = .ok (.putfield 24, 3) := by decide +kernel
theorem dX6_copyFrom_40 : decode cX6_copyFrom 40 = .ok (.aload_n 0, 1) := by decide +kernel
theorem dX6_copyFrom_41 : decode cX6_copyFrom 41 = .ok (.aload_n 1, 1) := by decide +kernel
theorem dX6_copyFrom_42 : decode cX6_copyFrom 42 = .ok (.getfield 27, 3) := by decide +kernel
theorem dX6_copyFrom_45 : decode cX6_copyFrom 45 = .ok (.putfield 27, 3) := by decide +kernel
theorem dX6_copyFrom_48 : decode cX6_copyFrom 48 = .ok (.return_, 1) := by decide +kernel
theorem dX7_init_0 : decode cX7_init 0 = .ok (.aload_n 0, 1) := by decide +kernel
theorem dX7_init_1 : decode cX7_init 1 = .ok (.invokespecial 1, 3) := by decide +kernel
theorem dX7_init_4 : decode cX7_init 4 = .ok (.aload_n 0, 1) := by decide +kernel
theorem dX7_init_5 : decode cX7_init 5 = .ok (.new 7, 3) := by decide +kernel
theorem dX7_init_8 : decode cX7_init 8 = .ok (.dup, 1) := by decide +kernel
theorem dX7_init_9 : decode cX7_init 9 = .ok (.invokespecial 9, 3) := by decide +kernel
theorem dX7_init_12 : decode cX7_init 12 = .ok (.putfield 10, 3) := by decide +kernel
theorem dX7_init_15 : decode cX7_init 15 = .ok (.aload_n 0, 1) := by decide +kernel
theorem dX7_init_16 : decode cX7_init 16 = .ok (.aload_n 0, 1) := by decide +kernel
theorem dX7_init_17 : decode cX7_init 17 = .ok (.getfield 10, 3) := by decide +kernel
theorem dX7_init_20 : decode cX7_init 20 = .ok (.getfield 16, 3) := by decide +kernel
theorem dX7_init_23 : decode cX7_init 23 = .ok (.putfield 20, 3) := by decide +kernel
theorem dX7_init_26 : decode cX7_init 26 = .ok (.aload_n 0, 1) := by decide +kernel
theorem dX7_init_27 : decode cX7_init 27 = .ok (.new 21, 3) := by decide +kernel
theorem dX7_init_30 : decode cX7_init 30 = .ok (.dup, 1) := by decide +kernel
theorem dX7_init_31 : decode cX7_init 31 = .ok (.invokespecial 23, 3) := by decide +kernel
theorem dX7_init_34 : decode cX7_init 34 = .ok (.putfield 24, 3) := by decide +kernel
theorem dX7_init_37 : decode cX7_init 37 = .ok (.aload_n 0, 1) := by decide +kernel
theorem dX7_init_38 : decode cX7_init 38 = .ok (.bipush 6, 2) := by decide +kernel
theorem dX7_init_40 : decode cX7_init 40 = .ok (.anewarray 21, 3) := by decide +kernel
theorem dX7_init_43 : decode cX7_init 43 = .ok (.putfield 28, 3) := by decide +kernel
theorem dX7_init_46 : decode cX7_init 46 = .ok (.iconst 0, 1) := by decide +kernel
theorem dX7_init_47 : decode cX7_init 47 = .ok (.istore_n 1, 1) := by decide +kernel
theorem dX7_init_48 : decode cX7_init 48 = .ok (.iload_n 1, 1) := by decide +kernel
theorem dX7_init_49 : decode cX7_init 49 = .ok (.bipush 6, 2) := by decide +kernel
theorem dX7_init_51 : decode cX7_init 51 = .ok (.if_icmp .ge 22, 3) := by decide +kernel
theorem dX7_init_54 : decode cX7_init 54 = .ok (.aload_n 0, 1) := by decide +kernel
theorem dX7_init_55 : decode cX7_init 55 = .ok (.getfield 28, 3) := by decide +kernel
theorem dX7_init_58 : decode cX7_init 58 = .ok (.iload_n 1, 1) := by decide +kernel
theorem dX7_init_59 : decode cX7_init 59 = .ok (.new 21, 3) := by decide +kernel
theorem dX7_init_62 : decode cX7_init 62 = .ok (.dup, 1) := by decide +kernel
theorem dX7_init_63 : decode cX7_init 63 = .ok (.invokespecial 23, 3) := by decide +kernel
theorem dX7_init_66 : decode cX7_init 66 = .ok (.aastore, 1) := by decide +kernel
theorem dX7_init_67 : decode cX7_init 67 = .ok (.iinc 1 1, 3) := by decide +kernel
theorem dX7_init_70 : decode cX7_init 70 = .ok (.goto (-22), 3) := by decide +kernel
theorem dX7_init_73 : decode cX7_init 73 = .ok (.aload_n 0, 1) := by decide +kernel
theorem dX7_init_74 : decode cX7_init 74 = .ok (.iconst 2, 1) := by decide +kernel
theorem dX7_init_75 : decode cX7_init 75 = .ok (.anewarray 21, 3) := by decide +kernel
theorem dX7_init_78 : decode cX7_init 78 = .ok (.putfield 32, 3) := by decide +kernel
theorem dX7_init_81 : decode cX7_init 81 = .ok (.iconst 0, 1) := by decide +kernel
theorem dX7_init_82 : decode cX7_init 82 = .ok (.istore_n 1, 1) := by decide +kernel
theorem dX7_init_83 : decode cX7_init 83 = .ok (.iload_n 1, 1) := by decide +kernel
theorem dX7_init_84 : decode cX7_init 84 = .ok (.iconst 2, 1) := by decide +kernel
theorem dX7_init_85 : decode cX7_init 85 = .ok (.if_icmp .ge 22, 3) := by decide +kernel
theorem dX7_init_88 : decode cX7_init 88 = .ok (.aload_n 0, 1) := by decide +kernel
theorem dX7_init_89 : decode cX7_init 89 = .ok (.getfield 32, 3) := by decide +kernel
theorem dX7_init_92 : decode cX7_init 92 = .ok (.iload_n 1, 1) := by decide +kernel
theorem dX7_init_93 : decode cX7_init 93 = .ok (.new 21, 3) := by decide +kernel
theorem dX7_init_96 : decode cX7_init 96 = .ok (.dup, 1) := by decide +kernel
theorem dX7_init_97 : decode cX7_init 97 = .ok (.invokespecial 23, 3) := by decide +kernel
theorem dX7_init_100 : decode cX7_init 100 = .ok (.aastore, 1) := by decide +kernel
theorem dX7_init_101 : decode cX7_init 101 = .ok (.iinc 1 1, 3) := by decide +kernel
theorem dX7_init_104 : decode cX7_init 104 = .ok (.goto (-21), 3) := by decide +kernel
theorem dX7_init_107 : decode cX7_init 107 = .ok (.aload_n 0, 1) := by decide +kernel
theorem dX7_init_108 : decode cX7_init 108 = .ok (.iconst 2, 1) := by decide +kernel
theorem dX7_init_109 : decode cX7_init 109 = .ok (.newarray .boolean, 2) := by decide +kernel
theorem dX7_init_111 : decode cX7_init 111 = .ok (.putfield 35, 3) := by decide +kernel
theorem dX7_init_114 : decode cX7_init 114 = .ok (.return_, 1) := by decide +kernel
theorem dX7_set_0 : decode cX7_set 0 = .ok (.iload_n 1, 1) := by decide +kernel
theorem dX7_set_1 : decode cX7_set 1 = .ok (.iconst 0, 1) := by decide +kernel
theorem dX7_set_2 : decode cX7_set 2 = .ok (.iconst 5, 1) := by decide +kernel
theorem dX7_set_3 : decode cX7_set 3 = .ok (.invokestatic 39, 3) := by decide +kernel
theorem dX7_set_6 : decode cX7_set 6 = .ok (.ifCond .eq 20, 3) := by decide +kernel
theorem dX7_set_9 : decode cX7_set 9 = .ok (.iload_n 2, 1) := by decide +kernel
theorem dX7_set_10 : decode cX7_set 10 = .ok (.getstatic 43, 3) := by decide +kernel
theorem dX7_set_13 : decode cX7_set 13 = .ok (.iload_n 1, 1) := by decide +kernel
theorem dX7_set_14 : decode cX7_set 14 = .ok (.iaload, 1) := by decide +kernel
theorem dX7_set_15 : decode cX7_set 15 = .ok (.getstatic 47, 3) := by decide +kernel
theorem dX7_set_18 : decode cX7_set 18 = .ok (.iload_n 1, 1) := by decide +kernel
theorem dX7_set_19 : decode cX7_set 19 = .ok (.iaload, 1) := by decide +kernel
theorem dX7_set_20 : decode cX7_set 20 = .ok (.invokestatic 39, 3) := by decide +kernel
theorem dX7_set_23 : decode cX7_set 23 = .ok (.ifCond .ne 6, 3) := by decide +kernel
theorem dX7_set_26 : decode cX7_set 26 = .ok (.bipush (-2), 2) := by decide +kernel
theorem dX7_set_28 : decode cX7_set 28 = .ok (.ireturn, 1) := by decide +kernel
theorem dX7_set_29 : decode cX7_set 29 = .ok (.aload_n 0, 1) := by decide +kernel
theorem dX7_set_30 : decode cX7_set 30 = .ok (.invokevirtual 50, 3) := by decide +kernel
theorem dX7_set_33 : decode cX7_set 33 = .ok (.aload_n 0, 1) := by decide +kernel
theorem dX7_set_34 : decode cX7_set 34 = .ok (.getfield 24, 3) := by decide +kernel
theorem dX7_set_37 : decode cX7_set 37 = .ok (.getfield 53, 3) := by decide +kernel
theorem dX7_set_40 : decode cX7_set 40 = .ok (.iload_n 1, 1) := by decide +kernel
theorem dX7_set_41 : decode cX7_set 41 = .ok (.iaload, 1) := by decide +kernel
theorem dX7_set_42 : decode cX7_set 42 = .ok (.istore_n 3, 1) := by decide +kernel
theorem dX7_set_43 : decode cX7_set 43 = .ok (.aload_n 0, 1) := by decide +kernel
theorem dX7_set_44 : decode cX7_set 44 = .ok (.getfield 24, 3) := by decide +kernel
theorem dX7_set_47 : decode cX7_set 47 = .ok (.getfield 53, 3) := by decide +kernel
theorem dX7_set_50 : decode cX7_set 50 = .ok (.iload_n 1, 1) := by decide +kernel
theorem dX7_set_51 : decode cX7_set 51 = .ok (.iload_n 2, 1) := by decide +kernel
theorem dX7_set_52 : decode cX7_set 52 = .ok (.iastore, 1) := by decide +kernel
theorem dX7_set_53 : decode cX7_set 53 = .ok (.iload_n 3, 1) := by decide +kernel
theorem dX7_set_54 : decode cX7_set 54 = .ok (.ireturn, 1) := by decide +kernel
theorem dX7_know_0 : decode cX7_know 0 = .ok (.iload_n 1, 1) := by decide +kernel
theorem dX7_know_1 : decode cX7_know 1 = .ok (.iconst 0, 1) := by decide +kernel
theorem dX7_know_2 : decode cX7_know 2 = .ok (.bipush 9, 2) := by decide +kernel
theorem dX7_know_4 : decode cX7_know 4 = .ok (.invokestatic 39, 3) := by decide +kernel
theorem dX7_know_7 : decode cX7_know 7 = .ok (.ifCond .ne 6, 3) := by decide +kernel
theorem dX7_know_10 : decode cX7_know 10 = .ok (.bipush (-2), 2) := by decide +kernel
theorem dX7_know_12 : decode cX7_know 12 = .ok (.ireturn, 1) := by decide +kernel
theorem dX7_know_13 : decode cX7_know 13 = .ok (.aload_n 0, 1) := by decide +kernel
theorem dX7_know_14 : decode cX7_know 14 = .ok (.getfield 10, 3) := by decide +kernel
theorem dX7_know_17 : decode cX7_know 17 = .ok (.invokevirtual 56, 3) := by decide +kernel
theorem dX7_know_20 : decode cX7_know 20 = .ok (.istore_n 2, 1) := by decide +kernel
theorem dX7_know_21 : decode cX7_know 21 = .ok (.iload_n 2, 1) := by decide +kernel
theorem dX7_know_22 : decode cX7_know 22 = .ok (.ifCond .ne 6, 3) := by decide +kernel
theorem dX7_know_25 : decode cX7_know 25 = .ok (.bipush (-3), 2) := by decide +kernel
theorem dX7_know_27 : decode cX7_know 27 = .ok (.ireturn, 1) := by decide +kernel
theorem dX7_know_28 : decode cX7_know 28 = .ok (.aload_n 0, 1) := by decide +kernel
theorem dX7_know_29 : decode cX7_know 29 = .ok (.getfield 24, 3) := by decide +kernel
theorem dX7_know_32 : decode cX7_know 32 = .ok (.invokevirtual 60, 3) := by decide +kernel
theorem dX7_know_35 : decode cX7_know 35 = .ok (.ifCond .ne 6, 3) := by decide +kernel
theorem dX7_know_38 : decode cX7_know 38 = .ok (.bipush (-4), 2) := by decide +kernel
theorem dX7_know_40 : decode cX7_know 40 = .ok (.ireturn, 1) := by decide +kernel
theorem dX7_know_41 : decode cX7_know 41 = .ok (.aload_n 0, 1) := by decide +kernel
theorem dX7_know_42 : decode cX7_know 42 = .ok (.invokevirtual 50, 3) := by decide +kernel
theorem dX7_know_45 : decode cX7_know 45 = .ok (.aload_n 0, 1) := by decide +kernel
theorem dX7_know_46 : decode cX7_know 46 = .ok (.getfield 20, 3) := by decide +kernel
theorem dX7_know_49 : decode cX7_know 49 = .ok (.iconst 0, 1) := by decide +kernel
theorem dX7_know_50 : decode cX7_know 50 = .ok (.putfield 64, 3) := by decide +kernel
theorem dX7_know_53 : decode cX7_know 53 = .ok (.aload_n 0, 1) := by decide +kernel
theorem dX7_know_54 : decode cX7_know 54 = .ok (.getfield 24, 3) := by decide +kernel
theorem dX7_know_57 : decode cX7_know 57 = .ok (.iconst 0, 1) := by decide +kernel
theorem dX7_know_58 : decode cX7_know 58 = .ok (.iload_n 1, 1) := by decide +kernel
theorem dX7_know_59 : decode cX7_know 59 = .ok (.iload_n 2, 1) := by decide +kernel
theorem dX7_know_60 : decode cX7_know 60 = .ok (.invokevirtual 70, 3) := by decide +kernel
theorem dX7_know_63 : decode cX7_know 63 = .ok (.ireturn, 1) := by decide +kernel
theorem dX7_add_0 : decode cX7_add 0 = .ok (.iload_n 1, 1) := by decide +kernel
theorem dX7_add_1 : decode cX7_add 1 = .ok (.iconst 0, 1) := by decide +kernel
theorem dX7_add_2 : decode cX7_add 2 = .ok (.bipush 9, 2) := by decide +kernel
theorem dX7_add_4 : decode cX7_add 4 = .ok (.invokestatic 39, 3) := by decide +kernel
theorem dX7_add_7 : decode cX7_add 7 = .ok (.ifCond .ne 6, 3) := by decide +kernel
theorem dX7_add_10 : decode cX7_add 10 = .ok (.bipush (-2), 2) := by decide +kernel
theorem dX7_add_12 : decode cX7_add 12 = .ok (.ireturn, 1) := by decide +kernel
theorem dX7_add_13 : decode cX7_add 13 = .ok (.aload_n 0, 1) := by decide +kernel
theorem dX7_add_14 : decode cX7_add 14 = .ok (.getfield 24, 3) := by decide +kernel
theorem dX7_add_17 : decode cX7_add 17 = .ok (.invokevirtual 60, 3) := by decide +kernel
theorem dX7_add_20 : decode cX7_add 20 = .ok (.ifCond .ne 6, 3) := by decide +kernel
theorem dX7_add_23 : decode cX7_add 23 = .ok (.bipush (-4), 2) := by decide +kernel
theorem dX7_add_25 : decode cX7_add 25 = .ok (.ireturn, 1) := by decide +kernel
theorem dX7_add_26 : decode cX7_add 26 = .ok (.aload_n 0, 1) := by decide +kernel
theorem dX7_add_27 : decode cX7_add 27 = .ok (.invokevirtual 50, 3) := by decide +kernel
theorem dX7_add_30 : decode cX7_add 30 = .ok (.aload_n 0, 1) := by decide +kernel
theorem dX7_add_31 : decode cX7_add 31 = .ok (.getfield 24, 3) := by decide +kernel
theorem dX7_add_34 : decode cX7_add 34 = .ok (.iconst 1, 1) := by decide +kernel
theorem dX7_add_35 : decode cX7_add 35 = .ok (.iload_n 1, 1) := by decide +kernel
theorem dX7_add_36 : decode cX7_add 36 = .ok (.iconst 0, 1) := by decide +kernel
theorem dX7_add_37 : decode cX7_add 37 = .ok (.invokevirtual 70, 3) := by decide +kernel
theorem dX7_add_40 : decode cX7_add 40 = .ok (.ireturn, 1) := by decide +kernel
theorem dX7_answer_0 : decode cX7_answer 0 = .ok (.aload_n 0, 1) := by decide +kernel
theorem dX7_answer_1 : decode cX7_answer 1 = .ok (.getfield 10, 3) := by decide +kernel
theorem dX7_answer_4 : decode cX7_answer 4 = .ok (.invokevirtual 74, 3) := by decide +kernel
theorem dX7_answer_7 : decode cX7_answer 7 = .ok (.bipush (-6), 2) := by decide +kernel
theorem dX7_answer_9 : decode cX7_answer 9 = .ok (.if_icmp .eq 6, 3) := by decide +kernel
theorem dX7_answer_12 : decode cX7_answer 12 = .ok (.bipush (-3), 2) := by decide +kernel
theorem dX7_answer_14 : decode cX7_answer 14 = .ok (.ireturn, 1) := by decide +kernel
theorem dX7_answer_15 : decode cX7_answer 15 = .ok (.aload_n 0, 1) := by decide +kernel
theorem dX7_answer_16 : decode cX7_answer 16 = .ok (.getfield 24, 3) := by decide +kernel
theorem dX7_answer_19 : decode cX7_answer 19 = .ok (.aload_n 0, 1) := by decide +kernel
theorem dX7_answer_20 : decode cX7_answer 20 = .ok (.getfield 10, 3) := by decide +kernel
theorem dX7_answer_23 : decode cX7_answer 23 = .ok (.getfield 77, 3) := by decide +kernel
theorem dX7_answer_26 : decode cX7_answer 26 = .ok (.getfield 81, 3) := by decide +kernel
theorem dX7_answer_29 : decode cX7_answer 29 = .ok (.invokevirtual 86, 3) := by decide +kernel
theorem dX7_answer_32 : decode cX7_answer 32 = .ok (.ifCond .eq 23, 3) := by decide +kernel
theorem dX7_answer_35 : decode cX7_answer 35 = .ok (.aload_n 0, 1) := by decide +kernel
theorem dX7_answer_36 : decode cX7_answer 36 = .ok (.getfield 24, 3) := by decide +kernel
theorem dX7_answer_39 : decode cX7_answer 39 = .ok (.aload_n 0, 1) := by decide +kernel
theorem dX7_answer_40 : decode cX7_answer 40 = .ok (.getfield 10, 3) := by decide +kernel
theorem dX7_answer_43 : decode cX7_answer 43 = .ok (.getfield 90, 3) := by decide +kernel
theorem dX7_answer_46 : decode cX7_answer 46 = .ok (.getfield 81, 3) := by decide +kernel
theorem dX7_answer_49 : decode cX7_answer 49 = .ok (.invokevirtual 86, 3) := by decide +kernel
theorem dX7_answer_52 : decode cX7_answer 52 = .ok (.ifCond .ne 5, 3) := by decide +kernel
theorem dX7_answer_55 : decode cX7_answer 55 = .ok (.iconst (-1), 1) := by decide +kernel
theorem dX7_answer_56 : decode cX7_answer 56 = .ok (.ireturn, 1) := by decide +kernel
theorem dX7_answer_57 : decode cX7_answer 57 = .ok (.aload_n 0, 1) := by decide +kernel
theorem dX7_answer_58 : decode cX7_answer 58 = .ok (.getfield 24, 3) := by decide +kernel
theorem dX7_answer_61 : decode cX7_answer 61 = .ok (.getfield 93, 3) := by decide +kernel
theorem dX7_answer_64 : decode cX7_answer 64 = .ok (.aload_n 0, 1) := by decide +kernel
theorem dX7_answer_65 : decode cX7_answer 65 = .ok (.getfield 10, 3) := by decide +kernel
theorem dX7_answer_68 : decode cX7_answer 68 = .ok (.getfield 90, 3) := by decide +kernel
theorem dX7_answer_71 : decode cX7_answer 71 = .ok (.getfield 81, 3) := by decide +kernel
theorem dX7_answer_74 : decode cX7_answer 74 = .ok (.aaload, 1) := by decide +kernel
theorem dX7_answer_75 : decode cX7_answer 75 = .ok (.astore_n 1, 1) := by decide +kernel
theorem dX7_answer_76 : decode cX7_answer 76 = .ok (.aload_n 0, 1) := by decide +kernel
theorem dX7_answer_77 : decode cX7_answer 77 = .ok (.getfield 24, 3) := by decide +kernel
theorem dX7_answer_80 : decode cX7_answer 80 = .ok (.getfield 93, 3) := by decide +kernel
theorem dX7_answer_83 : decode cX7_answer 83 = .ok (.aload_n 0, 1) := by decide +kernel
theorem dX7_answer_84 : decode cX7_answer 84 = .ok (.getfield 10, 3) := by decide +kernel
theorem dX7_answer_87 : decode cX7_answer 87 = .ok (.getfield 77, 3) := by decide +kernel
theorem dX7_answer_90 : decode cX7_answer 90 = .ok (.getfield 81, 3) := by decide +kernel
theorem dX7_answer_93 : decode cX7_answer 93 = .ok (.aaload, 1) := by decide +kernel
theorem dX7_answer_94 : decode cX7_answer 94 = .ok (.invokevirtual 97, 3) := by decide +kernel
theorem dX7_answer_97 : decode cX7_answer 97 = .ok (.ifCond .eq 11, 3) := by decide +kernel
theorem dX7_answer_100 : decode cX7_answer 100 = .ok (.aload_n 1, 1) := by decide +kernel
theorem dX7_answer_101 : decode cX7_answer 101 = .ok (.getfield 102, 3) := by decide +kernel
theorem dX7_answer_104 : decode cX7_answer 104 = .ok (.iconst 1, 1) := by decide +kernel
theorem dX7_answer_105 : decode cX7_answer 105 = .ok (.if_icmp .eq 6, 3) := by decide +kernel
theorem dX7_answer_108 : decode cX7_answer 108 = .ok (.bipush (-5), 2) := by decide +kernel
theorem dX7_answer_110 : decode cX7_answer 110 = .ok (.ireturn, 1) := by decide +kernel
theorem dX7_answer_111 : decode cX7_answer 111 = .ok (.aload_n 0, 1) := by decide +kernel
theorem dX7_answer_112 : decode cX7_answer 112 = .ok (.invokevirtual 50, 3) := by decide +kernel
theorem dX7_answer_115 : decode cX7_answer 115 = .ok (.aload_n 0, 1) := by decide +kernel
theorem dX7_answer_116 : decode cX7_answer 116 = .ok (.getfield 20, 3) := by decide +kernel
theorem dX7_answer_119 : decode cX7_answer 119 = .ok (.iconst 0, 1) := by decide +kernel
theorem dX7_answer_120 : decode cX7_answer 120 = .ok (.putfield 64, 3) := by decide +kernel
theorem dX7_answer_123 : decode cX7_answer 123 = .ok (.aload_n 0, 1) := by decide +kernel
theorem dX7_answer_124 : decode cX7_answer 124 = .ok (.getfield 24, 3) := by decide +kernel
theorem dX7_answer_127 : decode cX7_answer 127 = .ok (.aload_n 0, 1) := by decide +kernel
theorem dX7_answer_128 : decode cX7_answer 128 = .ok (.getfield 10, 3) := by decide +kernel
theorem dX7_answer_131 : decode cX7_answer 131 = .ok (.invokevirtual 105, 3) := by decide +kernel
theorem dX7_answer_134 : decode cX7_answer 134 = .ok (.aload_n 1, 1) := by decide +kernel
theorem dX7_answer_135 : decode cX7_answer 135 = .ok (.getfield 102, 3) := by decide +kernel
theorem dX7_answer_138 : decode cX7_answer 138 = .ok (.ireturn, 1) := by decide +kernel
theorem dX7_bend_0 : decode cX7_bend 0 = .ok (.aload_n 0, 1) := by decide +kernel
theorem dX7_bend_1 : decode cX7_bend 1 = .ok (.getfield 24, 3) := by decide +kernel
theorem dX7_bend_4 : decode cX7_bend 4 = .ok (.iload_n 1, 1) := by decide +kernel
theorem dX7_bend_5 : decode cX7_bend 5 = .ok (.invokevirtual 86, 3) := by decide +kernel
theorem dX7_bend_8 : decode cX7_bend 8 = .ok (.ifCond .ne 5, 3) := by decide +kernel
theorem dX7_bend_11 : decode cX7_bend 11 = .ok (.iconst (-1), 1) := by decide +kernel
theorem dX7_bend_12 : decode cX7_bend 12 = .ok (.ireturn, 1) := by decide +kernel
theorem dX7_bend_13 : decode cX7_bend 13 = .ok (.iload_n 2, 1) := by decide +kernel
theorem dX7_bend_14 : decode cX7_bend 14 = .ok (.iconst 0, 1) := by decide +kernel
theorem dX7_bend_15 : decode cX7_bend 15 = .ok (.bipush 9, 2) := by decide +kernel
theorem dX7_bend_17 : decode cX7_bend 17 = .ok (.invokestatic 39, 3) := by decide +kernel
theorem dX7_bend_20 : decode cX7_bend 20 = .ok (.ifCond .ne 6, 3) := by decide +kernel
theorem dX7_bend_23 : decode cX7_bend 23 = .ok (.bipush (-2), 2) := by decide +kernel
theorem dX7_bend_25 : decode cX7_bend 25 = .ok (.ireturn, 1) := by decide +kernel
theorem dX7_bend_26 : decode cX7_bend 26 = .ok (.aload_n 0, 1) := by decide +kernel
theorem dX7_bend_27 : decode cX7_bend 27 = .ok (.getfield 24, 3) := by decide +kernel
theorem dX7_bend_30 : decode cX7_bend 30 = .ok (.getfield 93, 3) := by decide +kernel
theorem dX7_bend_33 : decode cX7_bend 33 = .ok (.iload_n 1, 1) := by decide +kernel
theorem dX7_bend_34 : decode cX7_bend 34 = .ok (.aaload, 1) := by decide +kernel
theorem dX7_bend_35 : decode cX7_bend 35 = .ok (.getfield 102, 3) := by decide +kernel
theorem dX7_bend_38 : decode cX7_bend 38 = .ok (.istore_n 3, 1) := by decide +kernel
theorem dX7_bend_39 : decode cX7_bend 39 = .ok (.iload_n 3, 1) := by decide +kernel
theorem dX7_bend_40 : decode cX7_bend 40 = .ok (.ifCond .ne 6, 3) := by decide +kernel
theorem dX7_bend_43 : decode cX7_bend 43 = .ok (.bipush (-5), 2) := by decide +kernel
theorem dX7_bend_45 : decode cX7_bend 45 = .ok (.ireturn, 1) := by decide +kernel
theorem dX7_bend_46 : decode cX7_bend 46 = .ok (.aload_n 0, 1) := by decide +kernel
theorem dX7_bend_47 : decode cX7_bend 47 = .ok (.invokevirtual 50, 3) := by decide +kernel
theorem dX7_bend_50 : decode cX7_bend 50 = .ok (.aload_n 0, 1) := by decide +kernel
theorem dX7_bend_51 : decode cX7_bend 51 = .ok (.getfield 24, 3) := by decide +kernel
theorem dX7_bend_54 : decode cX7_bend 54 = .ok (.getfield 93, 3) := by decide +kernel
theorem dX7_bend_57 : decode cX7_bend 57 = .ok (.iload_n 1, 1) := by decide +kernel
theorem dX7_bend_58 : decode cX7_bend 58 = .ok (.aaload, 1) := by decide +kernel
theorem dX7_bend_59 : decode cX7_bend 59 = .ok (.iconst 1, 1) := by decide +kernel
theorem dX7_bend_60 : decode cX7_bend 60 = .ok (.iload_n 2, 1) := by decide +kernel
theorem dX7_bend_61 : decode cX7_bend 61 = .ok (.iconst 0, 1) := by decide +kernel
theorem dX7_bend_62 : decode cX7_bend 62 = .ok (.invokevirtual 109, 3) := by decide +kernel
theorem dX7_bend_65 : decode cX7_bend 65 = .ok (.aload_n 0, 1) := by decide +kernel
theorem dX7_bend_66 : decode cX7_bend 66 = .ok (.getfield 24, 3) := by decide +kernel
theorem dX7_bend_69 : decode cX7_bend 69 = .ok (.getfield 113, 3) := by decide +kernel
theorem dX7_bend_72 : decode cX7_bend 72 = .ok (.iload_n 1, 1) := by decide +kernel
theorem dX7_bend_73 : decode cX7_bend 73 = .ok (.invokevirtual 117, 3) := by decide +kernel
theorem dX7_bend_76 : decode cX7_bend 76 = .ok (.iload_n 3, 1) := by decide +kernel
theorem dX7_bend_77 : decode cX7_bend 77 = .ok (.ireturn, 1) := by decide +kernel
theorem dX7_drop_0 : decode cX7_drop 0 = .ok (.aload_n 0, 1) := by decide +kernel
theorem dX7_drop_1 : decode cX7_drop 1 = .ok (.getfield 24, 3) := by decide +kernel
theorem dX7_drop_4 : decode cX7_drop 4 = .ok (.iload_n 1, 1) := by decide +kernel
theorem dX7_drop_5 : decode cX7_drop 5 = .ok (.invokevirtual 86, 3) := by decide +kernel
theorem dX7_drop_8 : decode cX7_drop 8 = .ok (.ifCond .ne 5, 3) := by decide +kernel
theorem dX7_drop_11 : decode cX7_drop 11 = .ok (.iconst (-1), 1) := by decide +kernel
theorem dX7_drop_12 : decode cX7_drop 12 = .ok (.ireturn, 1) := by decide +kernel
theorem dX7_drop_13 : decode cX7_drop 13 = .ok (.aload_n 0, 1) := by decide +kernel
theorem dX7_drop_14 : decode cX7_drop 14 = .ok (.invokevirtual 50, 3) := by decide +kernel
theorem dX7_drop_17 : decode cX7_drop 17 = .ok (.aload_n 0, 1) := by decide +kernel
theorem dX7_drop_18 : decode cX7_drop 18 = .ok (.getfield 24, 3) := by decide +kernel
theorem dX7_drop_21 : decode cX7_drop 21 = .ok (.getfield 93, 3) := by decide +kernel
theorem dX7_drop_24 : decode cX7_drop 24 = .ok (.iload_n 1, 1) := by decide +kernel
theorem dX7_drop_25 : decode cX7_drop 25 = .ok (.aaload, 1) := by decide +kernel
theorem dX7_drop_26 : decode cX7_drop 26 = .ok (.getfield 102, 3) := by decide +kernel
theorem dX7_drop_29 : decode cX7_drop 29 = .ok (.istore_n 2, 1) := by decide +kernel
theorem dX7_drop_30 : decode cX7_drop 30 = .ok (.aload_n 0, 1) := by decide +kernel
theorem dX7_drop_31 : decode cX7_drop 31 = .ok (.getfield 24, 3) := by decide +kernel
theorem dX7_drop_34 : decode cX7_drop 34 = .ok (.iload_n 1, 1) := by decide +kernel
theorem dX7_drop_35 : decode cX7_drop 35 = .ok (.invokevirtual 123, 3) := by decide +kernel
theorem dX7_drop_38 : decode cX7_drop 38 = .ok (.iload_n 2, 1) := by decide +kernel
theorem dX7_drop_39 : decode cX7_drop 39 = .ok (.ireturn, 1) := by decide +kernel
theorem dX7_trust_0 : decode cX7_trust 0 = .ok (.iload_n 1, 1) := by decide +kernel
theorem dX7_trust_1 : decode cX7_trust 1 = .ok (.invokestatic 126, 3) := by decide +kernel
theorem dX7_trust_4 : decode cX7_trust 4 = .ok (.ifCond .ne 5, 3) := by decide +kernel
theorem dX7_trust_7 : decode cX7_trust 7 = .ok (.iconst (-1), 1) := by decide +kernel
theorem dX7_trust_8 : decode cX7_trust 8 = .ok (.ireturn, 1) := by decide +kernel
theorem dX7_trust_9 : decode cX7_trust 9 = .ok (.iload_n 2, 1) := by decide +kernel
theorem dX7_trust_10 : decode cX7_trust 10 = .ok (.iconst 0, 1) := by decide +kernel
theorem dX7_trust_11 : decode cX7_trust 11 = .ok (.bipush 100, 2) := by decide +kernel
theorem dX7_trust_13 : decode cX7_trust 13 = .ok (.invokestatic 39, 3) := by decide +kernel
theorem dX7_trust_16 : decode cX7_trust 16 = .ok (.ifCond .ne 6, 3) := by decide +kernel
theorem dX7_trust_19 : decode cX7_trust 19 = .ok (.bipush (-2), 2) := by decide +kernel
theorem dX7_trust_21 : decode cX7_trust 21 = .ok (.ireturn, 1) := by decide +kernel
theorem dX7_trust_22 : decode cX7_trust 22 = .ok (.aload_n 0, 1) := by decide +kernel
theorem dX7_trust_23 : decode cX7_trust 23 = .ok (.invokevirtual 50, 3) := by decide +kernel
theorem dX7_trust_26 : decode cX7_trust 26 = .ok (.aload_n 0, 1) := by decide +kernel
theorem dX7_trust_27 : decode cX7_trust 27 = .ok (.getfield 24, 3) := by decide +kernel
theorem dX7_trust_30 : decode cX7_trust 30 = .ok (.getfield 129, 3) := by decide +kernel
theorem dX7_trust_33 : decode cX7_trust 33 = .ok (.iload_n 1, 1) := by decide +kernel
theorem dX7_trust_34 : decode cX7_trust 34 = .ok (.aaload, 1) := by decide +kernel
theorem dX7_trust_35 : decode cX7_trust 35 = .ok (.getfield 133, 3) := by decide +kernel
theorem dX7_trust_38 : decode cX7_trust 38 = .ok (.istore_n 3, 1) := by decide +kernel
theorem dX7_trust_39 : decode cX7_trust 39 = .ok (.aload_n 0, 1) := by decide +kernel
theorem dX7_trust_40 : decode cX7_trust 40 = .ok (.getfield 24, 3) := by decide +kernel
theorem dX7_trust_43 : decode cX7_trust 43 = .ok (.getfield 129, 3) := by decide +kernel
theorem dX7_trust_46 : decode cX7_trust 46 = .ok (.iload_n 1, 1) := by decide +kernel
theorem dX7_trust_47 : decode cX7_trust 47 = .ok (.aaload, 1) := by decide +kernel
theorem dX7_trust_48 : decode cX7_trust 48 = .ok (.iload_n 2, 1) := by decide +kernel
theorem dX7_trust_49 : decode cX7_trust 49 = .ok (.putfield 133, 3) := by decide +kernel
theorem dX7_trust_52 : decode cX7_trust 52 = .ok (.iload_n 3, 1) := by decide +kernel
theorem dX7_trust_53 : decode cX7_trust 53 = .ok (.ireturn, 1) := by decide +kernel
theorem dX7_word_0 : decode cX7_word 0 = .ok (.aload_n 0, 1) := by decide +kernel
theorem dX7_word_1 : decode cX7_word 1 = .ok (.getfield 24, 3) := by decide +kernel
theorem dX7_word_4 : decode cX7_word 4 = .ok (.iload_n 1, 1) := by decide +kernel
theorem dX7_word_5 : decode cX7_word 5 = .ok (.invokevirtual 86, 3) := by decide +kernel
theorem dX7_word_8 : decode cX7_word 8 = .ok (.ifCond .ne 5, 3) := by decide +kernel
theorem dX7_word_11 : decode cX7_word 11 = .ok (.iconst (-1), 1) := by decide +kernel
theorem dX7_word_12 : decode cX7_word 12 = .ok (.ireturn, 1) := by decide +kernel
theorem dX7_word_13 : decode cX7_word 13 = .ok (.iload_n 2, 1) := by decide +kernel
theorem dX7_word_14 : decode cX7_word 14 = .ok (.ifCond .ge 6, 3) := by decide +kernel
theorem dX7_word_17 : decode cX7_word 17 = .ok (.bipush (-2), 2) := by decide +kernel
theorem dX7_word_19 : decode cX7_word 19 = .ok (.ireturn, 1) := by decide +kernel
theorem dX7_word_20 : decode cX7_word 20 = .ok (.aload_n 0, 1) := by decide +kernel
theorem dX7_word_21 : decode cX7_word 21 = .ok (.getfield 24, 3) := by decide +kernel
theorem dX7_word_24 : decode cX7_word 24 = .ok (.getfield 93, 3) := by decide +kernel
theorem dX7_word_27 : decode cX7_word 27 = .ok (.iload_n 1, 1) := by decide +kernel
theorem dX7_word_28 : decode cX7_word 28 = .ok (.aaload, 1) := by decide +kernel
theorem dX7_word_29 : decode cX7_word 29 = .ok (.astore_n 3, 1) := by decide +kernel
theorem dX7_word_30 : decode cX7_word 30 = .ok (.iload_n 2, 1) := by decide +kernel
theorem dX7_word_31 : decode cX7_word 31 = .ok (.tableswitch 113 0 7 #[45, 50, 55, 60, 72, 84, 96, 108], 45) := by decide +kernel
theorem dX7_word_76 : decode cX7_word 76 = .ok (.aload_n 3, 1) := by decide +kernel
theorem dX7_word_77 : decode cX7_word 77 = .ok (.getfield 102, 3) := by decide +kernel
theorem dX7_word_80 : decode cX7_word 80 = .ok (.ireturn, 1) := by decide +kernel
theorem dX7_word_81 : decode cX7_word 81 = .ok (.aload_n 3, 1) := by decide +kernel
theorem dX7_word_82 : decode cX7_word 82 = .ok (.getfield 138, 3) := by decide +kernel
theorem dX7_word_85 : decode cX7_word 85 = .ok (.ireturn, 1) := by decide +kernel
theorem dX7_word_86 : decode cX7_word 86 = .ok (.aload_n 3, 1) := by decide +kernel
theorem dX7_word_87 : decode cX7_word 87 = .ok (.getfield 141, 3) := by decide +kernel
theorem dX7_word_90 : decode cX7_word 90 = .ok (.ireturn, 1) := by decide +kernel
theorem dX7_word_91 : decode cX7_word 91 = .ok (.aload_n 0, 1) := by decide +kernel
theorem dX7_word_92 : decode cX7_word 92 = .ok (.getfield 24, 3) := by decide +kernel
theorem dX7_word_95 : decode cX7_word 95 = .ok (.getfield 113, 3) := by decide +kernel
theorem dX7_word_98 : decode cX7_word 98 = .ok (.iload_n 1, 1) := by decide +kernel
theorem dX7_word_99 : decode cX7_word 99 = .ok (.invokevirtual 144, 3) := by decide +kernel
theorem dX7_word_102 : decode cX7_word 102 = .ok (.ireturn, 1) := by decide +kernel
theorem dX7_word_103 : decode cX7_word 103 = .ok (.aload_n 0, 1) := by decide +kernel
theorem dX7_word_104 : decode cX7_word 104 = .ok (.getfield 24, 3) := by decide +kernel
theorem dX7_word_107 : decode cX7_word 107 = .ok (.getfield 113, 3) := by decide +kernel
theorem dX7_word_110 : decode cX7_word 110 = .ok (.iload_n 1, 1) := by decide +kernel
theorem dX7_word_111 : decode cX7_word 111 = .ok (.invokevirtual 148, 3) := by decide +kernel
theorem dX7_word_114 : decode cX7_word 114 = .ok (.ireturn, 1) := by decide +kernel
theorem dX7_word_115 : decode cX7_word 115 = .ok (.aload_n 0, 1) := by decide +kernel
theorem dX7_word_116 : decode cX7_word 116 = .ok (.getfield 24, 3) := by decide +kernel
theorem dX7_word_119 : decode cX7_word 119 = .ok (.getfield 113, 3) := by decide +kernel
theorem dX7_word_122 : decode cX7_word 122 = .ok (.iload_n 1, 1) := by decide +kernel
theorem dX7_word_123 : decode cX7_word 123 = .ok (.invokevirtual 151, 3) := by decide +kernel
theorem dX7_word_126 : decode cX7_word 126 = .ok (.ireturn, 1) := by decide +kernel
theorem dX7_word_127 : decode cX7_word 127 = .ok (.aload_n 3, 1) := by decide +kernel
theorem dX7_word_128 : decode cX7_word 128 = .ok (.getfield 154, 3) := by decide +kernel
theorem dX7_word_131 : decode cX7_word 131 = .ok (.aload_n 3, 1) := by decide +kernel
theorem dX7_word_132 : decode cX7_word 132 = .ok (.getfield 141, 3) := by decide +kernel
theorem dX7_word_135 : decode cX7_word 135 = .ok (.invokestatic 157, 3) := by decide +kernel
theorem dX7_word_138 : decode cX7_word 138 = .ok (.ireturn, 1) := by decide +kernel
theorem dX7_word_139 : decode cX7_word 139 = .ok (.aload_n 3, 1) := by decide +kernel
theorem dX7_word_140 : decode cX7_word 140 = .ok (.getfield 161, 3) := by decide +kernel
theorem dX7_word_143 : decode cX7_word 143 = .ok (.ireturn, 1) := by decide +kernel
theorem dX7_word_144 : decode cX7_word 144 = .ok (.aload_n 3, 1) := by decide +kernel
theorem dX7_word_145 : decode cX7_word 145 = .ok (.getfield 164, 3) := by decide +kernel
theorem dX7_word_148 : decode cX7_word 148 = .ok (.iload_n 2, 1) := by decide +kernel
theorem dX7_word_149 : decode cX7_word 149 = .ok (.bipush 8, 2) := by decide +kernel
theorem dX7_word_151 : decode cX7_word 151 = .ok (.isub, 1) := by decide +kernel
theorem dX7_word_152 : decode cX7_word 152 = .ok (.invokestatic 167, 3) := by decide +kernel
theorem dX7_word_155 : decode cX7_word 155 = .ok (.ireturn, 1) := by decide +kernel
theorem dX7_vote_0 : decode cX7_vote 0 = .ok (.aload_n 0, 1) := by decide +kernel
theorem dX7_vote_1 : decode cX7_vote 1 = .ok (.getfield 24, 3) := by decide +kernel
theorem dX7_vote_4 : decode cX7_vote 4 = .ok (.iload_n 1, 1) := by decide +kernel
theorem dX7_vote_5 : decode cX7_vote 5 = .ok (.invokevirtual 86, 3) := by decide +kernel
theorem dX7_vote_8 : decode cX7_vote 8 = .ok (.ifCond .ne 5, 3) := by decide +kernel
theorem dX7_vote_11 : decode cX7_vote 11 = .ok (.iconst (-1), 1) := by decide +kernel
theorem dX7_vote_12 : decode cX7_vote 12 = .ok (.ireturn, 1) := by decide +kernel
theorem dX7_vote_13 : decode cX7_vote 13 = .ok (.aload_n 0, 1) := by decide +kernel
theorem dX7_vote_14 : decode cX7_vote 14 = .ok (.getfield 24, 3) := by decide +kernel
theorem dX7_vote_17 : decode cX7_vote 17 = .ok (.getfield 113, 3) := by decide +kernel
theorem dX7_vote_20 : decode cX7_vote 20 = .ok (.iload_n 1, 1) := by decide +kernel
theorem dX7_vote_21 : decode cX7_vote 21 = .ok (.iload_n 2, 1) := by decide +kernel
theorem dX7_vote_22 : decode cX7_vote 22 = .ok (.invokevirtual 170, 3) := by decide +kernel
theorem dX7_vote_25 : decode cX7_vote 25 = .ok (.istore 4, 2) := by decide +kernel
theorem dX7_vote_27 : decode cX7_vote 27 = .ok (.iload 4, 2) := by decide +kernel
theorem dX7_vote_29 : decode cX7_vote 29 = .ok (.iconst (-1), 1) := by decide +kernel
theorem dX7_vote_30 : decode cX7_vote 30 = .ok (.if_icmp .ne 5, 3) := by decide +kernel
theorem dX7_vote_33 : decode cX7_vote 33 = .ok (.iconst (-1), 1) := by decide +kernel
theorem dX7_vote_34 : decode cX7_vote 34 = .ok (.ireturn, 1) := by decide +kernel
theorem dX7_vote_35 : decode cX7_vote 35 = .ok (.iload_n 3, 1) := by decide +kernel
theorem dX7_vote_36 : decode cX7_vote 36 = .ok (.ifCond .ge 6, 3) := by decide +kernel
theorem dX7_vote_39 : decode cX7_vote 39 = .ok (.bipush (-2), 2) := by decide +kernel
theorem dX7_vote_41 : decode cX7_vote 41 = .ok (.ireturn, 1) := by decide +kernel
theorem dX7_vote_42 : decode cX7_vote 42 = .ok (.iload_n 3, 1) := by decide +kernel
theorem dX7_vote_43 : decode cX7_vote 43 = .ok (.tableswitch 66 0 2 #[25, 39, 53], 25) := by decide +kernel
theorem dX7_vote_68 : decode cX7_vote 68 = .ok (.aload_n 0, 1) := by decide +kernel
theorem dX7_vote_69 : decode cX7_vote 69 = .ok (.getfield 24, 3) := by decide +kernel
theorem dX7_vote_72 : decode cX7_vote 72 = .ok (.getfield 113, 3) := by decide +kernel
theorem dX7_vote_75 : decode cX7_vote 75 = .ok (.getfield 173, 3) := by decide +kernel
theorem dX7_vote_78 : decode cX7_vote 78 = .ok (.iload 4, 2) := by decide +kernel
theorem dX7_vote_80 : decode cX7_vote 80 = .ok (.iaload, 1) := by decide +kernel
theorem dX7_vote_81 : decode cX7_vote 81 = .ok (.ireturn, 1) := by decide +kernel
theorem dX7_vote_82 : decode cX7_vote 82 = .ok (.aload_n 0, 1) := by decide +kernel
theorem dX7_vote_83 : decode cX7_vote 83 = .ok (.getfield 24, 3) := by decide +kernel
theorem dX7_vote_86 : decode cX7_vote 86 = .ok (.getfield 113, 3) := by decide +kernel
theorem dX7_vote_89 : decode cX7_vote 89 = .ok (.getfield 175, 3) := by decide +kernel
theorem dX7_vote_92 : decode cX7_vote 92 = .ok (.iload 4, 2) := by decide +kernel
theorem dX7_vote_94 : decode cX7_vote 94 = .ok (.iaload, 1) := by decide +kernel
theorem dX7_vote_95 : decode cX7_vote 95 = .ok (.ireturn, 1) := by decide +kernel
theorem dX7_vote_96 : decode cX7_vote 96 = .ok (.aload_n 0, 1) := by decide +kernel
theorem dX7_vote_97 : decode cX7_vote 97 = .ok (.getfield 24, 3) := by decide +kernel
theorem dX7_vote_100 : decode cX7_vote 100 = .ok (.getfield 113, 3) := by decide +kernel
theorem dX7_vote_103 : decode cX7_vote 103 = .ok (.iload 4, 2) := by decide +kernel
theorem dX7_vote_105 : decode cX7_vote 105 = .ok (.invokevirtual 178, 3) := by decide +kernel
theorem dX7_vote_108 : decode cX7_vote 108 = .ok (.ireturn, 1) := by decide +kernel
theorem dX7_vote_109 : decode cX7_vote 109 = .ok (.aload_n 0, 1) := by decide +kernel
theorem dX7_vote_110 : decode cX7_vote 110 = .ok (.getfield 24, 3) := by decide +kernel
theorem dX7_vote_113 : decode cX7_vote 113 = .ok (.getfield 113, 3) := by decide +kernel
theorem dX7_vote_116 : decode cX7_vote 116 = .ok (.getfield 181, 3) := by decide +kernel
theorem dX7_vote_119 : decode cX7_vote 119 = .ok (.iload 4, 2) := by decide +kernel
theorem dX7_vote_121 : decode cX7_vote 121 = .ok (.iaload, 1) := by decide +kernel
theorem dX7_vote_122 : decode cX7_vote 122 = .ok (.iload_n 3, 1) := by decide +kernel
theorem dX7_vote_123 : decode cX7_vote 123 = .ok (.iconst 3, 1) := by decide +kernel
theorem dX7_vote_124 : decode cX7_vote 124 = .ok (.isub, 1) := by decide +kernel
theorem dX7_vote_125 : decode cX7_vote 125 = .ok (.invokestatic 167, 3) := by decide +kernel
theorem dX7_vote_128 : decode cX7_vote 128 = .ok (.ireturn, 1) := by decide +kernel
theorem dX7_solver_0 : decode cX7_solver 0 = .ok (.iload_n 1, 1) := by decide +kernel
theorem dX7_solver_1 : decode cX7_solver 1 = .ok (.invokestatic 126, 3) := by decide +kernel
theorem dX7_solver_4 : decode cX7_solver 4 = .ok (.ifCond .ne 5, 3) := by decide +kernel
theorem dX7_solver_7 : decode cX7_solver 7 = .ok (.iconst (-1), 1) := by decide +kernel
theorem dX7_solver_8 : decode cX7_solver 8 = .ok (.ireturn, 1) := by decide +kernel
theorem dX7_solver_9 : decode cX7_solver 9 = .ok (.aload_n 0, 1) := by decide +kernel
theorem dX7_solver_10 : decode cX7_solver 10 = .ok (.getfield 24, 3) := by decide +kernel
theorem dX7_solver_13 : decode cX7_solver 13 = .ok (.getfield 129, 3) := by decide +kernel
theorem dX7_solver_16 : decode cX7_solver 16 = .ok (.iload_n 1, 1) := by decide +kernel
theorem dX7_solver_17 : decode cX7_solver 17 = .ok (.aaload, 1) := by decide +kernel
theorem dX7_solver_18 : decode cX7_solver 18 = .ok (.astore_n 3, 1) := by decide +kernel
theorem dX7_solver_19 : decode cX7_solver 19 = .ok (.iload_n 2, 1) := by decide +kernel
theorem dX7_solver_20 : decode cX7_solver 20 = .ok (.tableswitch 72 0 4 #[36, 41, 46, 51, 60], 36) := by decide +kernel
theorem dX7_solver_56 : decode cX7_solver 56 = .ok (.aload_n 3, 1) := by decide +kernel
theorem dX7_solver_57 : decode cX7_solver 57 = .ok (.getfield 133, 3) := by decide +kernel
theorem dX7_solver_60 : decode cX7_solver 60 = .ok (.ireturn, 1) := by decide +kernel
theorem dX7_solver_61 : decode cX7_solver 61 = .ok (.aload_n 3, 1) := by decide +kernel
theorem dX7_solver_62 : decode cX7_solver 62 = .ok (.getfield 183, 3) := by decide +kernel
theorem dX7_solver_65 : decode cX7_solver 65 = .ok (.ireturn, 1) := by decide +kernel
theorem dX7_solver_66 : decode cX7_solver 66 = .ok (.aload_n 3, 1) := by decide +kernel
theorem dX7_solver_67 : decode cX7_solver 67 = .ok (.getfield 186, 3) := by decide +kernel
theorem dX7_solver_70 : decode cX7_solver 70 = .ok (.ireturn, 1) := by decide +kernel
theorem dX7_solver_71 : decode cX7_solver 71 = .ok (.aload_n 0, 1) := by decide +kernel
theorem dX7_solver_72 : decode cX7_solver 72 = .ok (.getfield 24, 3) := by decide +kernel
theorem dX7_solver_75 : decode cX7_solver 75 = .ok (.iload_n 1, 1) := by decide +kernel
theorem dX7_solver_76 : decode cX7_solver 76 = .ok (.invokevirtual 189, 3) := by decide +kernel
theorem dX7_solver_79 : decode cX7_solver 79 = .ok (.ireturn, 1) := by decide +kernel
theorem dX7_solver_80 : decode cX7_solver 80 = .ok (.aload_n 3, 1) := by decide +kernel
theorem dX7_solver_81 : decode cX7_solver 81 = .ok (.getfield 192, 3) := by decide +kernel
theorem dX7_solver_84 : decode cX7_solver 84 = .ok (.aload_n 3, 1) := by decide +kernel
theorem dX7_solver_85 : decode cX7_solver 85 = .ok (.getfield 183, 3) := by decide +kernel
theorem dX7_solver_88 : decode cX7_solver 88 = .ok (.invokestatic 157, 3) := by decide +kernel
theorem dX7_solver_91 : decode cX7_solver 91 = .ok (.ireturn, 1) := by decide +kernel
theorem dX7_solver_92 : decode cX7_solver 92 = .ok (.bipush (-2), 2) := by decide +kernel
theorem dX7_solver_94 : decode cX7_solver 94 = .ok (.ireturn, 1) := by decide +kernel
theorem dX7_count_0 : decode cX7_count 0 = .ok (.iload_n 1, 1) := by decide +kernel
theorem dX7_count_1 : decode cX7_count 1 = .ok (.iconst 0, 1) := by decide +kernel
theorem dX7_count_2 : decode cX7_count 2 = .ok (.iconst 5, 1) := by decide +kernel
theorem dX7_count_3 : decode cX7_count 3 = .ok (.invokestatic 39, 3) := by decide +kernel
theorem dX7_count_6 : decode cX7_count 6 = .ok (.ifCond .eq 13, 3) := by decide +kernel
theorem dX7_count_9 : decode cX7_count 9 = .ok (.aload_n 0, 1) := by decide +kernel
theorem dX7_count_10 : decode cX7_count 10 = .ok (.getfield 24, 3) := by decide +kernel
theorem dX7_count_13 : decode cX7_count 13 = .ok (.getfield 53, 3) := by decide +kernel
theorem dX7_count_16 : decode cX7_count 16 = .ok (.iload_n 1, 1) := by decide +kernel
theorem dX7_count_17 : decode cX7_count 17 = .ok (.iaload, 1) := by decide +kernel
theorem dX7_count_18 : decode cX7_count 18 = .ok (.ireturn, 1) := by decide +kernel
theorem dX7_count_19 : decode cX7_count 19 = .ok (.iload_n 1, 1) := by decide +kernel
theorem dX7_count_20 : decode cX7_count 20 = .ok (.bipush 7, 2) := by decide +kernel
theorem dX7_count_22 : decode cX7_count 22 = .ok (.bipush 10, 2) := by decide +kernel
theorem dX7_count_24 : decode cX7_count 24 = .ok (.invokestatic 39, 3) := by decide +kernel
theorem dX7_count_27 : decode cX7_count 27 = .ok (.ifCond .eq 15, 3) := by decide +kernel
theorem dX7_count_30 : decode cX7_count 30 = .ok (.aload_n 0, 1) := by decide +kernel
theorem dX7_count_31 : decode cX7_count 31 = .ok (.getfield 24, 3) := by decide +kernel
theorem dX7_count_34 : decode cX7_count 34 = .ok (.iload_n 1, 1) := by decide +kernel
theorem dX7_count_35 : decode cX7_count 35 = .ok (.bipush 7, 2) := by decide +kernel
theorem dX7_count_37 : decode cX7_count 37 = .ok (.isub, 1) := by decide +kernel
theorem dX7_count_38 : decode cX7_count 38 = .ok (.invokevirtual 193, 3) := by decide +kernel
theorem dX7_count_41 : decode cX7_count 41 = .ok (.ireturn, 1) := by decide +kernel
theorem dX7_count_42 : decode cX7_count 42 = .ok (.iload_n 1, 1) := by decide +kernel
theorem dX7_count_43 : decode cX7_count 43 = .ok (.tableswitch 122 6 17 #[61, 122, 122, 122, 122, 69, 77, 85, 93, 101, 109, 117], 61) := by decide +kernel
theorem dX7_count_104 : decode cX7_count 104 = .ok (.aload_n 0, 1) := by decide +kernel
theorem dX7_count_105 : decode cX7_count 105 = .ok (.getfield 24, 3) := by decide +kernel
theorem dX7_count_108 : decode cX7_count 108 = .ok (.getfield 196, 3) := by decide +kernel
theorem dX7_count_111 : decode cX7_count 111 = .ok (.ireturn, 1) := by decide +kernel
theorem dX7_count_112 : decode cX7_count 112 = .ok (.aload_n 0, 1) := by decide +kernel
theorem dX7_count_113 : decode cX7_count 113 = .ok (.getfield 24, 3) := by decide +kernel
theorem dX7_count_116 : decode cX7_count 116 = .ok (.invokevirtual 199, 3) := by decide +kernel
theorem dX7_count_119 : decode cX7_count 119 = .ok (.ireturn, 1) := by decide +kernel
theorem dX7_count_120 : decode cX7_count 120 = .ok (.aload_n 0, 1) := by decide +kernel
theorem dX7_count_121 : decode cX7_count 121 = .ok (.getfield 24, 3) := by decide +kernel
theorem dX7_count_124 : decode cX7_count 124 = .ok (.invokevirtual 202, 3) := by decide +kernel
theorem dX7_count_127 : decode cX7_count 127 = .ok (.ireturn, 1) := by decide +kernel
theorem dX7_count_128 : decode cX7_count 128 = .ok (.aload_n 0, 1) := by decide +kernel
theorem dX7_count_129 : decode cX7_count 129 = .ok (.getfield 24, 3) := by decide +kernel
theorem dX7_count_132 : decode cX7_count 132 = .ok (.getfield 205, 3) := by decide +kernel
theorem dX7_count_135 : decode cX7_count 135 = .ok (.ireturn, 1) := by decide +kernel
theorem dX7_count_136 : decode cX7_count 136 = .ok (.aload_n 0, 1) := by decide +kernel
theorem dX7_count_137 : decode cX7_count 137 = .ok (.getfield 24, 3) := by decide +kernel
theorem dX7_count_140 : decode cX7_count 140 = .ok (.getfield 208, 3) := by decide +kernel
theorem dX7_count_143 : decode cX7_count 143 = .ok (.ireturn, 1) := by decide +kernel
theorem dX7_count_144 : decode cX7_count 144 = .ok (.aload_n 0, 1) := by decide +kernel
theorem dX7_count_145 : decode cX7_count 145 = .ok (.getfield 24, 3) := by decide +kernel
theorem dX7_count_148 : decode cX7_count 148 = .ok (.invokevirtual 211, 3) := by decide +kernel
theorem dX7_count_151 : decode cX7_count 151 = .ok (.ireturn, 1) := by decide +kernel
theorem dX7_count_152 : decode cX7_count 152 = .ok (.aload_n 0, 1) := by decide +kernel
theorem dX7_count_153 : decode cX7_count 153 = .ok (.getfield 20, 3) := by decide +kernel
theorem dX7_count_156 : decode cX7_count 156 = .ok (.getfield 64, 3) := by decide +kernel
theorem dX7_count_159 : decode cX7_count 159 = .ok (.ireturn, 1) := by decide +kernel
theorem dX7_count_160 : decode cX7_count 160 = .ok (.aload_n 0, 1) := by decide +kernel
theorem dX7_count_161 : decode cX7_count 161 = .ok (.getfield 214, 3) := by decide +kernel
theorem dX7_count_164 : decode cX7_count 164 = .ok (.ireturn, 1) := by decide +kernel
theorem dX7_count_165 : decode cX7_count 165 = .ok (.bipush (-2), 2) := by decide +kernel
theorem dX7_count_167 : decode cX7_count 167 = .ok (.ireturn, 1) := by decide +kernel
theorem dX7_lacking_0 : decode cX7_lacking 0 = .ok (.aload_n 0, 1) := by decide +kernel
theorem dX7_lacking_1 : decode cX7_lacking 1 = .ok (.getfield 24, 3) := by decide +kernel
theorem dX7_lacking_4 : decode cX7_lacking 4 = .ok (.iload_n 1, 1) := by decide +kernel
theorem dX7_lacking_5 : decode cX7_lacking 5 = .ok (.invokevirtual 86, 3) := by decide +kernel
theorem dX7_lacking_8 : decode cX7_lacking 8 = .ok (.ifCond .ne 5, 3) := by decide +kernel
theorem dX7_lacking_11 : decode cX7_lacking 11 = .ok (.iconst (-1), 1) := by decide +kernel
theorem dX7_lacking_12 : decode cX7_lacking 12 = .ok (.ireturn, 1) := by decide +kernel
theorem dX7_lacking_13 : decode cX7_lacking 13 = .ok (.aload_n 0, 1) := by decide +kernel
theorem dX7_lacking_14 : decode cX7_lacking 14 = .ok (.getfield 24, 3) := by decide +kernel
theorem dX7_lacking_17 : decode cX7_lacking 17 = .ok (.getfield 93, 3) := by decide +kernel
theorem dX7_lacking_20 : decode cX7_lacking 20 = .ok (.iload_n 1, 1) := by decide +kernel
theorem dX7_lacking_21 : decode cX7_lacking 21 = .ok (.aaload, 1) := by decide +kernel
theorem dX7_lacking_22 : decode cX7_lacking 22 = .ok (.getfield 102, 3) := by decide +kernel
theorem dX7_lacking_25 : decode cX7_lacking 25 = .ok (.iconst 1, 1) := by decide +kernel
theorem dX7_lacking_26 : decode cX7_lacking 26 = .ok (.if_icmp .eq 6, 3) := by decide +kernel
theorem dX7_lacking_29 : decode cX7_lacking 29 = .ok (.bipush (-5), 2) := by decide +kernel
theorem dX7_lacking_31 : decode cX7_lacking 31 = .ok (.ireturn, 1) := by decide +kernel
theorem dX7_lacking_32 : decode cX7_lacking 32 = .ok (.aload_n 0, 1) := by decide +kernel
theorem dX7_lacking_33 : decode cX7_lacking 33 = .ok (.getfield 24, 3) := by decide +kernel
theorem dX7_lacking_36 : decode cX7_lacking 36 = .ok (.iload_n 1, 1) := by decide +kernel
theorem dX7_lacking_37 : decode cX7_lacking 37 = .ok (.invokevirtual 217, 3) := by decide +kernel
theorem dX7_lacking_40 : decode cX7_lacking 40 = .ok (.ireturn, 1) := by decide +kernel
theorem dX7_answersFor_0 : decode cX7_answersFor 0 = .ok (.iload_n 1, 1) := by decide +kernel
theorem dX7_answersFor_1 : decode cX7_answersFor 1 = .ok (.invokestatic 126, 3) := by decide +kernel
theorem dX7_answersFor_4 : decode cX7_answersFor 4 = .ok (.ifCond .eq 14, 3) := by decide +kernel
theorem dX7_answersFor_7 : decode cX7_answersFor 7 = .ok (.aload_n 0, 1) := by decide +kernel
theorem dX7_answersFor_8 : decode cX7_answersFor 8 = .ok (.getfield 24, 3) := by decide +kernel
theorem dX7_answersFor_11 : decode cX7_answersFor 11 = .ok (.iload_n 2, 1) := by decide +kernel
theorem dX7_answersFor_12 : decode cX7_answersFor 12 = .ok (.invokevirtual 86, 3) := by decide +kernel
theorem dX7_answersFor_15 : decode cX7_answersFor 15 = .ok (.ifCond .ne 5, 3) := by decide +kernel
theorem dX7_answersFor_18 : decode cX7_answersFor 18 = .ok (.iconst (-1), 1) := by decide +kernel
theorem dX7_answersFor_19 : decode cX7_answersFor 19 = .ok (.ireturn, 1) := by decide +kernel
theorem dX7_answersFor_20 : decode cX7_answersFor 20 = .ok (.aload_n 0, 1) := by decide +kernel
theorem dX7_answersFor_21 : decode cX7_answersFor 21 = .ok (.getfield 24, 3) := by decide +kernel
theorem dX7_answersFor_24 : decode cX7_answersFor 24 = .ok (.getfield 93, 3) := by decide +kernel
theorem dX7_answersFor_27 : decode cX7_answersFor 27 = .ok (.iload_n 2, 1) := by decide +kernel
theorem dX7_answersFor_28 : decode cX7_answersFor 28 = .ok (.aaload, 1) := by decide +kernel
theorem dX7_answersFor_29 : decode cX7_answersFor 29 = .ok (.getfield 102, 3) := by decide +kernel
theorem dX7_answersFor_32 : decode cX7_answersFor 32 = .ok (.iconst 1, 1) := by decide +kernel
theorem dX7_answersFor_33 : decode cX7_answersFor 33 = .ok (.if_icmp .eq 6, 3) := by decide +kernel
theorem dX7_answersFor_36 : decode cX7_answersFor 36 = .ok (.bipush (-5), 2) := by decide +kernel
theorem dX7_answersFor_38 : decode cX7_answersFor 38 = .ok (.ireturn, 1) := by decide +kernel
theorem dX7_answersFor_39 : decode cX7_answersFor 39 = .ok (.aload_n 0, 1) := by decide +kernel
theorem dX7_answersFor_40 : decode cX7_answersFor 40 = .ok (.getfield 24, 3) := by decide +kernel
theorem dX7_answersFor_43 : decode cX7_answersFor 43 = .ok (.iload_n 2, 1) := by decide +kernel
theorem dX7_answersFor_44 : decode cX7_answersFor 44 = .ok (.invokevirtual 217, 3) := by decide +kernel
theorem dX7_answersFor_47 : decode cX7_answersFor 47 = .ok (.istore_n 3, 1) := by decide +kernel
theorem dX7_answersFor_48 : decode cX7_answersFor 48 = .ok (.aload_n 0, 1) := by decide +kernel
theorem dX7_answersFor_49 : decode cX7_answersFor 49 = .ok (.getfield 24, 3) := by decide +kernel
theorem dX7_answersFor_52 : decode cX7_answersFor 52 = .ok (.getfield 129, 3) := by decide +kernel
theorem dX7_answersFor_55 : decode cX7_answersFor 55 = .ok (.iload_n 1, 1) := by decide +kernel
theorem dX7_answersFor_56 : decode cX7_answersFor 56 = .ok (.aaload, 1) := by decide +kernel
theorem dX7_answersFor_57 : decode cX7_answersFor 57 = .ok (.getfield 133, 3) := by decide +kernel
theorem dX7_answersFor_60 : decode cX7_answersFor 60 = .ok (.istore 4, 2) := by decide +kernel
theorem dX7_answersFor_62 : decode cX7_answersFor 62 = .ok (.iconst 1, 1) := by decide +kernel
theorem dX7_answersFor_63 : decode cX7_answersFor 63 = .ok (.istore 5, 2) := by decide +kernel
theorem dX7_answersFor_65 : decode cX7_answersFor 65 = .ok (.iload 5, 2) := by decide +kernel
theorem dX7_answersFor_67 : decode cX7_answersFor 67 = .ok (.bipush 100, 2) := by decide +kernel
theorem dX7_answersFor_69 : decode cX7_answersFor 69 = .ok (.if_icmp .gt 32, 3) := by decide +kernel
theorem dX7_answersFor_72 : decode cX7_answersFor 72 = .ok (.iload_n 3, 1) := by decide +kernel
theorem dX7_answersFor_73 : decode cX7_answersFor 73 = .ok (.iload 4, 2) := by decide +kernel
theorem dX7_answersFor_75 : decode cX7_answersFor 75 = .ok (.isub, 1) := by decide +kernel
theorem dX7_answersFor_76 : decode cX7_answersFor 76 = .ok (.istore_n 3, 1) := by decide +kernel
theorem dX7_answersFor_77 : decode cX7_answersFor 77 = .ok (.iload_n 3, 1) := by decide +kernel
theorem dX7_answersFor_78 : decode cX7_answersFor 78 = .ok (.ifCond .gt 6, 3) := by decide +kernel
theorem dX7_answersFor_81 : decode cX7_answersFor 81 = .ok (.iload 5, 2) := by decide +kernel
theorem dX7_answersFor_83 : decode cX7_answersFor 83 = .ok (.ireturn, 1) := by decide +kernel
theorem dX7_answersFor_84 : decode cX7_answersFor 84 = .ok (.aload_n 0, 1) := by decide +kernel
theorem dX7_answersFor_85 : decode cX7_answersFor 85 = .ok (.getfield 24, 3) := by decide +kernel
theorem dX7_answersFor_88 : decode cX7_answersFor 88 = .ok (.iload 4, 2) := by decide +kernel
theorem dX7_answersFor_90 : decode cX7_answersFor 90 = .ok (.invokevirtual 220, 3) := by decide +kernel
theorem dX7_answersFor_93 : decode cX7_answersFor 93 = .ok (.istore 4, 2) := by decide +kernel
theorem dX7_answersFor_95 : decode cX7_answersFor 95 = .ok (.iinc 5 1, 3) := by decide +kernel
theorem dX7_answersFor_98 : decode cX7_answersFor 98 = .ok (.goto (-33), 3) := by decide +kernel
theorem dX7_answersFor_101 : decode cX7_answersFor 101 = .ok (.bipush (-6), 2) := by decide +kernel
theorem dX7_answersFor_103 : decode cX7_answersFor 103 = .ok (.ireturn, 1) := by decide +kernel
theorem dX7_ifVoted_0 : decode cX7_ifVoted 0 = .ok (.iload_n 1, 1) := by decide +kernel
theorem dX7_ifVoted_1 : decode cX7_ifVoted 1 = .ok (.invokestatic 126, 3) := by decide +kernel
theorem dX7_ifVoted_4 : decode cX7_ifVoted 4 = .ok (.ifCond .eq 14, 3) := by decide +kernel
theorem dX7_ifVoted_7 : decode cX7_ifVoted 7 = .ok (.aload_n 0, 1) := by decide +kernel
theorem dX7_ifVoted_8 : decode cX7_ifVoted 8 = .ok (.getfield 24, 3) := by decide +kernel
theorem dX7_ifVoted_11 : decode cX7_ifVoted 11 = .ok (.iload_n 2, 1) := by decide +kernel
theorem dX7_ifVoted_12 : decode cX7_ifVoted 12 = .ok (.invokevirtual 86, 3) := by decide +kernel
theorem dX7_ifVoted_15 : decode cX7_ifVoted 15 = .ok (.ifCond .ne 5, 3) := by decide +kernel
theorem dX7_ifVoted_18 : decode cX7_ifVoted 18 = .ok (.iconst (-1), 1) := by decide +kernel
theorem dX7_ifVoted_19 : decode cX7_ifVoted 19 = .ok (.ireturn, 1) := by decide +kernel
theorem dX7_ifVoted_20 : decode cX7_ifVoted 20 = .ok (.iload_n 3, 1) := by decide +kernel
theorem dX7_ifVoted_21 : decode cX7_ifVoted 21 = .ok (.iconst 1, 1) := by decide +kernel
theorem dX7_ifVoted_22 : decode cX7_ifVoted 22 = .ok (.bipush 60, 2) := by decide +kernel
theorem dX7_ifVoted_24 : decode cX7_ifVoted 24 = .ok (.invokestatic 39, 3) := by decide +kernel
theorem dX7_ifVoted_27 : decode cX7_ifVoted 27 = .ok (.ifCond .ne 6, 3) := by decide +kernel
theorem dX7_ifVoted_30 : decode cX7_ifVoted 30 = .ok (.bipush (-2), 2) := by decide +kernel
theorem dX7_ifVoted_32 : decode cX7_ifVoted 32 = .ok (.ireturn, 1) := by decide +kernel
theorem dX7_ifVoted_33 : decode cX7_ifVoted 33 = .ok (.aload_n 0, 1) := by decide +kernel
theorem dX7_ifVoted_34 : decode cX7_ifVoted 34 = .ok (.getfield 24, 3) := by decide +kernel
theorem dX7_ifVoted_37 : decode cX7_ifVoted 37 = .ok (.getfield 93, 3) := by decide +kernel
theorem dX7_ifVoted_40 : decode cX7_ifVoted 40 = .ok (.iload_n 2, 1) := by decide +kernel
theorem dX7_ifVoted_41 : decode cX7_ifVoted 41 = .ok (.aaload, 1) := by decide +kernel
theorem dX7_ifVoted_42 : decode cX7_ifVoted 42 = .ok (.astore 4, 2) := by decide +kernel
theorem dX7_ifVoted_44 : decode cX7_ifVoted 44 = .ok (.aload 4, 2) := by decide +kernel
theorem dX7_ifVoted_46 : decode cX7_ifVoted 46 = .ok (.getfield 102, 3) := by decide +kernel
theorem dX7_ifVoted_49 : decode cX7_ifVoted 49 = .ok (.iconst 1, 1) := by decide +kernel
theorem dX7_ifVoted_50 : decode cX7_ifVoted 50 = .ok (.if_icmp .ne 11, 3) := by decide +kernel
theorem dX7_ifVoted_53 : decode cX7_ifVoted 53 = .ok (.aload 4, 2) := by decide +kernel
theorem dX7_ifVoted_55 : decode cX7_ifVoted 55 = .ok (.getfield 141, 3) := by decide +kernel
theorem dX7_ifVoted_58 : decode cX7_ifVoted 58 = .ok (.ifCond .ne 6, 3) := by decide +kernel
theorem dX7_ifVoted_61 : decode cX7_ifVoted 61 = .ok (.bipush (-5), 2) := by decide +kernel
theorem dX7_ifVoted_63 : decode cX7_ifVoted 63 = .ok (.ireturn, 1) := by decide +kernel
theorem dX7_ifVoted_64 : decode cX7_ifVoted 64 = .ok (.aload_n 0, 1) := by decide +kernel
theorem dX7_ifVoted_65 : decode cX7_ifVoted 65 = .ok (.getfield 24, 3) := by decide +kernel
theorem dX7_ifVoted_68 : decode cX7_ifVoted 68 = .ok (.iload_n 2, 1) := by decide +kernel
theorem dX7_ifVoted_69 : decode cX7_ifVoted 69 = .ok (.invokevirtual 217, 3) := by decide +kernel
theorem dX7_ifVoted_72 : decode cX7_ifVoted 72 = .ok (.aload_n 0, 1) := by decide +kernel
theorem dX7_ifVoted_73 : decode cX7_ifVoted 73 = .ok (.getfield 24, 3) := by decide +kernel
theorem dX7_ifVoted_76 : decode cX7_ifVoted 76 = .ok (.getfield 129, 3) := by decide +kernel
theorem dX7_ifVoted_79 : decode cX7_ifVoted 79 = .ok (.iload_n 1, 1) := by decide +kernel
theorem dX7_ifVoted_80 : decode cX7_ifVoted 80 = .ok (.aaload, 1) := by decide +kernel
theorem dX7_ifVoted_81 : decode cX7_ifVoted 81 = .ok (.getfield 133, 3) := by decide +kernel
theorem dX7_ifVoted_84 : decode cX7_ifVoted 84 = .ok (.if_icmp .le 5, 3) := by decide +kernel
theorem dX7_ifVoted_87 : decode cX7_ifVoted 87 = .ok (.iconst 1, 1) := by decide +kernel
theorem dX7_ifVoted_88 : decode cX7_ifVoted 88 = .ok (.ireturn, 1) := by decide +kernel
theorem dX7_ifVoted_89 : decode cX7_ifVoted 89 = .ok (.aload_n 0, 1) := by decide +kernel
theorem dX7_ifVoted_90 : decode cX7_ifVoted 90 = .ok (.getfield 24, 3) := by decide +kernel
theorem dX7_ifVoted_93 : decode cX7_ifVoted 93 = .ok (.aload 4, 2) := by decide +kernel
theorem dX7_ifVoted_95 : decode cX7_ifVoted 95 = .ok (.getfield 141, 3) := by decide +kernel
theorem dX7_ifVoted_98 : decode cX7_ifVoted 98 = .ok (.iconst 1, 1) := by decide +kernel
theorem dX7_ifVoted_99 : decode cX7_ifVoted 99 = .ok (.iadd, 1) := by decide +kernel
theorem dX7_ifVoted_100 : decode cX7_ifVoted 100 = .ok (.aload 4, 2) := by decide +kernel
theorem dX7_ifVoted_102 : decode cX7_ifVoted 102 = .ok (.getfield 154, 3) := by decide +kernel
theorem dX7_ifVoted_105 : decode cX7_ifVoted 105 = .ok (.iload_n 3, 1) := by decide +kernel
theorem dX7_ifVoted_106 : decode cX7_ifVoted 106 = .ok (.iadd, 1) := by decide +kernel
theorem dX7_ifVoted_107 : decode cX7_ifVoted 107 = .ok (.invokevirtual 223, 3) := by decide +kernel
theorem dX7_ifVoted_110 : decode cX7_ifVoted 110 = .ok (.ireturn, 1) := by decide +kernel
theorem dX7_mostMissed_0 : decode cX7_mostMissed 0 = .ok (.bipush (-6), 2) := by decide +kernel
theorem dX7_mostMissed_2 : decode cX7_mostMissed 2 = .ok (.istore_n 1, 1) := by decide +kernel
theorem dX7_mostMissed_3 : decode cX7_mostMissed 3 = .ok (.iconst 0, 1) := by decide +kernel
theorem dX7_mostMissed_4 : decode cX7_mostMissed 4 = .ok (.istore_n 2, 1) := by decide +kernel
theorem dX7_mostMissed_5 : decode cX7_mostMissed 5 = .ok (.iconst 0, 1) := by decide +kernel
theorem dX7_mostMissed_6 : decode cX7_mostMissed 6 = .ok (.istore_n 3, 1) := by decide +kernel
theorem dX7_mostMissed_7 : decode cX7_mostMissed 7 = .ok (.iload_n 3, 1) := by decide +kernel
theorem dX7_mostMissed_8 : decode cX7_mostMissed 8 = .ok (.aload_n 0, 1) := by decide +kernel
theorem dX7_mostMissed_9 : decode cX7_mostMissed 9 = .ok (.getfield 24, 3) := by decide +kernel
theorem dX7_mostMissed_12 : decode cX7_mostMissed 12 = .ok (.getfield 196, 3) := by decide +kernel
theorem dX7_mostMissed_15 : decode cX7_mostMissed 15 = .ok (.if_icmp .ge 55, 3) := by decide +kernel
theorem dX7_mostMissed_18 : decode cX7_mostMissed 18 = .ok (.aload_n 0, 1) := by decide +kernel
theorem dX7_mostMissed_19 : decode cX7_mostMissed 19 = .ok (.getfield 24, 3) := by decide +kernel
theorem dX7_mostMissed_22 : decode cX7_mostMissed 22 = .ok (.getfield 93, 3) := by decide +kernel
theorem dX7_mostMissed_25 : decode cX7_mostMissed 25 = .ok (.iload_n 3, 1) := by decide +kernel
theorem dX7_mostMissed_26 : decode cX7_mostMissed 26 = .ok (.aaload, 1) := by decide +kernel
theorem dX7_mostMissed_27 : decode cX7_mostMissed 27 = .ok (.invokevirtual 97, 3) := by decide +kernel
theorem dX7_mostMissed_30 : decode cX7_mostMissed 30 = .ok (.ifCond .eq 34, 3) := by decide +kernel
theorem dX7_mostMissed_33 : decode cX7_mostMissed 33 = .ok (.aload_n 0, 1) := by decide +kernel
theorem dX7_mostMissed_34 : decode cX7_mostMissed 34 = .ok (.getfield 24, 3) := by decide +kernel
theorem dX7_mostMissed_37 : decode cX7_mostMissed 37 = .ok (.getfield 93, 3) := by decide +kernel
theorem dX7_mostMissed_40 : decode cX7_mostMissed 40 = .ok (.iload_n 3, 1) := by decide +kernel
theorem dX7_mostMissed_41 : decode cX7_mostMissed 41 = .ok (.aaload, 1) := by decide +kernel
theorem dX7_mostMissed_42 : decode cX7_mostMissed 42 = .ok (.getfield 161, 3) := by decide +kernel
theorem dX7_mostMissed_45 : decode cX7_mostMissed 45 = .ok (.iload_n 2, 1) := by decide +kernel
theorem dX7_mostMissed_46 : decode cX7_mostMissed 46 = .ok (.if_icmp .le 18, 3) := by decide +kernel
theorem dX7_mostMissed_49 : decode cX7_mostMissed 49 = .ok (.iload_n 3, 1) := by decide +kernel
theorem dX7_mostMissed_50 : decode cX7_mostMissed 50 = .ok (.istore_n 1, 1) := by decide +kernel
theorem dX7_mostMissed_51 : decode cX7_mostMissed 51 = .ok (.aload_n 0, 1) := by decide +kernel
theorem dX7_mostMissed_52 : decode cX7_mostMissed 52 = .ok (.getfield 24, 3) := by decide +kernel
theorem dX7_mostMissed_55 : decode cX7_mostMissed 55 = .ok (.getfield 93, 3) := by decide +kernel
theorem dX7_mostMissed_58 : decode cX7_mostMissed 58 = .ok (.iload_n 3, 1) := by decide +kernel
theorem dX7_mostMissed_59 : decode cX7_mostMissed 59 = .ok (.aaload, 1) := by decide +kernel
theorem dX7_mostMissed_60 : decode cX7_mostMissed 60 = .ok (.getfield 161, 3) := by decide +kernel
theorem dX7_mostMissed_63 : decode cX7_mostMissed 63 = .ok (.istore_n 2, 1) := by decide +kernel
theorem dX7_mostMissed_64 : decode cX7_mostMissed 64 = .ok (.iinc 3 1, 3) := by decide +kernel
theorem dX7_mostMissed_67 : decode cX7_mostMissed 67 = .ok (.goto (-60), 3) := by decide +kernel
theorem dX7_mostMissed_70 : decode cX7_mostMissed 70 = .ok (.iload_n 1, 1) := by decide +kernel
theorem dX7_mostMissed_71 : decode cX7_mostMissed 71 = .ok (.ireturn, 1) := by decide +kernel
theorem dX7_nearest_0 : decode cX7_nearest 0 = .ok (.bipush (-6), 2) := by decide +kernel
theorem dX7_nearest_2 : decode cX7_nearest 2 = .ok (.istore_n 1, 1) := by decide +kernel
theorem dX7_nearest_3 : decode cX7_nearest 3 = .ok (.iconst 0, 1) := by decide +kernel
theorem dX7_nearest_4 : decode cX7_nearest 4 = .ok (.istore_n 2, 1) := by decide +kernel
theorem dX7_nearest_5 : decode cX7_nearest 5 = .ok (.iconst 0, 1) := by decide +kernel
theorem dX7_nearest_6 : decode cX7_nearest 6 = .ok (.istore_n 3, 1) := by decide +kernel
theorem dX7_nearest_7 : decode cX7_nearest 7 = .ok (.iload_n 3, 1) := by decide +kernel
theorem dX7_nearest_8 : decode cX7_nearest 8 = .ok (.aload_n 0, 1) := by decide +kernel
theorem dX7_nearest_9 : decode cX7_nearest 9 = .ok (.getfield 24, 3) := by decide +kernel
theorem dX7_nearest_12 : decode cX7_nearest 12 = .ok (.getfield 196, 3) := by decide +kernel
theorem dX7_nearest_15 : decode cX7_nearest 15 = .ok (.if_icmp .ge 52, 3) := by decide +kernel
theorem dX7_nearest_18 : decode cX7_nearest 18 = .ok (.aload_n 0, 1) := by decide +kernel
theorem dX7_nearest_19 : decode cX7_nearest 19 = .ok (.getfield 24, 3) := by decide +kernel
theorem dX7_nearest_22 : decode cX7_nearest 22 = .ok (.getfield 93, 3) := by decide +kernel
theorem dX7_nearest_25 : decode cX7_nearest 25 = .ok (.iload_n 3, 1) := by decide +kernel
theorem dX7_nearest_26 : decode cX7_nearest 26 = .ok (.aaload, 1) := by decide +kernel
theorem dX7_nearest_27 : decode cX7_nearest 27 = .ok (.getfield 102, 3) := by decide +kernel
theorem dX7_nearest_30 : decode cX7_nearest 30 = .ok (.iconst 1, 1) := by decide +kernel
theorem dX7_nearest_31 : decode cX7_nearest 31 = .ok (.if_icmp .ne 30, 3) := by decide +kernel
theorem dX7_nearest_34 : decode cX7_nearest 34 = .ok (.aload_n 0, 1) := by decide +kernel
theorem dX7_nearest_35 : decode cX7_nearest 35 = .ok (.getfield 24, 3) := by decide +kernel
theorem dX7_nearest_38 : decode cX7_nearest 38 = .ok (.iload_n 3, 1) := by decide +kernel
theorem dX7_nearest_39 : decode cX7_nearest 39 = .ok (.invokevirtual 217, 3) := by decide +kernel
theorem dX7_nearest_42 : decode cX7_nearest 42 = .ok (.istore 4, 2) := by decide +kernel
theorem dX7_nearest_44 : decode cX7_nearest 44 = .ok (.iload_n 1, 1) := by decide +kernel
theorem dX7_nearest_45 : decode cX7_nearest 45 = .ok (.bipush (-6), 2) := by decide +kernel
theorem dX7_nearest_47 : decode cX7_nearest 47 = .ok (.if_icmp .eq 9, 3) := by decide +kernel
theorem dX7_nearest_50 : decode cX7_nearest 50 = .ok (.iload 4, 2) := by decide +kernel
theorem dX7_nearest_52 : decode cX7_nearest 52 = .ok (.iload_n 2, 1) := by decide +kernel
theorem dX7_nearest_53 : decode cX7_nearest 53 = .ok (.if_icmp .ge 8, 3) := by decide +kernel
theorem dX7_nearest_56 : decode cX7_nearest 56 = .ok (.iload_n 3, 1) := by decide +kernel
theorem dX7_nearest_57 : decode cX7_nearest 57 = .ok (.istore_n 1, 1) := by decide +kernel
theorem dX7_nearest_58 : decode cX7_nearest 58 = .ok (.iload 4, 2) := by decide +kernel
theorem dX7_nearest_60 : decode cX7_nearest 60 = .ok (.istore_n 2, 1) := by decide +kernel
theorem dX7_nearest_61 : decode cX7_nearest 61 = .ok (.iinc 3 1, 3) := by decide +kernel
theorem dX7_nearest_64 : decode cX7_nearest 64 = .ok (.goto (-57), 3) := by decide +kernel
theorem dX7_nearest_67 : decode cX7_nearest 67 = .ok (.iload_n 1, 1) := by decide +kernel
theorem dX7_nearest_68 : decode cX7_nearest 68 = .ok (.ireturn, 1) := by decide +kernel
theorem dX7_put_0 : decode cX7_put 0 = .ok (.lload_n 1, 1) := by decide +kernel
theorem dX7_put_1 : decode cX7_put 1 = .ok (.invokestatic 226, 3) := by decide +kernel
theorem dX7_put_4 : decode cX7_put 4 = .ok (.istore_n 3, 1) := by decide +kernel
theorem dX7_put_5 : decode cX7_put 5 = .ok (.iload_n 3, 1) := by decide +kernel
theorem dX7_put_6 : decode cX7_put 6 = .ok (.ifCond .ne 6, 3) := by decide +kernel
theorem dX7_put_9 : decode cX7_put 9 = .ok (.bipush (-2), 2) := by decide +kernel
theorem dX7_put_11 : decode cX7_put 11 = .ok (.ireturn, 1) := by decide +kernel
theorem dX7_put_12 : decode cX7_put 12 = .ok (.aload_n 0, 1) := by decide +kernel
theorem dX7_put_13 : decode cX7_put 13 = .ok (.getfield 20, 3) := by decide +kernel
theorem dX7_put_16 : decode cX7_put 16 = .ok (.iload_n 3, 1) := by decide +kernel
theorem dX7_put_17 : decode cX7_put 17 = .ok (.invokevirtual 230, 3) := by decide +kernel
theorem dX7_put_20 : decode cX7_put 20 = .ok (.ifCond .ne 6, 3) := by decide +kernel
theorem dX7_put_23 : decode cX7_put 23 = .ok (.bipush (-4), 2) := by decide +kernel
theorem dX7_put_25 : decode cX7_put 25 = .ok (.ireturn, 1) := by decide +kernel
theorem dX7_put_26 : decode cX7_put 26 = .ok (.iload_n 3, 1) := by decide +kernel
theorem dX7_put_27 : decode cX7_put 27 = .ok (.iconst 1, 1) := by decide +kernel
theorem dX7_put_28 : decode cX7_put 28 = .ok (.isub, 1) := by decide +kernel
theorem dX7_put_29 : decode cX7_put 29 = .ok (.istore 4, 2) := by decide +kernel
theorem dX7_put_31 : decode cX7_put 31 = .ok (.iload 4, 2) := by decide +kernel
theorem dX7_put_33 : decode cX7_put 33 = .ok (.ifCond .lt 22, 3) := by decide +kernel
theorem dX7_put_36 : decode cX7_put 36 = .ok (.aload_n 0, 1) := by decide +kernel
theorem dX7_put_37 : decode cX7_put 37 = .ok (.getfield 20, 3) := by decide +kernel
theorem dX7_put_40 : decode cX7_put 40 = .ok (.lload_n 1, 1) := by decide +kernel
theorem dX7_put_41 : decode cX7_put 41 = .ok (.iload 4, 2) := by decide +kernel
theorem dX7_put_43 : decode cX7_put 43 = .ok (.invokestatic 233, 3) := by decide +kernel
theorem dX7_put_46 : decode cX7_put 46 = .ok (.invokevirtual 237, 3) := by decide +kernel
theorem dX7_put_49 : decode cX7_put 49 = .ok (.iinc 4 (-1), 3) := by decide +kernel
theorem dX7_put_52 : decode cX7_put 52 = .ok (.goto (-21), 3) := by decide +kernel
theorem dX7_put_55 : decode cX7_put 55 = .ok (.aload_n 0, 1) := by decide +kernel
theorem dX7_put_56 : decode cX7_put 56 = .ok (.getfield 20, 3) := by decide +kernel
theorem dX7_put_59 : decode cX7_put 59 = .ok (.getfield 64, 3) := by decide +kernel
theorem dX7_put_62 : decode cX7_put 62 = .ok (.ireturn, 1) := by decide +kernel
theorem dX7_wipe_0 : decode cX7_wipe 0 = .ok (.aload_n 0, 1) := by decide +kernel
theorem dX7_wipe_1 : decode cX7_wipe 1 = .ok (.getfield 20, 3) := by decide +kernel
theorem dX7_wipe_4 : decode cX7_wipe 4 = .ok (.getfield 64, 3) := by decide +kernel
theorem dX7_wipe_7 : decode cX7_wipe 7 = .ok (.istore_n 1, 1) := by decide +kernel
theorem dX7_wipe_8 : decode cX7_wipe 8 = .ok (.aload_n 0, 1) := by decide +kernel
theorem dX7_wipe_9 : decode cX7_wipe 9 = .ok (.getfield 20, 3) := by decide +kernel
theorem dX7_wipe_12 : decode cX7_wipe 12 = .ok (.iconst 0, 1) := by decide +kernel
theorem dX7_wipe_13 : decode cX7_wipe 13 = .ok (.putfield 64, 3) := by decide +kernel
theorem dX7_wipe_16 : decode cX7_wipe 16 = .ok (.iload_n 1, 1) := by decide +kernel
theorem dX7_wipe_17 : decode cX7_wipe 17 = .ok (.ireturn, 1) := by decide +kernel
theorem dX7_fault_0 : decode cX7_fault 0 = .ok (.aload_n 0, 1) := by decide +kernel
theorem dX7_fault_1 : decode cX7_fault 1 = .ok (.getfield 10, 3) := by decide +kernel
theorem dX7_fault_4 : decode cX7_fault 4 = .ok (.invokevirtual 74, 3) := by decide +kernel
theorem dX7_fault_7 : decode cX7_fault 7 = .ok (.ireturn, 1) := by decide +kernel
theorem dX7_undo_0 : decode cX7_undo 0 = .ok (.aload_n 0, 1) := by decide +kernel
theorem dX7_undo_1 : decode cX7_undo 1 = .ok (.getfield 214, 3) := by decide +kernel
theorem dX7_undo_4 : decode cX7_undo 4 = .ok (.ifCond .ne 6, 3) := by decide +kernel
theorem dX7_undo_7 : decode cX7_undo 7 = .ok (.bipush (-5), 2) := by decide +kernel
theorem dX7_undo_9 : decode cX7_undo 9 = .ok (.ireturn, 1) := by decide +kernel
theorem dX7_undo_10 : decode cX7_undo 10 = .ok (.aload_n 0, 1) := by decide +kernel
theorem dX7_undo_11 : decode cX7_undo 11 = .ok (.dup, 1) := by decide +kernel
theorem dX7_undo_12 : decode cX7_undo 12 = .ok (.getfield 214, 3) := by decide +kernel
theorem dX7_undo_15 : decode cX7_undo 15 = .ok (.iconst 1, 1) := by decide +kernel
theorem dX7_undo_16 : decode cX7_undo 16 = .ok (.isub, 1) := by decide +kernel
theorem dX7_undo_17 : decode cX7_undo 17 = .ok (.putfield 214, 3) := by decide +kernel
theorem dX7_undo_20 : decode cX7_undo 20 = .ok (.aload_n 0, 1) := by decide +kernel
theorem dX7_undo_21 : decode cX7_undo 21 = .ok (.getfield 24, 3) := by decide +kernel
theorem dX7_undo_24 : decode cX7_undo 24 = .ok (.aload_n 0, 1) := by decide +kernel
theorem dX7_undo_25 : decode cX7_undo 25 = .ok (.getfield 28, 3) := by decide +kernel
theorem dX7_undo_28 : decode cX7_undo 28 = .ok (.aload_n 0, 1) := by decide +kernel
theorem dX7_undo_29 : decode cX7_undo 29 = .ok (.getfield 214, 3) := by decide +kernel
theorem dX7_undo_32 : decode cX7_undo 32 = .ok (.aaload, 1) := by decide +kernel
theorem dX7_undo_33 : decode cX7_undo 33 = .ok (.invokevirtual 239, 3) := by decide +kernel
theorem dX7_undo_36 : decode cX7_undo 36 = .ok (.aload_n 0, 1) := by decide +kernel
theorem dX7_undo_37 : decode cX7_undo 37 = .ok (.getfield 214, 3) := by decide +kernel
theorem dX7_undo_40 : decode cX7_undo 40 = .ok (.ireturn, 1) := by decide +kernel
theorem dX7_remember_0 : decode cX7_remember 0 = .ok (.aload_n 0, 1) := by decide +kernel
theorem dX7_remember_1 : decode cX7_remember 1 = .ok (.getfield 214, 3) := by decide +kernel
theorem dX7_remember_4 : decode cX7_remember 4 = .ok (.bipush 6, 2) := by decide +kernel
theorem dX7_remember_6 : decode cX7_remember 6 = .ok (.if_icmp .ne 55, 3) := by decide +kernel
theorem dX7_remember_9 : decode cX7_remember 9 = .ok (.aload_n 0, 1) := by decide +kernel
theorem dX7_remember_10 : decode cX7_remember 10 = .ok (.getfield 28, 3) := by decide +kernel
theorem dX7_remember_13 : decode cX7_remember 13 = .ok (.iconst 0, 1) := by decide +kernel
theorem dX7_remember_14 : decode cX7_remember 14 = .ok (.aaload, 1) := by decide +kernel
theorem dX7_remember_15 : decode cX7_remember 15 = .ok (.astore_n 1, 1) := by decide +kernel
theorem dX7_remember_16 : decode cX7_remember 16 = .ok (.iconst 1, 1) := by decide +kernel
theorem dX7_remember_17 : decode cX7_remember 17 = .ok (.istore_n 2, 1) := by decide +kernel
theorem dX7_remember_18 : decode cX7_remember 18 = .ok (.iload_n 2, 1) := by decide +kernel
theorem dX7_remember_19 : decode cX7_remember 19 = .ok (.bipush 6, 2) := by decide +kernel
theorem dX7_remember_21 : decode cX7_remember 21 = .ok (.if_icmp .ge 23, 3) := by decide +kernel
theorem dX7_remember_24 : decode cX7_remember 24 = .ok (.aload_n 0, 1) := by decide +kernel
theorem dX7_remember_25 : decode cX7_remember 25 = .ok (.getfield 28, 3) := by decide +kernel
theorem dX7_remember_28 : decode cX7_remember 28 = .ok (.iload_n 2, 1) := by decide +kernel
theorem dX7_remember_29 : decode cX7_remember 29 = .ok (.iconst 1, 1) := by decide +kernel
theorem dX7_remember_30 : decode cX7_remember 30 = .ok (.isub, 1) := by decide +kernel
theorem dX7_remember_31 : decode cX7_remember 31 = .ok (.aload_n 0, 1) := by decide +kernel
theorem dX7_remember_32 : decode cX7_remember 32 = .ok (.getfield 28, 3) := by decide +kernel
theorem dX7_remember_35 : decode cX7_remember 35 = .ok (.iload_n 2, 1) := by decide +kernel
theorem dX7_remember_36 : decode cX7_remember 36 = .ok (.aaload, 1) := by decide +kernel
theorem dX7_remember_37 : decode cX7_remember 37 = .ok (.aastore, 1) := by decide +kernel
theorem dX7_remember_38 : decode cX7_remember 38 = .ok (.iinc 2 1, 3) := by decide +kernel
theorem dX7_remember_41 : decode cX7_remember 41 = .ok (.goto (-23), 3) := by decide +kernel
theorem dX7_remember_44 : decode cX7_remember 44 = .ok (.aload_n 0, 1) := by decide +kernel
theorem dX7_remember_45 : decode cX7_remember 45 = .ok (.getfield 28, 3) := by decide +kernel
theorem dX7_remember_48 : decode cX7_remember 48 = .ok (.iconst 5, 1) := by decide +kernel
theorem dX7_remember_49 : decode cX7_remember 49 = .ok (.aload_n 1, 1) := by decide +kernel
theorem dX7_remember_50 : decode cX7_remember 50 = .ok (.aastore, 1) := by decide +kernel
theorem dX7_remember_51 : decode cX7_remember 51 = .ok (.aload_n 0, 1) := by decide +kernel
theorem dX7_remember_52 : decode cX7_remember 52 = .ok (.dup, 1) := by decide +kernel
theorem dX7_remember_53 : decode cX7_remember 53 = .ok (.getfield 214, 3) := by decide +kernel
theorem dX7_remember_56 : decode cX7_remember 56 = .ok (.iconst 1, 1) := by decide +kernel
theorem dX7_remember_57 : decode cX7_remember 57 = .ok (.isub, 1) := by decide +kernel
theorem dX7_remember_58 : decode cX7_remember 58 = .ok (.putfield 214, 3) := by decide +kernel
theorem dX7_remember_61 : decode cX7_remember 61 = .ok (.aload_n 0, 1) := by decide +kernel
theorem dX7_remember_62 : decode cX7_remember 62 = .ok (.getfield 28, 3) := by decide +kernel
theorem dX7_remember_65 : decode cX7_remember 65 = .ok (.aload_n 0, 1) := by decide +kernel
theorem dX7_remember_66 : decode cX7_remember 66 = .ok (.getfield 214, 3) := by decide +kernel
theorem dX7_remember_69 : decode cX7_remember 69 = .ok (.aaload, 1) := by decide +kernel
theorem dX7_remember_70 : decode cX7_remember 70 = .ok (.aload_n 0, 1) := by decide +kernel
theorem dX7_remember_71 : decode cX7_remember 71 = .ok (.getfield 24, 3) := by decide +kernel
theorem dX7_remember_74 : decode cX7_remember 74 = .ok (.invokevirtual 239, 3) := by decide +kernel
theorem dX7_remember_77 : decode cX7_remember 77 = .ok (.aload_n 0, 1) := by decide +kernel
theorem dX7_remember_78 : decode cX7_remember 78 = .ok (.dup, 1) := by decide +kernel
theorem dX7_remember_79 : decode cX7_remember 79 = .ok (.getfield 214, 3) := by decide +kernel
theorem dX7_remember_82 : decode cX7_remember 82 = .ok (.iconst 1, 1) := by decide +kernel
theorem dX7_remember_83 : decode cX7_remember 83 = .ok (.iadd, 1) := by decide +kernel
theorem dX7_remember_84 : decode cX7_remember 84 = .ok (.putfield 214, 3) := by decide +kernel
theorem dX7_remember_87 : decode cX7_remember 87 = .ok (.return_, 1) := by decide +kernel
theorem dX7_isWithin_0 : decode cX7_isWithin 0 = .ok (.iload_n 0, 1) := by decide +kernel
theorem dX7_isWithin_1 : decode cX7_isWithin 1 = .ok (.iload_n 1, 1) := by decide +kernel
theorem dX7_isWithin_2 : decode cX7_isWithin 2 = .ok (.if_icmp .lt 12, 3) := by decide +kernel
theorem dX7_isWithin_5 : decode cX7_isWithin 5 = .ok (.iload_n 0, 1) := by decide +kernel
theorem dX7_isWithin_6 : decode cX7_isWithin 6 = .ok (.iload_n 2, 1) := by decide +kernel
theorem dX7_isWithin_7 : decode cX7_isWithin 7 = .ok (.if_icmp .gt 7, 3) := by decide +kernel
theorem dX7_isWithin_10 : decode cX7_isWithin 10 = .ok (.iconst 1, 1) := by decide +kernel
theorem dX7_isWithin_11 : decode cX7_isWithin 11 = .ok (.goto 4, 3) := by decide +kernel
theorem dX7_isWithin_14 : decode cX7_isWithin 14 = .ok (.iconst 0, 1) := by decide +kernel
theorem dX7_isWithin_15 : decode cX7_isWithin 15 = .ok (.ireturn, 1) := by decide +kernel
theorem dX7_isSolver_0 : decode cX7_isSolver 0 = .ok (.iload_n 0, 1) := by decide +kernel
theorem dX7_isSolver_1 : decode cX7_isSolver 1 = .ok (.iconst 0, 1) := by decide +kernel
theorem dX7_isSolver_2 : decode cX7_isSolver 2 = .ok (.iconst 5, 1) := by decide +kernel
theorem dX7_isSolver_3 : decode cX7_isSolver 3 = .ok (.invokestatic 39, 3) := by decide +kernel
theorem dX7_isSolver_6 : decode cX7_isSolver 6 = .ok (.ireturn, 1) := by decide +kernel
theorem dX7_mean_0 : decode cX7_mean 0 = .ok (.iload_n 1, 1) := by decide +kernel
theorem dX7_mean_1 : decode cX7_mean 1 = .ok (.ifCond .ne 7, 3) := by decide +kernel
theorem dX7_mean_4 : decode cX7_mean 4 = .ok (.iconst 0, 1) := by decide +kernel
theorem dX7_mean_5 : decode cX7_mean 5 = .ok (.goto 6, 3) := by decide +kernel
theorem dX7_mean_8 : decode cX7_mean 8 = .ok (.iload_n 0, 1) := by decide +kernel
theorem dX7_mean_9 : decode cX7_mean 9 = .ok (.iload_n 1, 1) := by decide +kernel
theorem dX7_mean_10 : decode cX7_mean 10 = .ok (.idiv, 1) := by decide +kernel
theorem dX7_mean_11 : decode cX7_mean 11 = .ok (.ireturn, 1) := by decide +kernel
theorem dX7_lettersIn_0 : decode cX7_lettersIn 0 = .ok (.iconst 0, 1) := by decide +kernel
theorem dX7_lettersIn_1 : decode cX7_lettersIn 1 = .ok (.istore_n 1, 1) := by decide +kernel
theorem dX7_lettersIn_2 : decode cX7_lettersIn 2 = .ok (.iload_n 1, 1) := by decide +kernel
theorem dX7_lettersIn_3 : decode cX7_lettersIn 3 = .ok (.bipush 6, 2) := by decide +kernel
theorem dX7_lettersIn_5 : decode cX7_lettersIn 5 = .ok (.if_icmp .ge 17, 3) := by decide +kernel
theorem dX7_lettersIn_8 : decode cX7_lettersIn 8 = .ok (.iload_n 0, 1) := by decide +kernel
theorem dX7_lettersIn_9 : decode cX7_lettersIn 9 = .ok (.iconst 5, 1) := by decide +kernel
theorem dX7_lettersIn_10 : decode cX7_lettersIn 10 = .ok (.iload_n 1, 1) := by decide +kernel
theorem dX7_lettersIn_11 : decode cX7_lettersIn 11 = .ok (.imul, 1) := by decide +kernel
theorem dX7_lettersIn_12 : decode cX7_lettersIn 12 = .ok (.iushr, 1) := by decide +kernel
theorem dX7_lettersIn_13 : decode cX7_lettersIn 13 = .ok (.ifCond .eq 9, 3) := by decide +kernel
theorem dX7_lettersIn_16 : decode cX7_lettersIn 16 = .ok (.iinc 1 1, 3) := by decide +kernel
theorem dX7_lettersIn_19 : decode cX7_lettersIn 19 = .ok (.goto (-17), 3) := by decide +kernel
theorem dX7_lettersIn_22 : decode cX7_lettersIn 22 = .ok (.iload_n 1, 1) := by decide +kernel
theorem dX7_lettersIn_23 : decode cX7_lettersIn 23 = .ok (.ireturn, 1) := by decide +kernel
theorem dX7_aboutLetters_0 : decode cX7_aboutLetters 0 = .ok (.iload_n 0, 1) := by decide +kernel
theorem dX7_aboutLetters_1 : decode cX7_aboutLetters 1 = .ok (.invokestatic 243, 3) := by decide +kernel
theorem dX7_aboutLetters_4 : decode cX7_aboutLetters 4 = .ok (.istore_n 2, 1) := by decide +kernel
theorem dX7_aboutLetters_5 : decode cX7_aboutLetters 5 = .ok (.iload_n 2, 1) := by decide +kernel
theorem dX7_aboutLetters_6 : decode cX7_aboutLetters 6 = .ok (.ifCond .eq 8, 3) := by decide +kernel
theorem dX7_aboutLetters_9 : decode cX7_aboutLetters 9 = .ok (.iload_n 1, 1) := by decide +kernel
theorem dX7_aboutLetters_10 : decode cX7_aboutLetters 10 = .ok (.iload_n 2, 1) := by decide +kernel
theorem dX7_aboutLetters_11 : decode cX7_aboutLetters 11 = .ok (.if_icmp .le 6, 3) := by decide +kernel
theorem dX7_aboutLetters_14 : decode cX7_aboutLetters 14 = .ok (.bipush (-6), 2) := by decide +kernel
theorem dX7_aboutLetters_16 : decode cX7_aboutLetters 16 = .ok (.ireturn, 1) := by decide +kernel
theorem dX7_aboutLetters_17 : decode cX7_aboutLetters 17 = .ok (.iload_n 1, 1) := by decide +kernel
theorem dX7_aboutLetters_18 : decode cX7_aboutLetters 18 = .ok (.ifCond .ne 5, 3) := by decide +kernel
theorem dX7_aboutLetters_21 : decode cX7_aboutLetters 21 = .ok (.iload_n 2, 1) := by decide +kernel
theorem dX7_aboutLetters_22 : decode cX7_aboutLetters 22 = .ok (.ireturn, 1) := by decide +kernel
theorem dX7_aboutLetters_23 : decode cX7_aboutLetters 23 = .ok (.bipush 96, 2) := by decide +kernel
theorem dX7_aboutLetters_25 : decode cX7_aboutLetters 25 = .ok (.iload_n 0, 1) := by decide +kernel
theorem dX7_aboutLetters_26 : decode cX7_aboutLetters 26 = .ok (.iconst 5, 1) := by decide +kernel
theorem dX7_aboutLetters_27 : decode cX7_aboutLetters 27 = .ok (.iload_n 2, 1) := by decide +kernel
theorem dX7_aboutLetters_28 : decode cX7_aboutLetters 28 = .ok (.iload_n 1, 1) := by decide +kernel
theorem dX7_aboutLetters_29 : decode cX7_aboutLetters 29 = .ok (.isub, 1) := by decide +kernel
theorem dX7_aboutLetters_30 : decode cX7_aboutLetters 30 = .ok (.imul, 1) := by decide +kernel
theorem dX7_aboutLetters_31 : decode cX7_aboutLetters 31 = .ok (.iushr, 1) := by decide +kernel
theorem dX7_aboutLetters_32 : decode cX7_aboutLetters 32 = .ok (.bipush 31, 2) := by decide +kernel
theorem dX7_aboutLetters_34 : decode cX7_aboutLetters 34 = .ok (.iand, 1) := by decide +kernel
theorem dX7_aboutLetters_35 : decode cX7_aboutLetters 35 = .ok (.iadd, 1) := by decide +kernel
theorem dX7_aboutLetters_36 : decode cX7_aboutLetters 36 = .ok (.ireturn, 1) := by decide +kernel
theorem dX7_codeAt_0 : decode cX7_codeAt 0 = .ok (.lload_n 0, 1) := by decide +kernel
theorem dX7_codeAt_1 : decode cX7_codeAt 1 = .ok (.bipush 8, 2) := by decide +kernel
theorem dX7_codeAt_3 : decode cX7_codeAt 3 = .ok (.iload_n 2, 1) := by decide +kernel
theorem dX7_codeAt_4 : decode cX7_codeAt 4 = .ok (.imul, 1) := by decide +kernel
theorem dX7_codeAt_5 : decode cX7_codeAt 5 = .ok (.lushr, 1) := by decide +kernel
theorem dX7_codeAt_6 : decode cX7_codeAt 6 = .ok (.ldc2_w 246, 3) := by decide +kernel
theorem dX7_codeAt_9 : decode cX7_codeAt 9 = .ok (.land, 1) := by decide +kernel
theorem dX7_codeAt_10 : decode cX7_codeAt 10 = .ok (.l2i, 1) := by decide +kernel
theorem dX7_codeAt_11 : decode cX7_codeAt 11 = .ok (.ireturn, 1) := by decide +kernel
theorem dX7_charactersIn_0 : decode cX7_charactersIn 0 = .ok (.iconst 0, 1) := by decide +kernel
theorem dX7_charactersIn_1 : decode cX7_charactersIn 1 = .ok (.istore_n 2, 1) := by decide +kernel
theorem dX7_charactersIn_2 : decode cX7_charactersIn 2 = .ok (.iload_n 2, 1) := by decide +kernel
theorem dX7_charactersIn_3 : decode cX7_charactersIn 3 = .ok (.bipush 8, 2) := by decide +kernel
theorem dX7_charactersIn_5 : decode cX7_charactersIn 5 = .ok (.if_icmp .ge 24, 3) := by decide +kernel
theorem dX7_charactersIn_8 : decode cX7_charactersIn 8 = .ok (.lload_n 0, 1) := by decide +kernel
theorem dX7_charactersIn_9 : decode cX7_charactersIn 9 = .ok (.iload_n 2, 1) := by decide +kernel
theorem dX7_charactersIn_10 : decode cX7_charactersIn 10 = .ok (.invokestatic 233, 3) := by decide +kernel
theorem dX7_charactersIn_13 : decode cX7_charactersIn 13 = .ok (.bipush 33, 2) := by decide +kernel
theorem dX7_charactersIn_15 : decode cX7_charactersIn 15 = .ok (.bipush 126, 2) := by decide +kernel
theorem dX7_charactersIn_17 : decode cX7_charactersIn 17 = .ok (.invokestatic 39, 3) := by decide +kernel
theorem dX7_charactersIn_20 : decode cX7_charactersIn 20 = .ok (.ifCond .eq 9, 3) := by decide +kernel
theorem dX7_charactersIn_23 : decode cX7_charactersIn 23 = .ok (.iinc 2 1, 3) := by decide +kernel
theorem dX7_charactersIn_26 : decode cX7_charactersIn 26 = .ok (.goto (-24), 3) := by decide +kernel
theorem dX7_charactersIn_29 : decode cX7_charactersIn 29 = .ok (.iload_n 2, 1) := by decide +kernel
theorem dX7_charactersIn_30 : decode cX7_charactersIn 30 = .ok (.bipush 8, 2) := by decide +kernel
theorem dX7_charactersIn_32 : decode cX7_charactersIn 32 = .ok (.if_icmp .eq 14, 3) := by decide +kernel
theorem dX7_charactersIn_35 : decode cX7_charactersIn 35 = .ok (.lload_n 0, 1) := by decide +kernel
theorem dX7_charactersIn_36 : decode cX7_charactersIn 36 = .ok (.bipush 8, 2) := by decide +kernel
theorem dX7_charactersIn_38 : decode cX7_charactersIn 38 = .ok (.iload_n 2, 1) := by decide +kernel
theorem dX7_charactersIn_39 : decode cX7_charactersIn 39 = .ok (.imul, 1) := by decide +kernel
theorem dX7_charactersIn_40 : decode cX7_charactersIn 40 = .ok (.lushr, 1) := by decide +kernel
theorem dX7_charactersIn_41 : decode cX7_charactersIn 41 = .ok (.lconst 0, 1) := by decide +kernel
theorem dX7_charactersIn_42 : decode cX7_charactersIn 42 = .ok (.lcmp, 1) := by decide +kernel
theorem dX7_charactersIn_43 : decode cX7_charactersIn 43 = .ok (.ifCond .ne 7, 3) := by decide +kernel
theorem dX7_charactersIn_46 : decode cX7_charactersIn 46 = .ok (.iconst 1, 1) := by decide +kernel
theorem dX7_charactersIn_47 : decode cX7_charactersIn 47 = .ok (.goto 4, 3) := by decide +kernel
theorem dX7_charactersIn_50 : decode cX7_charactersIn 50 = .ok (.iconst 0, 1) := by decide +kernel
theorem dX7_charactersIn_51 : decode cX7_charactersIn 51 = .ok (.istore_n 3, 1) := by decide +kernel
theorem dX7_charactersIn_52 : decode cX7_charactersIn 52 = .ok (.iload_n 3, 1) := by decide +kernel
theorem dX7_charactersIn_53 : decode cX7_charactersIn 53 = .ok (.ifCond .eq 7, 3) := by decide +kernel
theorem dX7_charactersIn_56 : decode cX7_charactersIn 56 = .ok (.iload_n 2, 1) := by decide +kernel
theorem dX7_charactersIn_57 : decode cX7_charactersIn 57 = .ok (.goto 4, 3) := by decide +kernel
theorem dX7_charactersIn_60 : decode cX7_charactersIn 60 = .ok (.iconst 0, 1) := by decide +kernel
theorem dX7_charactersIn_61 : decode cX7_charactersIn 61 = .ok (.ireturn, 1) := by decide +kernel
