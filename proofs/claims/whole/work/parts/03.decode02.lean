theorem dX5_read_31 : decode cX5_read 31 = .ok (.iload_n 2, 1) := by decide +kernel
theorem dX5_read_32 : decode cX5_read 32 = .ok (.invokestatic 31, 3) := by decide +kernel
theorem dX5_read_35 : decode cX5_read 35 = .ok (.istore 5, 2) := by decide +kernel
theorem dX5_read_37 : decode cX5_read 37 = .ok (.iload 5, 2) := by decide +kernel
theorem dX5_read_39 : decode cX5_read 39 = .ok (.iconst (-1), 1) := by decide +kernel
theorem dX5_read_40 : decode cX5_read 40 = .ok (.if_icmp .ne 8, 3) := by decide +kernel
theorem dX5_read_43 : decode cX5_read 43 = .ok (.bipush 100, 2) := by decide +kernel
theorem dX5_read_45 : decode cX5_read 45 = .ok (.iload_n 3, 1) := by decide +kernel
theorem dX5_read_46 : decode cX5_read 46 = .ok (.iadd, 1) := by decide +kernel
theorem dX5_read_47 : decode cX5_read 47 = .ok (.ireturn, 1) := by decide +kernel
theorem dX5_read_48 : decode cX5_read 48 = .ok (.iload_n 3, 1) := by decide +kernel
theorem dX5_read_49 : decode cX5_read 49 = .ok (.iconst 1, 1) := by decide +kernel
theorem dX5_read_50 : decode cX5_read 50 = .ok (.iadd, 1) := by decide +kernel
theorem dX5_read_51 : decode cX5_read 51 = .ok (.istore 6, 2) := by decide +kernel
theorem dX5_read_53 : decode cX5_read 53 = .ok (.aload_n 1, 1) := by decide +kernel
theorem dX5_read_54 : decode cX5_read 54 = .ok (.iload 6, 2) := by decide +kernel
theorem dX5_read_56 : decode cX5_read 56 = .ok (.iload_n 2, 1) := by decide +kernel
theorem dX5_read_57 : decode cX5_read 57 = .ok (.invokestatic 35, 3) := by decide +kernel
theorem dX5_read_60 : decode cX5_read 60 = .ok (.istore 7, 2) := by decide +kernel
theorem dX5_read_62 : decode cX5_read 62 = .ok (.aload_n 1, 1) := by decide +kernel
theorem dX5_read_63 : decode cX5_read 63 = .ok (.iload 6, 2) := by decide +kernel
theorem dX5_read_65 : decode cX5_read 65 = .ok (.iload 7, 2) := by decide +kernel
theorem dX5_read_67 : decode cX5_read 67 = .ok (.invokestatic 38, 3) := by decide +kernel
theorem dX5_read_70 : decode cX5_read 70 = .ok (.istore 8, 2) := by decide +kernel
theorem dX5_read_72 : decode cX5_read 72 = .ok (.aload_n 1, 1) := by decide +kernel
theorem dX5_read_73 : decode cX5_read 73 = .ok (.iload 6, 2) := by decide +kernel
theorem dX5_read_75 : decode cX5_read 75 = .ok (.iload 7, 2) := by decide +kernel
theorem dX5_read_77 : decode cX5_read 77 = .ok (.iload_n 2, 1) := by decide +kernel
theorem dX5_read_78 : decode cX5_read 78 = .ok (.iload 8, 2) := by decide +kernel
theorem dX5_read_80 : decode cX5_read 80 = .ok (.getstatic 41, 3) := by decide +kernel
theorem dX5_read_83 : decode cX5_read 83 = .ok (.iload 5, 2) := by decide +kernel
theorem dX5_read_85 : decode cX5_read 85 = .ok (.iaload, 1) := by decide +kernel
theorem dX5_read_86 : decode cX5_read 86 = .ok (.if_icmp .le 7, 3) := by decide +kernel
theorem dX5_read_89 : decode cX5_read 89 = .ok (.iconst 1, 1) := by decide +kernel
theorem dX5_read_90 : decode cX5_read 90 = .ok (.goto 4, 3) := by decide +kernel
theorem dX5_read_93 : decode cX5_read 93 = .ok (.iconst 0, 1) := by decide +kernel
theorem dX5_read_94 : decode cX5_read 94 = .ok (.invokestatic 44, 3) := by decide +kernel
theorem dX5_read_97 : decode cX5_read 97 = .ok (.istore 9, 2) := by decide +kernel
theorem dX5_read_99 : decode cX5_read 99 = .ok (.iload 9, 2) := by decide +kernel
theorem dX5_read_101 : decode cX5_read 101 = .ok (.ifCond .eq 6, 3) := by decide +kernel
theorem dX5_read_104 : decode cX5_read 104 = .ok (.iload 9, 2) := by decide +kernel
theorem dX5_read_106 : decode cX5_read 106 = .ok (.ireturn, 1) := by decide +kernel
theorem dX5_read_107 : decode cX5_read 107 = .ok (.aload_n 0, 1) := by decide +kernel
theorem dX5_read_108 : decode cX5_read 108 = .ok (.getfield 15, 3) := by decide +kernel
theorem dX5_read_111 : decode cX5_read 111 = .ok (.iload 5, 2) := by decide +kernel
theorem dX5_read_113 : decode cX5_read 113 = .ok (.iload 8, 2) := by decide +kernel
theorem dX5_read_115 : decode cX5_read 115 = .ok (.iastore, 1) := by decide +kernel
theorem dX5_read_116 : decode cX5_read 116 = .ok (.iload 7, 2) := by decide +kernel
theorem dX5_read_118 : decode cX5_read 118 = .ok (.iconst 1, 1) := by decide +kernel
theorem dX5_read_119 : decode cX5_read 119 = .ok (.iadd, 1) := by decide +kernel
theorem dX5_read_120 : decode cX5_read 120 = .ok (.istore_n 3, 1) := by decide +kernel
theorem dX5_read_121 : decode cX5_read 121 = .ok (.iinc 4 1, 3) := by decide +kernel
theorem dX5_read_124 : decode cX5_read 124 = .ok (.goto (-106), 3) := by decide +kernel
theorem dX5_read_127 : decode cX5_read 127 = .ok (.aload_n 0, 1) := by decide +kernel
theorem dX5_read_128 : decode cX5_read 128 = .ok (.getfield 15, 3) := by decide +kernel
theorem dX5_read_131 : decode cX5_read 131 = .ok (.iconst 0, 1) := by decide +kernel
theorem dX5_read_132 : decode cX5_read 132 = .ok (.aload_n 0, 1) := by decide +kernel
theorem dX5_read_133 : decode cX5_read 133 = .ok (.getfield 9, 3) := by decide +kernel
theorem dX5_read_136 : decode cX5_read 136 = .ok (.iconst 0, 1) := by decide +kernel
theorem dX5_read_137 : decode cX5_read 137 = .ok (.iconst 4, 1) := by decide +kernel
theorem dX5_read_138 : decode cX5_read 138 = .ok (.invokestatic 25, 3) := by decide +kernel
theorem dX5_read_141 : decode cX5_read 141 = .ok (.iconst 0, 1) := by decide +kernel
theorem dX5_read_142 : decode cX5_read 142 = .ok (.ireturn, 1) := by decide +kernel
theorem dX5_faultOfNumber_0 : decode cX5_faultOfNumber 0 = .ok (.iload_n 2, 1) := by decide +kernel
theorem dX5_faultOfNumber_1 : decode cX5_faultOfNumber 1 = .ok (.iload_n 1, 1) := by decide +kernel
theorem dX5_faultOfNumber_2 : decode cX5_faultOfNumber 2 = .ok (.if_icmp .ne 9, 3) := by decide +kernel
theorem dX5_faultOfNumber_5 : decode cX5_faultOfNumber 5 = .ok (.sipush 200, 3) := by decide +kernel
theorem dX5_faultOfNumber_8 : decode cX5_faultOfNumber 8 = .ok (.iload_n 1, 1) := by decide +kernel
theorem dX5_faultOfNumber_9 : decode cX5_faultOfNumber 9 = .ok (.iadd, 1) := by decide +kernel
theorem dX5_faultOfNumber_10 : decode cX5_faultOfNumber 10 = .ok (.ireturn, 1) := by decide +kernel
theorem dX5_faultOfNumber_11 : decode cX5_faultOfNumber 11 = .ok (.aload_n 0, 1) := by decide +kernel
theorem dX5_faultOfNumber_12 : decode cX5_faultOfNumber 12 = .ok (.iload_n 2, 1) := by decide +kernel
theorem dX5_faultOfNumber_13 : decode cX5_faultOfNumber 13 = .ok (.iload_n 3, 1) := by decide +kernel
theorem dX5_faultOfNumber_14 : decode cX5_faultOfNumber 14 = .ok (.invokestatic 48, 3) := by decide +kernel
theorem dX5_faultOfNumber_17 : decode cX5_faultOfNumber 17 = .ok (.ifCond .eq 9, 3) := by decide +kernel
theorem dX5_faultOfNumber_20 : decode cX5_faultOfNumber 20 = .ok (.sipush 300, 3) := by decide +kernel
theorem dX5_faultOfNumber_23 : decode cX5_faultOfNumber 23 = .ok (.iload_n 2, 1) := by decide +kernel
theorem dX5_faultOfNumber_24 : decode cX5_faultOfNumber 24 = .ok (.iadd, 1) := by decide +kernel
theorem dX5_faultOfNumber_25 : decode cX5_faultOfNumber 25 = .ok (.ireturn, 1) := by decide +kernel
theorem dX5_faultOfNumber_26 : decode cX5_faultOfNumber 26 = .ok (.iload 4, 2) := by decide +kernel
theorem dX5_faultOfNumber_28 : decode cX5_faultOfNumber 28 = .ok (.ifCond .eq 9, 3) := by decide +kernel
theorem dX5_faultOfNumber_31 : decode cX5_faultOfNumber 31 = .ok (.sipush 400, 3) := by decide +kernel
theorem dX5_faultOfNumber_34 : decode cX5_faultOfNumber 34 = .ok (.iload_n 1, 1) := by decide +kernel
theorem dX5_faultOfNumber_35 : decode cX5_faultOfNumber 35 = .ok (.iadd, 1) := by decide +kernel
theorem dX5_faultOfNumber_36 : decode cX5_faultOfNumber 36 = .ok (.ireturn, 1) := by decide +kernel
theorem dX5_faultOfNumber_37 : decode cX5_faultOfNumber 37 = .ok (.iload_n 2, 1) := by decide +kernel
theorem dX5_faultOfNumber_38 : decode cX5_faultOfNumber 38 = .ok (.iload_n 3, 1) := by decide +kernel
theorem dX5_faultOfNumber_39 : decode cX5_faultOfNumber 39 = .ok (.if_icmp .ge 21, 3) := by decide +kernel
theorem dX5_faultOfNumber_42 : decode cX5_faultOfNumber 42 = .ok (.aload_n 0, 1) := by decide +kernel
theorem dX5_faultOfNumber_43 : decode cX5_faultOfNumber 43 = .ok (.iload_n 2, 1) := by decide +kernel
theorem dX5_faultOfNumber_44 : decode cX5_faultOfNumber 44 = .ok (.invokevirtual 52, 3) := by decide +kernel
theorem dX5_faultOfNumber_47 : decode cX5_faultOfNumber 47 = .ok (.bipush 59, 2) := by decide +kernel
theorem dX5_faultOfNumber_49 : decode cX5_faultOfNumber 49 = .ok (.if_icmp .eq 11, 3) := by decide +kernel
theorem dX5_faultOfNumber_52 : decode cX5_faultOfNumber 52 = .ok (.sipush 500, 3) := by decide +kernel
theorem dX5_faultOfNumber_55 : decode cX5_faultOfNumber 55 = .ok (.iload_n 2, 1) := by decide +kernel
theorem dX5_faultOfNumber_56 : decode cX5_faultOfNumber 56 = .ok (.iadd, 1) := by decide +kernel
theorem dX5_faultOfNumber_57 : decode cX5_faultOfNumber 57 = .ok (.goto 4, 3) := by decide +kernel
theorem dX5_faultOfNumber_60 : decode cX5_faultOfNumber 60 = .ok (.iconst 0, 1) := by decide +kernel
theorem dX5_faultOfNumber_61 : decode cX5_faultOfNumber 61 = .ok (.ireturn, 1) := by decide +kernel
theorem dX5_kindAt_0 : decode cX5_kindAt 0 = .ok (.iconst 0, 1) := by decide +kernel
theorem dX5_kindAt_1 : decode cX5_kindAt 1 = .ok (.istore_n 3, 1) := by decide +kernel
theorem dX5_kindAt_2 : decode cX5_kindAt 2 = .ok (.iload_n 3, 1) := by decide +kernel
theorem dX5_kindAt_3 : decode cX5_kindAt 3 = .ok (.iconst 4, 1) := by decide +kernel
theorem dX5_kindAt_4 : decode cX5_kindAt 4 = .ok (.if_icmp .ge 29, 3) := by decide +kernel
theorem dX5_kindAt_7 : decode cX5_kindAt 7 = .ok (.iload_n 1, 1) := by decide +kernel
theorem dX5_kindAt_8 : decode cX5_kindAt 8 = .ok (.iload_n 2, 1) := by decide +kernel
theorem dX5_kindAt_9 : decode cX5_kindAt 9 = .ok (.if_icmp .ge 24, 3) := by decide +kernel
theorem dX5_kindAt_12 : decode cX5_kindAt 12 = .ok (.aload_n 0, 1) := by decide +kernel
theorem dX5_kindAt_13 : decode cX5_kindAt 13 = .ok (.iload_n 1, 1) := by decide +kernel
theorem dX5_kindAt_14 : decode cX5_kindAt 14 = .ok (.invokevirtual 52, 3) := by decide +kernel
theorem dX5_kindAt_17 : decode cX5_kindAt 17 = .ok (.getstatic 58, 3) := by decide +kernel
theorem dX5_kindAt_20 : decode cX5_kindAt 20 = .ok (.iload_n 3, 1) := by decide +kernel
theorem dX5_kindAt_21 : decode cX5_kindAt 21 = .ok (.caload, 1) := by decide +kernel
theorem dX5_kindAt_22 : decode cX5_kindAt 22 = .ok (.if_icmp .ne 5, 3) := by decide +kernel
theorem dX5_kindAt_25 : decode cX5_kindAt 25 = .ok (.iload_n 3, 1) := by decide +kernel
theorem dX5_kindAt_26 : decode cX5_kindAt 26 = .ok (.ireturn, 1) := by decide +kernel
theorem dX5_kindAt_27 : decode cX5_kindAt 27 = .ok (.iinc 3 1, 3) := by decide +kernel
theorem dX5_kindAt_30 : decode cX5_kindAt 30 = .ok (.goto (-28), 3) := by decide +kernel
theorem dX5_kindAt_33 : decode cX5_kindAt 33 = .ok (.iconst (-1), 1) := by decide +kernel
theorem dX5_kindAt_34 : decode cX5_kindAt 34 = .ok (.ireturn, 1) := by decide +kernel
theorem dX5_isDigit_0 : decode cX5_isDigit 0 = .ok (.iload_n 1, 1) := by decide +kernel
theorem dX5_isDigit_1 : decode cX5_isDigit 1 = .ok (.iload_n 2, 1) := by decide +kernel
theorem dX5_isDigit_2 : decode cX5_isDigit 2 = .ok (.if_icmp .ge 22, 3) := by decide +kernel
theorem dX5_isDigit_5 : decode cX5_isDigit 5 = .ok (.aload_n 0, 1) := by decide +kernel
theorem dX5_isDigit_6 : decode cX5_isDigit 6 = .ok (.iload_n 1, 1) := by decide +kernel
theorem dX5_isDigit_7 : decode cX5_isDigit 7 = .ok (.invokevirtual 52, 3) := by decide +kernel
theorem dX5_isDigit_10 : decode cX5_isDigit 10 = .ok (.bipush 48, 2) := by decide +kernel
theorem dX5_isDigit_12 : decode cX5_isDigit 12 = .ok (.bipush 57, 2) := by decide +kernel
theorem dX5_isDigit_14 : decode cX5_isDigit 14 = .ok (.invokestatic 18, 3) := by decide +kernel
theorem dX5_isDigit_17 : decode cX5_isDigit 17 = .ok (.ifCond .eq 7, 3) := by decide +kernel
theorem dX5_isDigit_20 : decode cX5_isDigit 20 = .ok (.iconst 1, 1) := by decide +kernel
theorem dX5_isDigit_21 : decode cX5_isDigit 21 = .ok (.goto 4, 3) := by decide +kernel
theorem dX5_isDigit_24 : decode cX5_isDigit 24 = .ok (.iconst 0, 1) := by decide +kernel
theorem dX5_isDigit_25 : decode cX5_isDigit 25 = .ok (.ireturn, 1) := by decide +kernel
theorem dX5_endOfDigits_0 : decode cX5_endOfDigits 0 = .ok (.iload_n 1, 1) := by decide +kernel
theorem dX5_endOfDigits_1 : decode cX5_endOfDigits 1 = .ok (.istore_n 3, 1) := by decide +kernel
theorem dX5_endOfDigits_2 : decode cX5_endOfDigits 2 = .ok (.iload_n 3, 1) := by decide +kernel
theorem dX5_endOfDigits_3 : decode cX5_endOfDigits 3 = .ok (.iload_n 1, 1) := by decide +kernel
theorem dX5_endOfDigits_4 : decode cX5_endOfDigits 4 = .ok (.iconst 4, 1) := by decide +kernel
theorem dX5_endOfDigits_5 : decode cX5_endOfDigits 5 = .ok (.iadd, 1) := by decide +kernel
theorem dX5_endOfDigits_6 : decode cX5_endOfDigits 6 = .ok (.if_icmp .ge 18, 3) := by decide +kernel
theorem dX5_endOfDigits_9 : decode cX5_endOfDigits 9 = .ok (.aload_n 0, 1) := by decide +kernel
theorem dX5_endOfDigits_10 : decode cX5_endOfDigits 10 = .ok (.iload_n 3, 1) := by decide +kernel
theorem dX5_endOfDigits_11 : decode cX5_endOfDigits 11 = .ok (.iload_n 2, 1) := by decide +kernel
theorem dX5_endOfDigits_12 : decode cX5_endOfDigits 12 = .ok (.invokestatic 48, 3) := by decide +kernel
theorem dX5_endOfDigits_15 : decode cX5_endOfDigits 15 = .ok (.ifCond .eq 9, 3) := by decide +kernel
theorem dX5_endOfDigits_18 : decode cX5_endOfDigits 18 = .ok (.iinc 3 1, 3) := by decide +kernel
theorem dX5_endOfDigits_21 : decode cX5_endOfDigits 21 = .ok (.goto (-19), 3) := by decide +kernel
theorem dX5_endOfDigits_24 : decode cX5_endOfDigits 24 = .ok (.iload_n 3, 1) := by decide +kernel
theorem dX5_endOfDigits_25 : decode cX5_endOfDigits 25 = .ok (.ireturn, 1) := by decide +kernel
theorem dX5_numberBetween_0 : decode cX5_numberBetween 0 = .ok (.iconst 0, 1) := by decide +kernel
theorem dX5_numberBetween_1 : decode cX5_numberBetween 1 = .ok (.istore_n 3, 1) := by decide +kernel
theorem dX5_numberBetween_2 : decode cX5_numberBetween 2 = .ok (.iload_n 1, 1) := by decide +kernel
theorem dX5_numberBetween_3 : decode cX5_numberBetween 3 = .ok (.istore 4, 2) := by decide +kernel
theorem dX5_numberBetween_5 : decode cX5_numberBetween 5 = .ok (.iload 4, 2) := by decide +kernel
theorem dX5_numberBetween_7 : decode cX5_numberBetween 7 = .ok (.iload_n 2, 1) := by decide +kernel
theorem dX5_numberBetween_8 : decode cX5_numberBetween 8 = .ok (.if_icmp .ge 24, 3) := by decide +kernel
theorem dX5_numberBetween_11 : decode cX5_numberBetween 11 = .ok (.iload_n 3, 1) := by decide +kernel
theorem dX5_numberBetween_12 : decode cX5_numberBetween 12 = .ok (.bipush 10, 2) := by decide +kernel
theorem dX5_numberBetween_14 : decode cX5_numberBetween 14 = .ok (.imul, 1) := by decide +kernel
theorem dX5_numberBetween_15 : decode cX5_numberBetween 15 = .ok (.aload_n 0, 1) := by decide +kernel
theorem dX5_numberBetween_16 : decode cX5_numberBetween 16 = .ok (.iload 4, 2) := by decide +kernel
theorem dX5_numberBetween_18 : decode cX5_numberBetween 18 = .ok (.invokevirtual 52, 3) := by decide +kernel
theorem dX5_numberBetween_21 : decode cX5_numberBetween 21 = .ok (.iadd, 1) := by decide +kernel
theorem dX5_numberBetween_22 : decode cX5_numberBetween 22 = .ok (.bipush 48, 2) := by decide +kernel
theorem dX5_numberBetween_24 : decode cX5_numberBetween 24 = .ok (.isub, 1) := by decide +kernel
theorem dX5_numberBetween_25 : decode cX5_numberBetween 25 = .ok (.istore_n 3, 1) := by decide +kernel
theorem dX5_numberBetween_26 : decode cX5_numberBetween 26 = .ok (.iinc 4 1, 3) := by decide +kernel
theorem dX5_numberBetween_29 : decode cX5_numberBetween 29 = .ok (.goto (-24), 3) := by decide +kernel
theorem dX5_numberBetween_32 : decode cX5_numberBetween 32 = .ok (.iload_n 3, 1) := by decide +kernel
theorem dX5_numberBetween_33 : decode cX5_numberBetween 33 = .ok (.ireturn, 1) := by decide +kernel
theorem dX6_init_0 : decode cX6_init 0 = .ok (.aload_n 0, 1) := by decide +kernel
theorem dX6_init_1 : decode cX6_init 1 = .ok (.invokespecial 3, 3) := by decide +kernel
theorem dX6_init_4 : decode cX6_init 4 = .ok (.aload_n 0, 1) := by decide +kernel
theorem dX6_init_5 : decode cX6_init 5 = .ok (.iconst 0, 1) := by decide +kernel
theorem dX6_init_6 : decode cX6_init 6 = .ok (.putfield 9, 3) := by decide +kernel
theorem dX6_init_9 : decode cX6_init 9 = .ok (.aload_n 0, 1) := by decide +kernel
theorem dX6_init_10 : decode cX6_init 10 = .ok (.iconst 0, 1) := by decide +kernel
theorem dX6_init_11 : decode cX6_init 11 = .ok (.putfield 15, 3) := by decide +kernel
theorem dX6_init_14 : decode cX6_init 14 = .ok (.aload_n 0, 1) := by decide +kernel
theorem dX6_init_15 : decode cX6_init 15 = .ok (.iconst (-1), 1) := by decide +kernel
theorem dX6_init_16 : decode cX6_init 16 = .ok (.putfield 18, 3) := by decide +kernel
theorem dX6_init_19 : decode cX6_init 19 = .ok (.return_, 1) := by decide +kernel
theorem dX6_learn_0 : decode cX6_learn 0 = .ok (.aload_n 0, 1) := by decide +kernel
theorem dX6_learn_1 : decode cX6_learn 1 = .ok (.iload_n 1, 1) := by decide +kernel
theorem dX6_learn_2 : decode cX6_learn 2 = .ok (.putfield 9, 3) := by decide +kernel
theorem dX6_learn_5 : decode cX6_learn 5 = .ok (.aload_n 0, 1) := by decide +kernel
theorem dX6_learn_6 : decode cX6_learn 6 = .ok (.iload_n 2, 1) := by decide +kernel
theorem dX6_learn_7 : decode cX6_learn 7 = .ok (.putfield 15, 3) := by decide +kernel
theorem dX6_learn_10 : decode cX6_learn 10 = .ok (.return_, 1) := by decide +kernel
theorem dX6_fits_0 : decode cX6_fits 0 = .ok (.aload_n 0, 1) := by decide +kernel
theorem dX6_fits_1 : decode cX6_fits 1 = .ok (.getfield 9, 3) := by decide +kernel
theorem dX6_fits_4 : decode cX6_fits 4 = .ok (.iload_n 1, 1) := by decide +kernel
theorem dX6_fits_5 : decode cX6_fits 5 = .ok (.invokestatic 21, 3) := by decide +kernel
theorem dX6_fits_8 : decode cX6_fits 8 = .ok (.ifCond .eq 18, 3) := by decide +kernel
theorem dX6_fits_11 : decode cX6_fits 11 = .ok (.aload_n 0, 1) := by decide +kernel
theorem dX6_fits_12 : decode cX6_fits 12 = .ok (.getfield 15, 3) := by decide +kernel
theorem dX6_fits_15 : decode cX6_fits 15 = .ok (.iload_n 2, 1) := by decide +kernel
theorem dX6_fits_16 : decode cX6_fits 16 = .ok (.invokestatic 21, 3) := by decide +kernel
theorem dX6_fits_19 : decode cX6_fits 19 = .ok (.ifCond .eq 7, 3) := by decide +kernel
theorem dX6_fits_22 : decode cX6_fits 22 = .ok (.iconst 1, 1) := by decide +kernel
theorem dX6_fits_23 : decode cX6_fits 23 = .ok (.goto 4, 3) := by decide +kernel
theorem dX6_fits_26 : decode cX6_fits 26 = .ok (.iconst 0, 1) := by decide +kernel
theorem dX6_fits_27 : decode cX6_fits 27 = .ok (.ireturn, 1) := by decide +kernel
theorem dX6_dayHeard_0 : decode cX6_dayHeard 0 = .ok (.aload_n 0, 1) := by decide +kernel
theorem dX6_dayHeard_1 : decode cX6_dayHeard 1 = .ok (.getfield 18, 3) := by decide +kernel
theorem dX6_dayHeard_4 : decode cX6_dayHeard 4 = .ok (.iconst (-1), 1) := by decide +kernel
theorem dX6_dayHeard_5 : decode cX6_dayHeard 5 = .ok (.if_icmp .ne 7, 3) := by decide +kernel
theorem dX6_dayHeard_8 : decode cX6_dayHeard 8 = .ok (.iconst (-1), 1) := by decide +kernel
theorem dX6_dayHeard_9 : decode cX6_dayHeard 9 = .ok (.goto 10, 3) := by decide +kernel
theorem dX6_dayHeard_12 : decode cX6_dayHeard 12 = .ok (.aload_n 0, 1) := by decide +kernel
theorem dX6_dayHeard_13 : decode cX6_dayHeard 13 = .ok (.getfield 18, 3) := by decide +kernel
theorem dX6_dayHeard_16 : decode cX6_dayHeard 16 = .ok (.bipush 6, 2) := by decide +kernel
theorem dX6_dayHeard_18 : decode cX6_dayHeard 18 = .ok (.idiv, 1) := by decide +kernel
theorem dX6_dayHeard_19 : decode cX6_dayHeard 19 = .ok (.ireturn, 1) := by decide +kernel
theorem dX7_init_0 : decode cX7_init 0 = .ok (.aload_n 0, 1) := by decide +kernel
theorem dX7_init_1 : decode cX7_init 1 = .ok (.invokespecial 1, 3) := by decide +kernel
theorem dX7_init_4 : decode cX7_init 4 = .ok (.aload_n 0, 1) := by decide +kernel
theorem dX7_init_5 : decode cX7_init 5 = .ok (.new 7, 3) := by decide +kernel
theorem dX7_init_8 : decode cX7_init 8 = .ok (.dup, 1) := by decide +kernel
theorem dX7_init_9 : decode cX7_init 9 = .ok (.invokespecial 9, 3) := by decide +kernel
theorem dX7_init_12 : decode cX7_init 12 = .ok (.putfield 10, 3) := by decide +kernel
theorem dX7_init_15 : decode cX7_init 15 = .ok (.aload_n 0, 1) := by decide +kernel
theorem dX7_init_16 : decode cX7_init 16 = .ok (.new 16, 3) := by decide +kernel
theorem dX7_init_19 : decode cX7_init 19 = .ok (.dup, 1) := by decide +kernel
theorem dX7_init_20 : decode cX7_init 20 = .ok (.invokespecial 18, 3) := by decide +kernel
theorem dX7_init_23 : decode cX7_init 23 = .ok (.putfield 19, 3) := by decide +kernel
theorem dX7_init_26 : decode cX7_init 26 = .ok (.aload_n 0, 1) := by decide +kernel
theorem dX7_init_27 : decode cX7_init 27 = .ok (.bipush 6, 2) := by decide +kernel
theorem dX7_init_29 : decode cX7_init 29 = .ok (.anewarray 23, 3) := by decide +kernel
theorem dX7_init_32 : decode cX7_init 32 = .ok (.putfield 25, 3) := by decide +kernel
theorem dX7_init_35 : decode cX7_init 35 = .ok (.aload_n 0, 1) := by decide +kernel
theorem dX7_init_36 : decode cX7_init 36 = .ok (.bipush 6, 2) := by decide +kernel
theorem dX7_init_38 : decode cX7_init 38 = .ok (.anewarray 29, 3) := by decide +kernel
theorem dX7_init_41 : decode cX7_init 41 = .ok (.putfield 31, 3) := by decide +kernel
theorem dX7_init_44 : decode cX7_init 44 = .ok (.aload_n 0, 1) := by decide +kernel
theorem dX7_init_45 : decode cX7_init 45 = .ok (.bipush 10, 2) := by decide +kernel
theorem dX7_init_47 : decode cX7_init 47 = .ok (.anewarray 35, 3) := by decide +kernel
theorem dX7_init_50 : decode cX7_init 50 = .ok (.putfield 37, 3) := by decide +kernel
theorem dX7_init_53 : decode cX7_init 53 = .ok (.aload_n 0, 1) := by decide +kernel
theorem dX7_init_54 : decode cX7_init 54 = .ok (.iconst 5, 1) := by decide +kernel
theorem dX7_init_55 : decode cX7_init 55 = .ok (.newarray .int, 2) := by decide +kernel
theorem dX7_init_57 : decode cX7_init 57 = .ok (.dup, 1) := by decide +kernel
theorem dX7_init_58 : decode cX7_init 58 = .ok (.iconst 0, 1) := by decide +kernel
theorem dX7_init_59 : decode cX7_init 59 = .ok (.iconst 1, 1) := by decide +kernel
theorem dX7_init_60 : decode cX7_init 60 = .ok (.iastore, 1) := by decide +kernel
theorem dX7_init_61 : decode cX7_init 61 = .ok (.dup, 1) := by decide +kernel
theorem dX7_init_62 : decode cX7_init 62 = .ok (.iconst 1, 1) := by decide +kernel
theorem dX7_init_63 : decode cX7_init 63 = .ok (.iconst 1, 1) := by decide +kernel
theorem dX7_init_64 : decode cX7_init 64 = .ok (.iastore, 1) := by decide +kernel
theorem dX7_init_65 : decode cX7_init 65 = .ok (.dup, 1) := by decide +kernel
theorem dX7_init_66 : decode cX7_init 66 = .ok (.iconst 2, 1) := by decide +kernel
theorem dX7_init_67 : decode cX7_init 67 = .ok (.iconst 1, 1) := by decide +kernel
theorem dX7_init_68 : decode cX7_init 68 = .ok (.iastore, 1) := by decide +kernel
theorem dX7_init_69 : decode cX7_init 69 = .ok (.dup, 1) := by decide +kernel
theorem dX7_init_70 : decode cX7_init 70 = .ok (.iconst 3, 1) := by decide +kernel
theorem dX7_init_71 : decode cX7_init 71 = .ok (.iconst 1, 1) := by decide +kernel
theorem dX7_init_72 : decode cX7_init 72 = .ok (.iastore, 1) := by decide +kernel
theorem dX7_init_73 : decode cX7_init 73 = .ok (.dup, 1) := by decide +kernel
theorem dX7_init_74 : decode cX7_init 74 = .ok (.iconst 4, 1) := by decide +kernel
theorem dX7_init_75 : decode cX7_init 75 = .ok (.iconst 1, 1) := by decide +kernel
theorem dX7_init_76 : decode cX7_init 76 = .ok (.iastore, 1) := by decide +kernel
theorem dX7_init_77 : decode cX7_init 77 = .ok (.putfield 41, 3) := by decide +kernel
theorem dX7_init_80 : decode cX7_init 80 = .ok (.aload_n 0, 1) := by decide +kernel
theorem dX7_init_81 : decode cX7_init 81 = .ok (.bipush 8, 2) := by decide +kernel
theorem dX7_init_83 : decode cX7_init 83 = .ok (.newarray .int, 2) := by decide +kernel
theorem dX7_init_85 : decode cX7_init 85 = .ok (.putfield 45, 3) := by decide +kernel
theorem dX7_init_88 : decode cX7_init 88 = .ok (.aload_n 0, 1) := by decide +kernel
theorem dX7_init_89 : decode cX7_init 89 = .ok (.new 48, 3) := by decide +kernel
theorem dX7_init_92 : decode cX7_init 92 = .ok (.dup, 1) := by decide +kernel
theorem dX7_init_93 : decode cX7_init 93 = .ok (.invokespecial 50, 3) := by decide +kernel
theorem dX7_init_96 : decode cX7_init 96 = .ok (.putfield 51, 3) := by decide +kernel
theorem dX7_init_99 : decode cX7_init 99 = .ok (.aload_n 0, 1) := by decide +kernel
theorem dX7_init_100 : decode cX7_init 100 = .ok (.iconst 0, 1) := by decide +kernel
theorem dX7_init_101 : decode cX7_init 101 = .ok (.putfield 55, 3) := by decide +kernel
theorem dX7_init_104 : decode cX7_init 104 = .ok (.aload_n 0, 1) := by decide +kernel
theorem dX7_init_105 : decode cX7_init 105 = .ok (.iconst 0, 1) := by decide +kernel
theorem dX7_init_106 : decode cX7_init 106 = .ok (.putfield 59, 3) := by decide +kernel
theorem dX7_init_109 : decode cX7_init 109 = .ok (.aload_n 0, 1) := by decide +kernel
theorem dX7_init_110 : decode cX7_init 110 = .ok (.iconst 0, 1) := by decide +kernel
theorem dX7_init_111 : decode cX7_init 111 = .ok (.putfield 62, 3) := by decide +kernel
theorem dX7_init_114 : decode cX7_init 114 = .ok (.aload_n 0, 1) := by decide +kernel
theorem dX7_init_115 : decode cX7_init 115 = .ok (.iconst 0, 1) := by decide +kernel
theorem dX7_init_116 : decode cX7_init 116 = .ok (.putfield 65, 3) := by decide +kernel
theorem dX7_init_119 : decode cX7_init 119 = .ok (.aload_n 0, 1) := by decide +kernel
theorem dX7_init_120 : decode cX7_init 120 = .ok (.iconst 0, 1) := by decide +kernel
theorem dX7_init_121 : decode cX7_init 121 = .ok (.putfield 68, 3) := by decide +kernel
theorem dX7_init_124 : decode cX7_init 124 = .ok (.iconst 0, 1) := by decide +kernel
theorem dX7_init_125 : decode cX7_init 125 = .ok (.istore_n 1, 1) := by decide +kernel
theorem dX7_init_126 : decode cX7_init 126 = .ok (.iload_n 1, 1) := by decide +kernel
theorem dX7_init_127 : decode cX7_init 127 = .ok (.bipush 6, 2) := by decide +kernel
theorem dX7_init_129 : decode cX7_init 129 = .ok (.if_icmp .ge 22, 3) := by decide +kernel
theorem dX7_init_132 : decode cX7_init 132 = .ok (.aload_n 0, 1) := by decide +kernel
theorem dX7_init_133 : decode cX7_init 133 = .ok (.getfield 25, 3) := by decide +kernel
theorem dX7_init_136 : decode cX7_init 136 = .ok (.iload_n 1, 1) := by decide +kernel
theorem dX7_init_137 : decode cX7_init 137 = .ok (.new 23, 3) := by decide +kernel
theorem dX7_init_140 : decode cX7_init 140 = .ok (.dup, 1) := by decide +kernel
theorem dX7_init_141 : decode cX7_init 141 = .ok (.invokespecial 72, 3) := by decide +kernel
theorem dX7_init_144 : decode cX7_init 144 = .ok (.aastore, 1) := by decide +kernel
theorem dX7_init_145 : decode cX7_init 145 = .ok (.iinc 1 1, 3) := by decide +kernel
theorem dX7_init_148 : decode cX7_init 148 = .ok (.goto (-22), 3) := by decide +kernel
theorem dX7_init_151 : decode cX7_init 151 = .ok (.iconst 0, 1) := by decide +kernel
theorem dX7_init_152 : decode cX7_init 152 = .ok (.istore_n 1, 1) := by decide +kernel
theorem dX7_init_153 : decode cX7_init 153 = .ok (.iload_n 1, 1) := by decide +kernel
theorem dX7_init_154 : decode cX7_init 154 = .ok (.bipush 6, 2) := by decide +kernel
theorem dX7_init_156 : decode cX7_init 156 = .ok (.if_icmp .ge 22, 3) := by decide +kernel
theorem dX7_init_159 : decode cX7_init 159 = .ok (.aload_n 0, 1) := by decide +kernel
theorem dX7_init_160 : decode cX7_init 160 = .ok (.getfield 31, 3) := by decide +kernel
theorem dX7_init_163 : decode cX7_init 163 = .ok (.iload_n 1, 1) := by decide +kernel
theorem dX7_init_164 : decode cX7_init 164 = .ok (.new 29, 3) := by decide +kernel
theorem dX7_init_167 : decode cX7_init 167 = .ok (.dup, 1) := by decide +kernel
theorem dX7_init_168 : decode cX7_init 168 = .ok (.invokespecial 73, 3) := by decide +kernel
theorem dX7_init_171 : decode cX7_init 171 = .ok (.aastore, 1) := by decide +kernel
theorem dX7_init_172 : decode cX7_init 172 = .ok (.iinc 1 1, 3) := by decide +kernel
theorem dX7_init_175 : decode cX7_init 175 = .ok (.goto (-22), 3) := by decide +kernel
theorem dX7_init_178 : decode cX7_init 178 = .ok (.iconst 0, 1) := by decide +kernel
theorem dX7_init_179 : decode cX7_init 179 = .ok (.istore_n 1, 1) := by decide +kernel
theorem dX7_init_180 : decode cX7_init 180 = .ok (.iload_n 1, 1) := by decide +kernel
theorem dX7_init_181 : decode cX7_init 181 = .ok (.bipush 10, 2) := by decide +kernel
theorem dX7_init_183 : decode cX7_init 183 = .ok (.if_icmp .ge 22, 3) := by decide +kernel
theorem dX7_init_186 : decode cX7_init 186 = .ok (.aload_n 0, 1) := by decide +kernel
theorem dX7_init_187 : decode cX7_init 187 = .ok (.getfield 37, 3) := by decide +kernel
theorem dX7_init_190 : decode cX7_init 190 = .ok (.iload_n 1, 1) := by decide +kernel
theorem dX7_init_191 : decode cX7_init 191 = .ok (.new 35, 3) := by decide +kernel
theorem dX7_init_194 : decode cX7_init 194 = .ok (.dup, 1) := by decide +kernel
theorem dX7_init_195 : decode cX7_init 195 = .ok (.invokespecial 74, 3) := by decide +kernel
theorem dX7_init_198 : decode cX7_init 198 = .ok (.aastore, 1) := by decide +kernel
theorem dX7_init_199 : decode cX7_init 199 = .ok (.iinc 1 1, 3) := by decide +kernel
theorem dX7_init_202 : decode cX7_init 202 = .ok (.goto (-22), 3) := by decide +kernel
theorem dX7_init_205 : decode cX7_init 205 = .ok (.return_, 1) := by decide +kernel
theorem dX7_feed_0 : decode cX7_feed 0 = .ok (.aload_n 0, 1) := by decide +kernel
theorem dX7_feed_1 : decode cX7_feed 1 = .ok (.getfield 10, 3) := by decide +kernel
theorem dX7_feed_4 : decode cX7_feed 4 = .ok (.invokevirtual 75, 3) := by decide +kernel
theorem dX7_feed_7 : decode cX7_feed 7 = .ok (.ifCond .ne 5, 3) := by decide +kernel
theorem dX7_feed_10 : decode cX7_feed 10 = .ok (.iconst (-1), 1) := by decide +kernel
theorem dX7_feed_11 : decode cX7_feed 11 = .ok (.ireturn, 1) := by decide +kernel
theorem dX7_feed_12 : decode cX7_feed 12 = .ok (.aload_n 0, 1) := by decide +kernel
theorem dX7_feed_13 : decode cX7_feed 13 = .ok (.getfield 10, 3) := by decide +kernel
theorem dX7_feed_16 : decode cX7_feed 16 = .ok (.iload_n 1, 1) := by decide +kernel
theorem dX7_feed_17 : decode cX7_feed 17 = .ok (.invokevirtual 79, 3) := by decide +kernel
theorem dX7_feed_20 : decode cX7_feed 20 = .ok (.aload_n 0, 1) := by decide +kernel
theorem dX7_feed_21 : decode cX7_feed 21 = .ok (.getfield 10, 3) := by decide +kernel
theorem dX7_feed_24 : decode cX7_feed 24 = .ok (.iload_n 2, 1) := by decide +kernel
theorem dX7_feed_25 : decode cX7_feed 25 = .ok (.invokevirtual 79, 3) := by decide +kernel
theorem dX7_feed_28 : decode cX7_feed 28 = .ok (.aload_n 0, 1) := by decide +kernel
theorem dX7_feed_29 : decode cX7_feed 29 = .ok (.getfield 10, 3) := by decide +kernel
theorem dX7_feed_32 : decode cX7_feed 32 = .ok (.iload_n 3, 1) := by decide +kernel
theorem dX7_feed_33 : decode cX7_feed 33 = .ok (.invokevirtual 79, 3) := by decide +kernel
theorem dX7_feed_36 : decode cX7_feed 36 = .ok (.aload_n 0, 1) := by decide +kernel
theorem dX7_feed_37 : decode cX7_feed 37 = .ok (.getfield 10, 3) := by decide +kernel
theorem dX7_feed_40 : decode cX7_feed 40 = .ok (.iload 4, 2) := by decide +kernel
theorem dX7_feed_42 : decode cX7_feed 42 = .ok (.invokevirtual 79, 3) := by decide +kernel
theorem dX7_feed_45 : decode cX7_feed 45 = .ok (.aload_n 0, 1) := by decide +kernel
theorem dX7_feed_46 : decode cX7_feed 46 = .ok (.getfield 10, 3) := by decide +kernel
theorem dX7_feed_49 : decode cX7_feed 49 = .ok (.iload 5, 2) := by decide +kernel
theorem dX7_feed_51 : decode cX7_feed 51 = .ok (.invokevirtual 79, 3) := by decide +kernel
theorem dX7_feed_54 : decode cX7_feed 54 = .ok (.aload_n 0, 1) := by decide +kernel
theorem dX7_feed_55 : decode cX7_feed 55 = .ok (.getfield 10, 3) := by decide +kernel
theorem dX7_feed_58 : decode cX7_feed 58 = .ok (.invokevirtual 83, 3) := by decide +kernel
theorem dX7_feed_61 : decode cX7_feed 61 = .ok (.ireturn, 1) := by decide +kernel
theorem dX7_word_0 : decode cX7_word 0 = .ok (.iload_n 1, 1) := by decide +kernel
theorem dX7_word_1 : decode cX7_word 1 = .ok (.ifCond .lt 14, 3) := by decide +kernel
theorem dX7_word_4 : decode cX7_word 4 = .ok (.iload_n 1, 1) := by decide +kernel
theorem dX7_word_5 : decode cX7_word 5 = .ok (.aload_n 0, 1) := by decide +kernel
theorem dX7_word_6 : decode cX7_word 6 = .ok (.getfield 10, 3) := by decide +kernel
theorem dX7_word_9 : decode cX7_word 9 = .ok (.invokevirtual 83, 3) := by decide +kernel
theorem dX7_word_12 : decode cX7_word 12 = .ok (.if_icmp .le 5, 3) := by decide +kernel
theorem dX7_word_15 : decode cX7_word 15 = .ok (.iconst (-1), 1) := by decide +kernel
theorem dX7_word_16 : decode cX7_word 16 = .ok (.ireturn, 1) := by decide +kernel
theorem dX7_word_17 : decode cX7_word 17 = .ok (.aload_n 0, 1) := by decide +kernel
theorem dX7_word_18 : decode cX7_word 18 = .ok (.getfield 19, 3) := by decide +kernel
theorem dX7_word_21 : decode cX7_word 21 = .ok (.aload_n 0, 1) := by decide +kernel
theorem dX7_word_22 : decode cX7_word 22 = .ok (.getfield 10, 3) := by decide +kernel
theorem dX7_word_25 : decode cX7_word 25 = .ok (.iload_n 1, 1) := by decide +kernel
theorem dX7_word_26 : decode cX7_word 26 = .ok (.invokevirtual 87, 3) := by decide +kernel
theorem dX7_word_29 : decode cX7_word 29 = .ok (.istore_n 2, 1) := by decide +kernel
theorem dX7_word_30 : decode cX7_word 30 = .ok (.aload_n 0, 1) := by decide +kernel
theorem dX7_word_31 : decode cX7_word 31 = .ok (.getfield 10, 3) := by decide +kernel
theorem dX7_word_34 : decode cX7_word 34 = .ok (.invokevirtual 91, 3) := by decide +kernel
theorem dX7_word_37 : decode cX7_word 37 = .ok (.aload_n 0, 1) := by decide +kernel
theorem dX7_word_38 : decode cX7_word 38 = .ok (.iconst 0, 1) := by decide +kernel
theorem dX7_word_39 : decode cX7_word 39 = .ok (.putfield 68, 3) := by decide +kernel
theorem dX7_word_42 : decode cX7_word 42 = .ok (.iload_n 2, 1) := by decide +kernel
theorem dX7_word_43 : decode cX7_word 43 = .ok (.ireturn, 1) := by decide +kernel
theorem dX7_piper_0 : decode cX7_piper 0 = .ok (.aload_n 0, 1) := by decide +kernel
theorem dX7_piper_1 : decode cX7_piper 1 = .ok (.getfield 55, 3) := by decide +kernel
theorem dX7_piper_4 : decode cX7_piper 4 = .ok (.bipush 6, 2) := by decide +kernel
theorem dX7_piper_6 : decode cX7_piper 6 = .ok (.if_icmp .ge 23, 3) := by decide +kernel
theorem dX7_piper_9 : decode cX7_piper 9 = .ok (.iload_n 1, 1) := by decide +kernel
theorem dX7_piper_10 : decode cX7_piper 10 = .ok (.iconst 1, 1) := by decide +kernel
theorem dX7_piper_11 : decode cX7_piper 11 = .ok (.bipush 9, 2) := by decide +kernel
theorem dX7_piper_13 : decode cX7_piper 13 = .ok (.invokestatic 94, 3) := by decide +kernel
theorem dX7_piper_16 : decode cX7_piper 16 = .ok (.ifCond .eq 13, 3) := by decide +kernel
theorem dX7_piper_19 : decode cX7_piper 19 = .ok (.iload_n 2, 1) := by decide +kernel
theorem dX7_piper_20 : decode cX7_piper 20 = .ok (.iconst 1, 1) := by decide +kernel
theorem dX7_piper_21 : decode cX7_piper 21 = .ok (.bipush 31, 2) := by decide +kernel
theorem dX7_piper_23 : decode cX7_piper 23 = .ok (.invokestatic 94, 3) := by decide +kernel
theorem dX7_piper_26 : decode cX7_piper 26 = .ok (.ifCond .ne 5, 3) := by decide +kernel
theorem dX7_piper_29 : decode cX7_piper 29 = .ok (.iconst (-1), 1) := by decide +kernel
theorem dX7_piper_30 : decode cX7_piper 30 = .ok (.ireturn, 1) := by decide +kernel
theorem dX7_piper_31 : decode cX7_piper 31 = .ok (.aload_n 0, 1) := by decide +kernel
theorem dX7_piper_32 : decode cX7_piper 32 = .ok (.getfield 55, 3) := by decide +kernel
theorem dX7_piper_35 : decode cX7_piper 35 = .ok (.istore_n 3, 1) := by decide +kernel
theorem dX7_piper_36 : decode cX7_piper 36 = .ok (.aload_n 0, 1) := by decide +kernel
theorem dX7_piper_37 : decode cX7_piper 37 = .ok (.getfield 25, 3) := by decide +kernel
theorem dX7_piper_40 : decode cX7_piper 40 = .ok (.iload_n 3, 1) := by decide +kernel
theorem dX7_piper_41 : decode cX7_piper 41 = .ok (.aaload, 1) := by decide +kernel
theorem dX7_piper_42 : decode cX7_piper 42 = .ok (.iload_n 1, 1) := by decide +kernel
theorem dX7_piper_43 : decode cX7_piper 43 = .ok (.iload_n 2, 1) := by decide +kernel
theorem dX7_piper_44 : decode cX7_piper 44 = .ok (.invokevirtual 98, 3) := by decide +kernel
theorem dX7_piper_47 : decode cX7_piper 47 = .ok (.aload_n 0, 1) := by decide +kernel
theorem dX7_piper_48 : decode cX7_piper 48 = .ok (.dup, 1) := by decide +kernel
theorem dX7_piper_49 : decode cX7_piper 49 = .ok (.getfield 55, 3) := by decide +kernel
theorem dX7_piper_52 : decode cX7_piper 52 = .ok (.iconst 1, 1) := by decide +kernel
theorem dX7_piper_53 : decode cX7_piper 53 = .ok (.iadd, 1) := by decide +kernel
theorem dX7_piper_54 : decode cX7_piper 54 = .ok (.putfield 55, 3) := by decide +kernel
theorem dX7_piper_57 : decode cX7_piper 57 = .ok (.aload_n 0, 1) := by decide +kernel
theorem dX7_piper_58 : decode cX7_piper 58 = .ok (.iconst 0, 1) := by decide +kernel
theorem dX7_piper_59 : decode cX7_piper 59 = .ok (.putfield 68, 3) := by decide +kernel
theorem dX7_piper_62 : decode cX7_piper 62 = .ok (.iload_n 3, 1) := by decide +kernel
theorem dX7_piper_63 : decode cX7_piper 63 = .ok (.ireturn, 1) := by decide +kernel
theorem dX7_ill_0 : decode cX7_ill 0 = .ok (.iload_n 2, 1) := by decide +kernel
theorem dX7_ill_1 : decode cX7_ill 1 = .ok (.ifCond .eq 7, 3) := by decide +kernel
theorem dX7_ill_4 : decode cX7_ill 4 = .ok (.iconst 1, 1) := by decide +kernel
theorem dX7_ill_5 : decode cX7_ill 5 = .ok (.goto 4, 3) := by decide +kernel
theorem dX7_ill_8 : decode cX7_ill 8 = .ok (.iconst 0, 1) := by decide +kernel
theorem dX7_ill_9 : decode cX7_ill 9 = .ok (.istore_n 3, 1) := by decide +kernel
theorem dX7_ill_10 : decode cX7_ill 10 = .ok (.aload_n 0, 1) := by decide +kernel
theorem dX7_ill_11 : decode cX7_ill 11 = .ok (.iload_n 1, 1) := by decide +kernel
theorem dX7_ill_12 : decode cX7_ill 12 = .ok (.invokevirtual 102, 3) := by decide +kernel
theorem dX7_ill_15 : decode cX7_ill 15 = .ok (.ifCond .eq 29, 3) := by decide +kernel
theorem dX7_ill_18 : decode cX7_ill 18 = .ok (.aload_n 0, 1) := by decide +kernel
theorem dX7_ill_19 : decode cX7_ill 19 = .ok (.getfield 25, 3) := by decide +kernel
theorem dX7_ill_22 : decode cX7_ill 22 = .ok (.iload_n 1, 1) := by decide +kernel
theorem dX7_ill_23 : decode cX7_ill 23 = .ok (.aaload, 1) := by decide +kernel
theorem dX7_ill_24 : decode cX7_ill 24 = .ok (.getfield 106, 3) := by decide +kernel
theorem dX7_ill_27 : decode cX7_ill 27 = .ok (.iconst 2, 1) := by decide +kernel
theorem dX7_ill_28 : decode cX7_ill 28 = .ok (.if_icmp .eq 16, 3) := by decide +kernel
theorem dX7_ill_31 : decode cX7_ill 31 = .ok (.aload_n 0, 1) := by decide +kernel
theorem dX7_ill_32 : decode cX7_ill 32 = .ok (.getfield 25, 3) := by decide +kernel
theorem dX7_ill_35 : decode cX7_ill 35 = .ok (.iload_n 1, 1) := by decide +kernel
theorem dX7_ill_36 : decode cX7_ill 36 = .ok (.aaload, 1) := by decide +kernel
theorem dX7_ill_37 : decode cX7_ill 37 = .ok (.getfield 106, 3) := by decide +kernel
theorem dX7_ill_40 : decode cX7_ill 40 = .ok (.iload_n 3, 1) := by decide +kernel
theorem dX7_ill_41 : decode cX7_ill 41 = .ok (.if_icmp .ne 5, 3) := by decide +kernel
theorem dX7_ill_44 : decode cX7_ill 44 = .ok (.iconst 0, 1) := by decide +kernel
theorem dX7_ill_45 : decode cX7_ill 45 = .ok (.ireturn, 1) := by decide +kernel
theorem dX7_ill_46 : decode cX7_ill 46 = .ok (.aload_n 0, 1) := by decide +kernel
theorem dX7_ill_47 : decode cX7_ill 47 = .ok (.getfield 25, 3) := by decide +kernel
theorem dX7_ill_50 : decode cX7_ill 50 = .ok (.iload_n 1, 1) := by decide +kernel
theorem dX7_ill_51 : decode cX7_ill 51 = .ok (.aaload, 1) := by decide +kernel
theorem dX7_ill_52 : decode cX7_ill 52 = .ok (.iload_n 3, 1) := by decide +kernel
theorem dX7_ill_53 : decode cX7_ill 53 = .ok (.putfield 106, 3) := by decide +kernel
theorem dX7_ill_56 : decode cX7_ill 56 = .ok (.aload_n 0, 1) := by decide +kernel
theorem dX7_ill_57 : decode cX7_ill 57 = .ok (.iconst 0, 1) := by decide +kernel
theorem dX7_ill_58 : decode cX7_ill 58 = .ok (.putfield 68, 3) := by decide +kernel
theorem dX7_ill_61 : decode cX7_ill 61 = .ok (.iconst 1, 1) := by decide +kernel
theorem dX7_ill_62 : decode cX7_ill 62 = .ok (.ireturn, 1) := by decide +kernel
theorem dX7_old_0 : decode cX7_old 0 = .ok (.aload_n 0, 1) := by decide +kernel
theorem dX7_old_1 : decode cX7_old 1 = .ok (.iload_n 1, 1) := by decide +kernel
theorem dX7_old_2 : decode cX7_old 2 = .ok (.invokevirtual 102, 3) := by decide +kernel
theorem dX7_old_5 : decode cX7_old 5 = .ok (.ifCond .eq 16, 3) := by decide +kernel
theorem dX7_old_8 : decode cX7_old 8 = .ok (.aload_n 0, 1) := by decide +kernel
theorem dX7_old_9 : decode cX7_old 9 = .ok (.getfield 25, 3) := by decide +kernel
theorem dX7_old_12 : decode cX7_old 12 = .ok (.iload_n 1, 1) := by decide +kernel
theorem dX7_old_13 : decode cX7_old 13 = .ok (.aaload, 1) := by decide +kernel
theorem dX7_old_14 : decode cX7_old 14 = .ok (.getfield 106, 3) := by decide +kernel
theorem dX7_old_17 : decode cX7_old 17 = .ok (.iconst 2, 1) := by decide +kernel
theorem dX7_old_18 : decode cX7_old 18 = .ok (.if_icmp .ne 5, 3) := by decide +kernel
theorem dX7_old_21 : decode cX7_old 21 = .ok (.iconst 0, 1) := by decide +kernel
theorem dX7_old_22 : decode cX7_old 22 = .ok (.ireturn, 1) := by decide +kernel
theorem dX7_old_23 : decode cX7_old 23 = .ok (.aload_n 0, 1) := by decide +kernel
theorem dX7_old_24 : decode cX7_old 24 = .ok (.getfield 25, 3) := by decide +kernel
theorem dX7_old_27 : decode cX7_old 27 = .ok (.iload_n 1, 1) := by decide +kernel
theorem dX7_old_28 : decode cX7_old 28 = .ok (.aaload, 1) := by decide +kernel
theorem dX7_old_29 : decode cX7_old 29 = .ok (.iconst 2, 1) := by decide +kernel
theorem dX7_old_30 : decode cX7_old 30 = .ok (.putfield 106, 3) := by decide +kernel
theorem dX7_old_33 : decode cX7_old 33 = .ok (.aload_n 0, 1) := by decide +kernel
theorem dX7_old_34 : decode cX7_old 34 = .ok (.iconst 0, 1) := by decide +kernel
theorem dX7_old_35 : decode cX7_old 35 = .ok (.putfield 68, 3) := by decide +kernel
theorem dX7_old_38 : decode cX7_old 38 = .ok (.iconst 1, 1) := by decide +kernel
theorem dX7_old_39 : decode cX7_old 39 = .ok (.ireturn, 1) := by decide +kernel
theorem dX7_pieces_0 : decode cX7_pieces 0 = .ok (.iload_n 1, 1) := by decide +kernel
theorem dX7_pieces_1 : decode cX7_pieces 1 = .ok (.iconst 0, 1) := by decide +kernel
theorem dX7_pieces_2 : decode cX7_pieces 2 = .ok (.iconst 4, 1) := by decide +kernel
theorem dX7_pieces_3 : decode cX7_pieces 3 = .ok (.invokestatic 94, 3) := by decide +kernel
theorem dX7_pieces_6 : decode cX7_pieces 6 = .ok (.ifCond .eq 12, 3) := by decide +kernel
theorem dX7_pieces_9 : decode cX7_pieces 9 = .ok (.iload_n 2, 1) := by decide +kernel
theorem dX7_pieces_10 : decode cX7_pieces 10 = .ok (.iconst 0, 1) := by decide +kernel
theorem dX7_pieces_11 : decode cX7_pieces 11 = .ok (.iconst 3, 1) := by decide +kernel
theorem dX7_pieces_12 : decode cX7_pieces 12 = .ok (.invokestatic 94, 3) := by decide +kernel
theorem dX7_pieces_15 : decode cX7_pieces 15 = .ok (.ifCond .ne 5, 3) := by decide +kernel
theorem dX7_pieces_18 : decode cX7_pieces 18 = .ok (.iconst 0, 1) := by decide +kernel
theorem dX7_pieces_19 : decode cX7_pieces 19 = .ok (.ireturn, 1) := by decide +kernel
theorem dX7_pieces_20 : decode cX7_pieces 20 = .ok (.aload_n 0, 1) := by decide +kernel
theorem dX7_pieces_21 : decode cX7_pieces 21 = .ok (.getfield 41, 3) := by decide +kernel
theorem dX7_pieces_24 : decode cX7_pieces 24 = .ok (.iload_n 1, 1) := by decide +kernel
theorem dX7_pieces_25 : decode cX7_pieces 25 = .ok (.iload_n 2, 1) := by decide +kernel
theorem dX7_pieces_26 : decode cX7_pieces 26 = .ok (.iastore, 1) := by decide +kernel
theorem dX7_pieces_27 : decode cX7_pieces 27 = .ok (.aload_n 0, 1) := by decide +kernel
theorem dX7_pieces_28 : decode cX7_pieces 28 = .ok (.iconst 0, 1) := by decide +kernel
theorem dX7_pieces_29 : decode cX7_pieces 29 = .ok (.putfield 68, 3) := by decide +kernel
theorem dX7_pieces_32 : decode cX7_pieces 32 = .ok (.iconst 1, 1) := by decide +kernel
theorem dX7_pieces_33 : decode cX7_pieces 33 = .ok (.ireturn, 1) := by decide +kernel
theorem dX7_call_0 : decode cX7_call 0 = .ok (.aload_n 0, 1) := by decide +kernel
theorem dX7_call_1 : decode cX7_call 1 = .ok (.getfield 45, 3) := by decide +kernel
theorem dX7_call_4 : decode cX7_call 4 = .ok (.iconst 0, 1) := by decide +kernel
theorem dX7_call_5 : decode cX7_call 5 = .ok (.iload_n 1, 1) := by decide +kernel
theorem dX7_call_6 : decode cX7_call 6 = .ok (.iastore, 1) := by decide +kernel
theorem dX7_call_7 : decode cX7_call 7 = .ok (.aload_n 0, 1) := by decide +kernel
theorem dX7_call_8 : decode cX7_call 8 = .ok (.getfield 45, 3) := by decide +kernel
theorem dX7_call_11 : decode cX7_call 11 = .ok (.iconst 1, 1) := by decide +kernel
theorem dX7_call_12 : decode cX7_call 12 = .ok (.iload_n 2, 1) := by decide +kernel
theorem dX7_call_13 : decode cX7_call 13 = .ok (.iastore, 1) := by decide +kernel
theorem dX7_call_14 : decode cX7_call 14 = .ok (.aload_n 0, 1) := by decide +kernel
theorem dX7_call_15 : decode cX7_call 15 = .ok (.getfield 45, 3) := by decide +kernel
theorem dX7_call_18 : decode cX7_call 18 = .ok (.iconst 2, 1) := by decide +kernel
theorem dX7_call_19 : decode cX7_call 19 = .ok (.iload_n 3, 1) := by decide +kernel
theorem dX7_call_20 : decode cX7_call 20 = .ok (.iastore, 1) := by decide +kernel
theorem dX7_call_21 : decode cX7_call 21 = .ok (.aload_n 0, 1) := by decide +kernel
theorem dX7_call_22 : decode cX7_call 22 = .ok (.getfield 45, 3) := by decide +kernel
theorem dX7_call_25 : decode cX7_call 25 = .ok (.iconst 3, 1) := by decide +kernel
theorem dX7_call_26 : decode cX7_call 26 = .ok (.iload 4, 2) := by decide +kernel
theorem dX7_call_28 : decode cX7_call 28 = .ok (.iastore, 1) := by decide +kernel
theorem dX7_call_29 : decode cX7_call 29 = .ok (.aload_n 0, 1) := by decide +kernel
theorem dX7_call_30 : decode cX7_call 30 = .ok (.getfield 45, 3) := by decide +kernel
theorem dX7_call_33 : decode cX7_call 33 = .ok (.iconst 4, 1) := by decide +kernel
theorem dX7_call_34 : decode cX7_call 34 = .ok (.iload 5, 2) := by decide +kernel
theorem dX7_call_36 : decode cX7_call 36 = .ok (.iastore, 1) := by decide +kernel
theorem dX7_call_37 : decode cX7_call 37 = .ok (.aload_n 0, 1) := by decide +kernel
theorem dX7_call_38 : decode cX7_call 38 = .ok (.getfield 45, 3) := by decide +kernel
theorem dX7_call_41 : decode cX7_call 41 = .ok (.iconst 5, 1) := by decide +kernel
theorem dX7_call_42 : decode cX7_call 42 = .ok (.iload 6, 2) := by decide +kernel
theorem dX7_call_44 : decode cX7_call 44 = .ok (.iastore, 1) := by decide +kernel
theorem dX7_call_45 : decode cX7_call 45 = .ok (.aload_n 0, 1) := by decide +kernel
theorem dX7_call_46 : decode cX7_call 46 = .ok (.getfield 45, 3) := by decide +kernel
theorem dX7_call_49 : decode cX7_call 49 = .ok (.bipush 6, 2) := by decide +kernel
theorem dX7_call_51 : decode cX7_call 51 = .ok (.iload 7, 2) := by decide +kernel
theorem dX7_call_53 : decode cX7_call 53 = .ok (.iastore, 1) := by decide +kernel
theorem dX7_call_54 : decode cX7_call 54 = .ok (.aload_n 0, 1) := by decide +kernel
theorem dX7_call_55 : decode cX7_call 55 = .ok (.getfield 45, 3) := by decide +kernel
theorem dX7_call_58 : decode cX7_call 58 = .ok (.bipush 7, 2) := by decide +kernel
theorem dX7_call_60 : decode cX7_call 60 = .ok (.iload 8, 2) := by decide +kernel
theorem dX7_call_62 : decode cX7_call 62 = .ok (.iastore, 1) := by decide +kernel
theorem dX7_call_63 : decode cX7_call 63 = .ok (.aload_n 0, 1) := by decide +kernel
theorem dX7_call_64 : decode cX7_call 64 = .ok (.invokevirtual 109, 3) := by decide +kernel
theorem dX7_call_67 : decode cX7_call 67 = .ok (.istore 9, 2) := by decide +kernel
theorem dX7_call_69 : decode cX7_call 69 = .ok (.iload 9, 2) := by decide +kernel
theorem dX7_call_71 : decode cX7_call 71 = .ok (.iconst (-1), 1) := by decide +kernel
theorem dX7_call_72 : decode cX7_call 72 = .ok (.if_icmp .eq 13, 3) := by decide +kernel
theorem dX7_call_75 : decode cX7_call 75 = .ok (.aload_n 0, 1) := by decide +kernel
theorem dX7_call_76 : decode cX7_call 76 = .ok (.getfield 45, 3) := by decide +kernel
theorem dX7_call_79 : decode cX7_call 79 = .ok (.invokestatic 112, 3) := by decide +kernel
theorem dX7_call_82 : decode cX7_call 82 = .ok (.ifCond .ne 5, 3) := by decide +kernel
theorem dX7_call_85 : decode cX7_call 85 = .ok (.iconst (-1), 1) := by decide +kernel
theorem dX7_call_86 : decode cX7_call 86 = .ok (.ireturn, 1) := by decide +kernel
theorem dX7_call_87 : decode cX7_call 87 = .ok (.aload_n 0, 1) := by decide +kernel
theorem dX7_call_88 : decode cX7_call 88 = .ok (.getfield 31, 3) := by decide +kernel
theorem dX7_call_91 : decode cX7_call 91 = .ok (.iload 9, 2) := by decide +kernel
theorem dX7_call_93 : decode cX7_call 93 = .ok (.aaload, 1) := by decide +kernel
theorem dX7_call_94 : decode cX7_call 94 = .ok (.aload_n 0, 1) := by decide +kernel
theorem dX7_call_95 : decode cX7_call 95 = .ok (.getfield 45, 3) := by decide +kernel
theorem dX7_call_98 : decode cX7_call 98 = .ok (.invokevirtual 116, 3) := by decide +kernel
theorem dX7_call_101 : decode cX7_call 101 = .ok (.aload_n 0, 1) := by decide +kernel
theorem dX7_call_102 : decode cX7_call 102 = .ok (.iconst 0, 1) := by decide +kernel
theorem dX7_call_103 : decode cX7_call 103 = .ok (.putfield 68, 3) := by decide +kernel
theorem dX7_call_106 : decode cX7_call 106 = .ok (.iload 9, 2) := by decide +kernel
theorem dX7_call_108 : decode cX7_call 108 = .ok (.ireturn, 1) := by decide +kernel
theorem dX7_off_0 : decode cX7_off 0 = .ok (.aload_n 0, 1) := by decide +kernel
theorem dX7_off_1 : decode cX7_off 1 = .ok (.iload_n 1, 1) := by decide +kernel
theorem dX7_off_2 : decode cX7_off 2 = .ok (.invokevirtual 120, 3) := by decide +kernel
theorem dX7_off_5 : decode cX7_off 5 = .ok (.ifCond .ne 5, 3) := by decide +kernel
theorem dX7_off_8 : decode cX7_off 8 = .ok (.iconst 0, 1) := by decide +kernel
theorem dX7_off_9 : decode cX7_off 9 = .ok (.ireturn, 1) := by decide +kernel
theorem dX7_off_10 : decode cX7_off 10 = .ok (.aload_n 0, 1) := by decide +kernel
theorem dX7_off_11 : decode cX7_off 11 = .ok (.getfield 31, 3) := by decide +kernel
theorem dX7_off_14 : decode cX7_off 14 = .ok (.iload_n 1, 1) := by decide +kernel
theorem dX7_off_15 : decode cX7_off 15 = .ok (.aaload, 1) := by decide +kernel
theorem dX7_off_16 : decode cX7_off 16 = .ok (.invokevirtual 123, 3) := by decide +kernel
theorem dX7_off_19 : decode cX7_off 19 = .ok (.aload_n 0, 1) := by decide +kernel
theorem dX7_off_20 : decode cX7_off 20 = .ok (.iconst 0, 1) := by decide +kernel
theorem dX7_off_21 : decode cX7_off 21 = .ok (.putfield 68, 3) := by decide +kernel
theorem dX7_off_24 : decode cX7_off 24 = .ok (.iconst 1, 1) := by decide +kernel
theorem dX7_off_25 : decode cX7_off 25 = .ok (.ireturn, 1) := by decide +kernel
theorem dX7_played_0 : decode cX7_played 0 = .ok (.aload_n 0, 1) := by decide +kernel
theorem dX7_played_1 : decode cX7_played 1 = .ok (.invokevirtual 126, 3) := by decide +kernel
theorem dX7_played_4 : decode cX7_played 4 = .ok (.invokevirtual 130, 3) := by decide +kernel
theorem dX7_played_7 : decode cX7_played 7 = .ok (.ireturn, 1) := by decide +kernel
theorem dX7_who_0 : decode cX7_who 0 = .ok (.aload_n 0, 1) := by decide +kernel
theorem dX7_who_1 : decode cX7_who 1 = .ok (.invokevirtual 126, 3) := by decide +kernel
theorem dX7_who_4 : decode cX7_who 4 = .ok (.iload_n 1, 1) := by decide +kernel
theorem dX7_who_5 : decode cX7_who 5 = .ok (.iload_n 2, 1) := by decide +kernel
theorem dX7_who_6 : decode cX7_who 6 = .ok (.invokevirtual 133, 3) := by decide +kernel
theorem dX7_who_9 : decode cX7_who 9 = .ok (.ireturn, 1) := by decide +kernel
theorem dX7_tune_0 : decode cX7_tune 0 = .ok (.aload_n 0, 1) := by decide +kernel
theorem dX7_tune_1 : decode cX7_tune 1 = .ok (.getfield 59, 3) := by decide +kernel
theorem dX7_tune_4 : decode cX7_tune 4 = .ok (.bipush 10, 2) := by decide +kernel
theorem dX7_tune_6 : decode cX7_tune 6 = .ok (.if_icmp .ge 24, 3) := by decide +kernel
theorem dX7_tune_9 : decode cX7_tune 9 = .ok (.iload_n 1, 1) := by decide +kernel
theorem dX7_tune_10 : decode cX7_tune 10 = .ok (.iconst 0, 1) := by decide +kernel
