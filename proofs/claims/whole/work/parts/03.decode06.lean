theorem dX8_works_10 : decode cX8_works 10 = .ok (.istore_n 1, 1) := by decide +kernel
theorem dX8_works_11 : decode cX8_works 11 = .ok (.iload_n 1, 1) := by decide +kernel
theorem dX8_works_12 : decode cX8_works 12 = .ok (.aload_n 0, 1) := by decide +kernel
theorem dX8_works_13 : decode cX8_works 13 = .ok (.getfield 115, 3) := by decide +kernel
theorem dX8_works_16 : decode cX8_works 16 = .ok (.if_icmp .ge 52, 3) := by decide +kernel
theorem dX8_works_19 : decode cX8_works 19 = .ok (.aload_n 0, 1) := by decide +kernel
theorem dX8_works_20 : decode cX8_works 20 = .ok (.dup, 1) := by decide +kernel
theorem dX8_works_21 : decode cX8_works 21 = .ok (.getfield 127, 3) := by decide +kernel
theorem dX8_works_24 : decode cX8_works 24 = .ok (.iconst 1, 1) := by decide +kernel
theorem dX8_works_25 : decode cX8_works 25 = .ok (.aload_n 0, 1) := by decide +kernel
theorem dX8_works_26 : decode cX8_works 26 = .ok (.getfield 50, 3) := by decide +kernel
theorem dX8_works_29 : decode cX8_works 29 = .ok (.iload_n 1, 1) := by decide +kernel
theorem dX8_works_30 : decode cX8_works 30 = .ok (.iaload, 1) := by decide +kernel
theorem dX8_works_31 : decode cX8_works 31 = .ok (.ishl, 1) := by decide +kernel
theorem dX8_works_32 : decode cX8_works 32 = .ok (.ior, 1) := by decide +kernel
theorem dX8_works_33 : decode cX8_works 33 = .ok (.putfield 127, 3) := by decide +kernel
theorem dX8_works_36 : decode cX8_works 36 = .ok (.aload_n 0, 1) := by decide +kernel
theorem dX8_works_37 : decode cX8_works 37 = .ok (.invokevirtual 151, 3) := by decide +kernel
theorem dX8_works_40 : decode cX8_works 40 = .ok (.ifCond .ne 22, 3) := by decide +kernel
theorem dX8_works_43 : decode cX8_works 43 = .ok (.aload_n 0, 1) := by decide +kernel
theorem dX8_works_44 : decode cX8_works 44 = .ok (.dup, 1) := by decide +kernel
theorem dX8_works_45 : decode cX8_works 45 = .ok (.getfield 127, 3) := by decide +kernel
theorem dX8_works_48 : decode cX8_works 48 = .ok (.iconst 1, 1) := by decide +kernel
theorem dX8_works_49 : decode cX8_works 49 = .ok (.aload_n 0, 1) := by decide +kernel
theorem dX8_works_50 : decode cX8_works 50 = .ok (.getfield 50, 3) := by decide +kernel
theorem dX8_works_53 : decode cX8_works 53 = .ok (.iload_n 1, 1) := by decide +kernel
theorem dX8_works_54 : decode cX8_works 54 = .ok (.iaload, 1) := by decide +kernel
theorem dX8_works_55 : decode cX8_works 55 = .ok (.ishl, 1) := by decide +kernel
theorem dX8_works_56 : decode cX8_works 56 = .ok (.iconst (-1), 1) := by decide +kernel
theorem dX8_works_57 : decode cX8_works 57 = .ok (.ixor, 1) := by decide +kernel
theorem dX8_works_58 : decode cX8_works 58 = .ok (.iand, 1) := by decide +kernel
theorem dX8_works_59 : decode cX8_works 59 = .ok (.putfield 127, 3) := by decide +kernel
theorem dX8_works_62 : decode cX8_works 62 = .ok (.iinc 1 1, 3) := by decide +kernel
theorem dX8_works_65 : decode cX8_works 65 = .ok (.goto (-54), 3) := by decide +kernel
theorem dX8_works_68 : decode cX8_works 68 = .ok (.aload_n 0, 1) := by decide +kernel
theorem dX8_works_69 : decode cX8_works 69 = .ok (.invokevirtual 151, 3) := by decide +kernel
theorem dX8_works_72 : decode cX8_works 72 = .ok (.istore_n 1, 1) := by decide +kernel
theorem dX8_works_73 : decode cX8_works 73 = .ok (.aload_n 0, 1) := by decide +kernel
theorem dX8_works_74 : decode cX8_works 74 = .ok (.getfield 127, 3) := by decide +kernel
theorem dX8_works_77 : decode cX8_works 77 = .ok (.ireturn, 1) := by decide +kernel
theorem dX8_played_0 : decode cX8_played 0 = .ok (.aload_n 0, 1) := by decide +kernel
theorem dX8_played_1 : decode cX8_played 1 = .ok (.invokevirtual 154, 3) := by decide +kernel
theorem dX8_played_4 : decode cX8_played 4 = .ok (.ireturn, 1) := by decide +kernel
theorem dX8_whoHas_0 : decode cX8_whoHas 0 = .ok (.iconst 0, 1) := by decide +kernel
theorem dX8_whoHas_1 : decode cX8_whoHas 1 = .ok (.istore_n 3, 1) := by decide +kernel
theorem dX8_whoHas_2 : decode cX8_whoHas 2 = .ok (.iconst 0, 1) := by decide +kernel
theorem dX8_whoHas_3 : decode cX8_whoHas 3 = .ok (.istore 4, 2) := by decide +kernel
theorem dX8_whoHas_5 : decode cX8_whoHas 5 = .ok (.iload 4, 2) := by decide +kernel
theorem dX8_whoHas_7 : decode cX8_whoHas 7 = .ok (.aload_n 0, 1) := by decide +kernel
theorem dX8_whoHas_8 : decode cX8_whoHas 8 = .ok (.getfield 124, 3) := by decide +kernel
theorem dX8_whoHas_11 : decode cX8_whoHas 11 = .ok (.if_icmp .ge 39, 3) := by decide +kernel
theorem dX8_whoHas_14 : decode cX8_whoHas 14 = .ok (.aload_n 0, 1) := by decide +kernel
theorem dX8_whoHas_15 : decode cX8_whoHas 15 = .ok (.getfield 53, 3) := by decide +kernel
theorem dX8_whoHas_18 : decode cX8_whoHas 18 = .ok (.iload 4, 2) := by decide +kernel
theorem dX8_whoHas_20 : decode cX8_whoHas 20 = .ok (.iaload, 1) := by decide +kernel
theorem dX8_whoHas_21 : decode cX8_whoHas 21 = .ok (.iload_n 1, 1) := by decide +kernel
theorem dX8_whoHas_22 : decode cX8_whoHas 22 = .ok (.if_icmp .eq 6, 3) := by decide +kernel
theorem dX8_whoHas_25 : decode cX8_whoHas 25 = .ok (.goto 19, 3) := by decide +kernel
theorem dX8_whoHas_28 : decode cX8_whoHas 28 = .ok (.iload_n 3, 1) := by decide +kernel
theorem dX8_whoHas_29 : decode cX8_whoHas 29 = .ok (.iload_n 2, 1) := by decide +kernel
theorem dX8_whoHas_30 : decode cX8_whoHas 30 = .ok (.if_icmp .ne 11, 3) := by decide +kernel
theorem dX8_whoHas_33 : decode cX8_whoHas 33 = .ok (.aload_n 0, 1) := by decide +kernel
theorem dX8_whoHas_34 : decode cX8_whoHas 34 = .ok (.getfield 59, 3) := by decide +kernel
theorem dX8_whoHas_37 : decode cX8_whoHas 37 = .ok (.iload 4, 2) := by decide +kernel
theorem dX8_whoHas_39 : decode cX8_whoHas 39 = .ok (.iaload, 1) := by decide +kernel
theorem dX8_whoHas_40 : decode cX8_whoHas 40 = .ok (.ireturn, 1) := by decide +kernel
theorem dX8_whoHas_41 : decode cX8_whoHas 41 = .ok (.iinc 3 1, 3) := by decide +kernel
theorem dX8_whoHas_44 : decode cX8_whoHas 44 = .ok (.iinc 4 1, 3) := by decide +kernel
theorem dX8_whoHas_47 : decode cX8_whoHas 47 = .ok (.goto (-42), 3) := by decide +kernel
theorem dX8_whoHas_50 : decode cX8_whoHas 50 = .ok (.iconst (-1), 1) := by decide +kernel
theorem dX8_whoHas_51 : decode cX8_whoHas 51 = .ok (.ireturn, 1) := by decide +kernel
theorem dX8_who_0 : decode cX8_who 0 = .ok (.aload_n 0, 1) := by decide +kernel
theorem dX8_who_1 : decode cX8_who 1 = .ok (.iload_n 1, 1) := by decide +kernel
theorem dX8_who_2 : decode cX8_who 2 = .ok (.invokevirtual 112, 3) := by decide +kernel
theorem dX8_who_5 : decode cX8_who 5 = .ok (.ifCond .eq 23, 3) := by decide +kernel
theorem dX8_who_8 : decode cX8_who 8 = .ok (.iload_n 2, 1) := by decide +kernel
theorem dX8_who_9 : decode cX8_who 9 = .ok (.iconst 0, 1) := by decide +kernel
theorem dX8_who_10 : decode cX8_who 10 = .ok (.iconst 1, 1) := by decide +kernel
theorem dX8_who_11 : decode cX8_who 11 = .ok (.invokestatic 91, 3) := by decide +kernel
theorem dX8_who_14 : decode cX8_who 14 = .ok (.ifCond .eq 14, 3) := by decide +kernel
theorem dX8_who_17 : decode cX8_who 17 = .ok (.aload_n 0, 1) := by decide +kernel
theorem dX8_who_18 : decode cX8_who 18 = .ok (.invokevirtual 154, 3) := by decide +kernel
theorem dX8_who_21 : decode cX8_who 21 = .ok (.iload_n 1, 1) := by decide +kernel
theorem dX8_who_22 : decode cX8_who 22 = .ok (.invokestatic 130, 3) := by decide +kernel
theorem dX8_who_25 : decode cX8_who 25 = .ok (.ifCond .ne 7, 3) := by decide +kernel
theorem dX8_who_28 : decode cX8_who 28 = .ok (.iconst (-1), 1) := by decide +kernel
theorem dX8_who_29 : decode cX8_who 29 = .ok (.goto 9, 3) := by decide +kernel
theorem dX8_who_32 : decode cX8_who 32 = .ok (.aload_n 0, 1) := by decide +kernel
theorem dX8_who_33 : decode cX8_who 33 = .ok (.iload_n 1, 1) := by decide +kernel
theorem dX8_who_34 : decode cX8_who 34 = .ok (.iload_n 2, 1) := by decide +kernel
theorem dX8_who_35 : decode cX8_who 35 = .ok (.invokevirtual 158, 3) := by decide +kernel
theorem dX8_who_38 : decode cX8_who 38 = .ok (.ireturn, 1) := by decide +kernel
theorem dX8_tune_0 : decode cX8_tune 0 = .ok (.aload_n 0, 1) := by decide +kernel
theorem dX8_tune_1 : decode cX8_tune 1 = .ok (.getfield 161, 3) := by decide +kernel
theorem dX8_tune_4 : decode cX8_tune 4 = .ok (.bipush 10, 2) := by decide +kernel
theorem dX8_tune_6 : decode cX8_tune 6 = .ok (.if_icmp .eq 24, 3) := by decide +kernel
theorem dX8_tune_9 : decode cX8_tune 9 = .ok (.iload_n 1, 1) := by decide +kernel
theorem dX8_tune_10 : decode cX8_tune 10 = .ok (.iconst 0, 1) := by decide +kernel
theorem dX8_tune_11 : decode cX8_tune 11 = .ok (.bipush 63, 2) := by decide +kernel
theorem dX8_tune_13 : decode cX8_tune 13 = .ok (.invokestatic 91, 3) := by decide +kernel
theorem dX8_tune_16 : decode cX8_tune 16 = .ok (.ifCond .eq 14, 3) := by decide +kernel
theorem dX8_tune_19 : decode cX8_tune 19 = .ok (.iload_n 2, 1) := by decide +kernel
theorem dX8_tune_20 : decode cX8_tune 20 = .ok (.iconst 0, 1) := by decide +kernel
theorem dX8_tune_21 : decode cX8_tune 21 = .ok (.sipush 4095, 3) := by decide +kernel
theorem dX8_tune_24 : decode cX8_tune 24 = .ok (.invokestatic 91, 3) := by decide +kernel
theorem dX8_tune_27 : decode cX8_tune 27 = .ok (.ifCond .ne 5, 3) := by decide +kernel
theorem dX8_tune_30 : decode cX8_tune 30 = .ok (.iconst (-1), 1) := by decide +kernel
theorem dX8_tune_31 : decode cX8_tune 31 = .ok (.ireturn, 1) := by decide +kernel
theorem dX8_tune_32 : decode cX8_tune 32 = .ok (.aload_n 0, 1) := by decide +kernel
theorem dX8_tune_33 : decode cX8_tune 33 = .ok (.getfield 38, 3) := by decide +kernel
theorem dX8_tune_36 : decode cX8_tune 36 = .ok (.aload_n 0, 1) := by decide +kernel
theorem dX8_tune_37 : decode cX8_tune 37 = .ok (.getfield 161, 3) := by decide +kernel
theorem dX8_tune_40 : decode cX8_tune 40 = .ok (.iload_n 1, 1) := by decide +kernel
theorem dX8_tune_41 : decode cX8_tune 41 = .ok (.iastore, 1) := by decide +kernel
theorem dX8_tune_42 : decode cX8_tune 42 = .ok (.aload_n 0, 1) := by decide +kernel
theorem dX8_tune_43 : decode cX8_tune 43 = .ok (.getfield 41, 3) := by decide +kernel
theorem dX8_tune_46 : decode cX8_tune 46 = .ok (.aload_n 0, 1) := by decide +kernel
theorem dX8_tune_47 : decode cX8_tune 47 = .ok (.getfield 161, 3) := by decide +kernel
theorem dX8_tune_50 : decode cX8_tune 50 = .ok (.iload_n 2, 1) := by decide +kernel
theorem dX8_tune_51 : decode cX8_tune 51 = .ok (.iastore, 1) := by decide +kernel
theorem dX8_tune_52 : decode cX8_tune 52 = .ok (.aload_n 0, 1) := by decide +kernel
theorem dX8_tune_53 : decode cX8_tune 53 = .ok (.getfield 44, 3) := by decide +kernel
theorem dX8_tune_56 : decode cX8_tune 56 = .ok (.aload_n 0, 1) := by decide +kernel
theorem dX8_tune_57 : decode cX8_tune 57 = .ok (.getfield 161, 3) := by decide +kernel
theorem dX8_tune_60 : decode cX8_tune 60 = .ok (.iconst (-1), 1) := by decide +kernel
theorem dX8_tune_61 : decode cX8_tune 61 = .ok (.iastore, 1) := by decide +kernel
theorem dX8_tune_62 : decode cX8_tune 62 = .ok (.aload_n 0, 1) := by decide +kernel
theorem dX8_tune_63 : decode cX8_tune 63 = .ok (.getfield 47, 3) := by decide +kernel
theorem dX8_tune_66 : decode cX8_tune 66 = .ok (.aload_n 0, 1) := by decide +kernel
theorem dX8_tune_67 : decode cX8_tune 67 = .ok (.getfield 161, 3) := by decide +kernel
theorem dX8_tune_70 : decode cX8_tune 70 = .ok (.iconst 0, 1) := by decide +kernel
theorem dX8_tune_71 : decode cX8_tune 71 = .ok (.iastore, 1) := by decide +kernel
theorem dX8_tune_72 : decode cX8_tune 72 = .ok (.aload_n 0, 1) := by decide +kernel
theorem dX8_tune_73 : decode cX8_tune 73 = .ok (.dup, 1) := by decide +kernel
theorem dX8_tune_74 : decode cX8_tune 74 = .ok (.getfield 161, 3) := by decide +kernel
theorem dX8_tune_77 : decode cX8_tune 77 = .ok (.iconst 1, 1) := by decide +kernel
theorem dX8_tune_78 : decode cX8_tune 78 = .ok (.iadd, 1) := by decide +kernel
theorem dX8_tune_79 : decode cX8_tune 79 = .ok (.putfield 161, 3) := by decide +kernel
theorem dX8_tune_82 : decode cX8_tune 82 = .ok (.aload_n 0, 1) := by decide +kernel
theorem dX8_tune_83 : decode cX8_tune 83 = .ok (.getfield 161, 3) := by decide +kernel
theorem dX8_tune_86 : decode cX8_tune 86 = .ok (.iconst 1, 1) := by decide +kernel
theorem dX8_tune_87 : decode cX8_tune 87 = .ok (.isub, 1) := by decide +kernel
theorem dX8_tune_88 : decode cX8_tune 88 = .ok (.ireturn, 1) := by decide +kernel
theorem dX8_month_0 : decode cX8_month 0 = .ok (.aload_n 0, 1) := by decide +kernel
theorem dX8_month_1 : decode cX8_month 1 = .ok (.getfield 164, 3) := by decide +kernel
theorem dX8_month_4 : decode cX8_month 4 = .ok (.bipush 30, 2) := by decide +kernel
theorem dX8_month_6 : decode cX8_month 6 = .ok (.idiv, 1) := by decide +kernel
theorem dX8_month_7 : decode cX8_month 7 = .ok (.bipush 12, 2) := by decide +kernel
theorem dX8_month_9 : decode cX8_month 9 = .ok (.irem, 1) := by decide +kernel
theorem dX8_month_10 : decode cX8_month 10 = .ok (.ireturn, 1) := by decide +kernel
theorem dX8_tunesOf_0 : decode cX8_tunesOf 0 = .ok (.aload_n 0, 1) := by decide +kernel
theorem dX8_tunesOf_1 : decode cX8_tunesOf 1 = .ok (.invokevirtual 154, 3) := by decide +kernel
theorem dX8_tunesOf_4 : decode cX8_tunesOf 4 = .ok (.istore_n 1, 1) := by decide +kernel
theorem dX8_tunesOf_5 : decode cX8_tunesOf 5 = .ok (.aload_n 0, 1) := by decide +kernel
theorem dX8_tunesOf_6 : decode cX8_tunesOf 6 = .ok (.getfield 167, 3) := by decide +kernel
theorem dX8_tunesOf_9 : decode cX8_tunesOf 9 = .ok (.istore_n 2, 1) := by decide +kernel
theorem dX8_tunesOf_10 : decode cX8_tunesOf 10 = .ok (.iconst 0, 1) := by decide +kernel
theorem dX8_tunesOf_11 : decode cX8_tunesOf 11 = .ok (.istore_n 3, 1) := by decide +kernel
theorem dX8_tunesOf_12 : decode cX8_tunesOf 12 = .ok (.iload_n 3, 1) := by decide +kernel
theorem dX8_tunesOf_13 : decode cX8_tunesOf 13 = .ok (.aload_n 0, 1) := by decide +kernel
theorem dX8_tunesOf_14 : decode cX8_tunesOf 14 = .ok (.getfield 161, 3) := by decide +kernel
theorem dX8_tunesOf_17 : decode cX8_tunesOf 17 = .ok (.if_icmp .ge 21, 3) := by decide +kernel
theorem dX8_tunesOf_20 : decode cX8_tunesOf 20 = .ok (.aload_n 0, 1) := by decide +kernel
theorem dX8_tunesOf_21 : decode cX8_tunesOf 21 = .ok (.getfield 68, 3) := by decide +kernel
theorem dX8_tunesOf_24 : decode cX8_tunesOf 24 = .ok (.iload_n 3, 1) := by decide +kernel
theorem dX8_tunesOf_25 : decode cX8_tunesOf 25 = .ok (.aload_n 0, 1) := by decide +kernel
theorem dX8_tunesOf_26 : decode cX8_tunesOf 26 = .ok (.getfield 47, 3) := by decide +kernel
theorem dX8_tunesOf_29 : decode cX8_tunesOf 29 = .ok (.iload_n 3, 1) := by decide +kernel
theorem dX8_tunesOf_30 : decode cX8_tunesOf 30 = .ok (.iaload, 1) := by decide +kernel
theorem dX8_tunesOf_31 : decode cX8_tunesOf 31 = .ok (.iastore, 1) := by decide +kernel
theorem dX8_tunesOf_32 : decode cX8_tunesOf 32 = .ok (.iinc 3 1, 3) := by decide +kernel
theorem dX8_tunesOf_35 : decode cX8_tunesOf 35 = .ok (.goto (-23), 3) := by decide +kernel
theorem dX8_tunesOf_38 : decode cX8_tunesOf 38 = .ok (.iconst 0, 1) := by decide +kernel
theorem dX8_tunesOf_39 : decode cX8_tunesOf 39 = .ok (.istore_n 3, 1) := by decide +kernel
theorem dX8_tunesOf_40 : decode cX8_tunesOf 40 = .ok (.iload_n 3, 1) := by decide +kernel
theorem dX8_tunesOf_41 : decode cX8_tunesOf 41 = .ok (.aload_n 0, 1) := by decide +kernel
theorem dX8_tunesOf_42 : decode cX8_tunesOf 42 = .ok (.getfield 115, 3) := by decide +kernel
theorem dX8_tunesOf_45 : decode cX8_tunesOf 45 = .ok (.if_icmp .ge 167, 3) := by decide +kernel
theorem dX8_tunesOf_48 : decode cX8_tunesOf 48 = .ok (.aload_n 0, 1) := by decide +kernel
theorem dX8_tunesOf_49 : decode cX8_tunesOf 49 = .ok (.getfield 50, 3) := by decide +kernel
theorem dX8_tunesOf_52 : decode cX8_tunesOf 52 = .ok (.iload_n 3, 1) := by decide +kernel
theorem dX8_tunesOf_53 : decode cX8_tunesOf 53 = .ok (.iaload, 1) := by decide +kernel
theorem dX8_tunesOf_54 : decode cX8_tunesOf 54 = .ok (.istore 4, 2) := by decide +kernel
theorem dX8_tunesOf_56 : decode cX8_tunesOf 56 = .ok (.aload_n 0, 1) := by decide +kernel
theorem dX8_tunesOf_57 : decode cX8_tunesOf 57 = .ok (.getfield 65, 3) := by decide +kernel
theorem dX8_tunesOf_60 : decode cX8_tunesOf 60 = .ok (.iload 4, 2) := by decide +kernel
theorem dX8_tunesOf_62 : decode cX8_tunesOf 62 = .ok (.iconst (-1), 1) := by decide +kernel
theorem dX8_tunesOf_63 : decode cX8_tunesOf 63 = .ok (.iastore, 1) := by decide +kernel
theorem dX8_tunesOf_64 : decode cX8_tunesOf 64 = .ok (.iload_n 1, 1) := by decide +kernel
theorem dX8_tunesOf_65 : decode cX8_tunesOf 65 = .ok (.iload 4, 2) := by decide +kernel
theorem dX8_tunesOf_67 : decode cX8_tunesOf 67 = .ok (.invokestatic 130, 3) := by decide +kernel
theorem dX8_tunesOf_70 : decode cX8_tunesOf 70 = .ok (.ifCond .ne 6, 3) := by decide +kernel
theorem dX8_tunesOf_73 : decode cX8_tunesOf 73 = .ok (.goto 133, 3) := by decide +kernel
theorem dX8_tunesOf_76 : decode cX8_tunesOf 76 = .ok (.iconst 0, 1) := by decide +kernel
theorem dX8_tunesOf_77 : decode cX8_tunesOf 77 = .ok (.istore 5, 2) := by decide +kernel
theorem dX8_tunesOf_79 : decode cX8_tunesOf 79 = .ok (.iload 5, 2) := by decide +kernel
theorem dX8_tunesOf_81 : decode cX8_tunesOf 81 = .ok (.aload_n 0, 1) := by decide +kernel
theorem dX8_tunesOf_82 : decode cX8_tunesOf 82 = .ok (.getfield 161, 3) := by decide +kernel
theorem dX8_tunesOf_85 : decode cX8_tunesOf 85 = .ok (.if_icmp .ge 91, 3) := by decide +kernel
theorem dX8_tunesOf_88 : decode cX8_tunesOf 88 = .ok (.aload_n 0, 1) := by decide +kernel
theorem dX8_tunesOf_89 : decode cX8_tunesOf 89 = .ok (.getfield 38, 3) := by decide +kernel
theorem dX8_tunesOf_92 : decode cX8_tunesOf 92 = .ok (.iload 5, 2) := by decide +kernel
theorem dX8_tunesOf_94 : decode cX8_tunesOf 94 = .ok (.iaload, 1) := by decide +kernel
theorem dX8_tunesOf_95 : decode cX8_tunesOf 95 = .ok (.aload_n 0, 1) := by decide +kernel
theorem dX8_tunesOf_96 : decode cX8_tunesOf 96 = .ok (.iload 4, 2) := by decide +kernel
theorem dX8_tunesOf_98 : decode cX8_tunesOf 98 = .ok (.iconst 4, 1) := by decide +kernel
theorem dX8_tunesOf_99 : decode cX8_tunesOf 99 = .ok (.invokevirtual 118, 3) := by decide +kernel
theorem dX8_tunesOf_102 : decode cX8_tunesOf 102 = .ok (.invokestatic 130, 3) := by decide +kernel
theorem dX8_tunesOf_105 : decode cX8_tunesOf 105 = .ok (.ifCond .eq 65, 3) := by decide +kernel
theorem dX8_tunesOf_108 : decode cX8_tunesOf 108 = .ok (.aload_n 0, 1) := by decide +kernel
theorem dX8_tunesOf_109 : decode cX8_tunesOf 109 = .ok (.getfield 41, 3) := by decide +kernel
theorem dX8_tunesOf_112 : decode cX8_tunesOf 112 = .ok (.iload 5, 2) := by decide +kernel
theorem dX8_tunesOf_114 : decode cX8_tunesOf 114 = .ok (.iaload, 1) := by decide +kernel
theorem dX8_tunesOf_115 : decode cX8_tunesOf 115 = .ok (.aload_n 0, 1) := by decide +kernel
theorem dX8_tunesOf_116 : decode cX8_tunesOf 116 = .ok (.invokevirtual 170, 3) := by decide +kernel
theorem dX8_tunesOf_119 : decode cX8_tunesOf 119 = .ok (.invokestatic 130, 3) := by decide +kernel
theorem dX8_tunesOf_122 : decode cX8_tunesOf 122 = .ok (.ifCond .ne 6, 3) := by decide +kernel
theorem dX8_tunesOf_125 : decode cX8_tunesOf 125 = .ok (.goto 45, 3) := by decide +kernel
theorem dX8_tunesOf_128 : decode cX8_tunesOf 128 = .ok (.aload_n 0, 1) := by decide +kernel
theorem dX8_tunesOf_129 : decode cX8_tunesOf 129 = .ok (.getfield 65, 3) := by decide +kernel
theorem dX8_tunesOf_132 : decode cX8_tunesOf 132 = .ok (.iload 4, 2) := by decide +kernel
theorem dX8_tunesOf_134 : decode cX8_tunesOf 134 = .ok (.iaload, 1) := by decide +kernel
theorem dX8_tunesOf_135 : decode cX8_tunesOf 135 = .ok (.iconst (-1), 1) := by decide +kernel
theorem dX8_tunesOf_136 : decode cX8_tunesOf 136 = .ok (.if_icmp .eq 25, 3) := by decide +kernel
theorem dX8_tunesOf_139 : decode cX8_tunesOf 139 = .ok (.aload_n 0, 1) := by decide +kernel
theorem dX8_tunesOf_140 : decode cX8_tunesOf 140 = .ok (.getfield 68, 3) := by decide +kernel
theorem dX8_tunesOf_143 : decode cX8_tunesOf 143 = .ok (.iload 5, 2) := by decide +kernel
theorem dX8_tunesOf_145 : decode cX8_tunesOf 145 = .ok (.iaload, 1) := by decide +kernel
theorem dX8_tunesOf_146 : decode cX8_tunesOf 146 = .ok (.aload_n 0, 1) := by decide +kernel
theorem dX8_tunesOf_147 : decode cX8_tunesOf 147 = .ok (.getfield 68, 3) := by decide +kernel
theorem dX8_tunesOf_150 : decode cX8_tunesOf 150 = .ok (.aload_n 0, 1) := by decide +kernel
theorem dX8_tunesOf_151 : decode cX8_tunesOf 151 = .ok (.getfield 65, 3) := by decide +kernel
theorem dX8_tunesOf_154 : decode cX8_tunesOf 154 = .ok (.iload 4, 2) := by decide +kernel
theorem dX8_tunesOf_156 : decode cX8_tunesOf 156 = .ok (.iaload, 1) := by decide +kernel
theorem dX8_tunesOf_157 : decode cX8_tunesOf 157 = .ok (.iaload, 1) := by decide +kernel
theorem dX8_tunesOf_158 : decode cX8_tunesOf 158 = .ok (.if_icmp .ge 12, 3) := by decide +kernel
theorem dX8_tunesOf_161 : decode cX8_tunesOf 161 = .ok (.aload_n 0, 1) := by decide +kernel
theorem dX8_tunesOf_162 : decode cX8_tunesOf 162 = .ok (.getfield 65, 3) := by decide +kernel
theorem dX8_tunesOf_165 : decode cX8_tunesOf 165 = .ok (.iload 4, 2) := by decide +kernel
theorem dX8_tunesOf_167 : decode cX8_tunesOf 167 = .ok (.iload 5, 2) := by decide +kernel
theorem dX8_tunesOf_169 : decode cX8_tunesOf 169 = .ok (.iastore, 1) := by decide +kernel
theorem dX8_tunesOf_170 : decode cX8_tunesOf 170 = .ok (.iinc 5 1, 3) := by decide +kernel
theorem dX8_tunesOf_173 : decode cX8_tunesOf 173 = .ok (.goto (-94), 3) := by decide +kernel
theorem dX8_tunesOf_176 : decode cX8_tunesOf 176 = .ok (.aload_n 0, 1) := by decide +kernel
theorem dX8_tunesOf_177 : decode cX8_tunesOf 177 = .ok (.getfield 65, 3) := by decide +kernel
theorem dX8_tunesOf_180 : decode cX8_tunesOf 180 = .ok (.iload 4, 2) := by decide +kernel
theorem dX8_tunesOf_182 : decode cX8_tunesOf 182 = .ok (.iaload, 1) := by decide +kernel
theorem dX8_tunesOf_183 : decode cX8_tunesOf 183 = .ok (.iconst (-1), 1) := by decide +kernel
theorem dX8_tunesOf_184 : decode cX8_tunesOf 184 = .ok (.if_icmp .ne 6, 3) := by decide +kernel
theorem dX8_tunesOf_187 : decode cX8_tunesOf 187 = .ok (.goto 19, 3) := by decide +kernel
theorem dX8_tunesOf_190 : decode cX8_tunesOf 190 = .ok (.iinc 2 1, 3) := by decide +kernel
theorem dX8_tunesOf_193 : decode cX8_tunesOf 193 = .ok (.aload_n 0, 1) := by decide +kernel
theorem dX8_tunesOf_194 : decode cX8_tunesOf 194 = .ok (.getfield 68, 3) := by decide +kernel
theorem dX8_tunesOf_197 : decode cX8_tunesOf 197 = .ok (.aload_n 0, 1) := by decide +kernel
theorem dX8_tunesOf_198 : decode cX8_tunesOf 198 = .ok (.getfield 65, 3) := by decide +kernel
theorem dX8_tunesOf_201 : decode cX8_tunesOf 201 = .ok (.iload 4, 2) := by decide +kernel
theorem dX8_tunesOf_203 : decode cX8_tunesOf 203 = .ok (.iaload, 1) := by decide +kernel
theorem dX8_tunesOf_204 : decode cX8_tunesOf 204 = .ok (.iload_n 2, 1) := by decide +kernel
theorem dX8_tunesOf_205 : decode cX8_tunesOf 205 = .ok (.iastore, 1) := by decide +kernel
theorem dX8_tunesOf_206 : decode cX8_tunesOf 206 = .ok (.iinc 3 1, 3) := by decide +kernel
theorem dX8_tunesOf_209 : decode cX8_tunesOf 209 = .ok (.goto (-169), 3) := by decide +kernel
theorem dX8_tunesOf_212 : decode cX8_tunesOf 212 = .ok (.return_, 1) := by decide +kernel
theorem dX8_heard_0 : decode cX8_heard 0 = .ok (.aload_n 0, 1) := by decide +kernel
theorem dX8_heard_1 : decode cX8_heard 1 = .ok (.iload_n 1, 1) := by decide +kernel
theorem dX8_heard_2 : decode cX8_heard 2 = .ok (.invokevirtual 112, 3) := by decide +kernel
theorem dX8_heard_5 : decode cX8_heard 5 = .ok (.ifCond .ne 5, 3) := by decide +kernel
theorem dX8_heard_8 : decode cX8_heard 8 = .ok (.iconst (-1), 1) := by decide +kernel
theorem dX8_heard_9 : decode cX8_heard 9 = .ok (.ireturn, 1) := by decide +kernel
theorem dX8_heard_10 : decode cX8_heard 10 = .ok (.aload_n 0, 1) := by decide +kernel
theorem dX8_heard_11 : decode cX8_heard 11 = .ok (.invokevirtual 173, 3) := by decide +kernel
theorem dX8_heard_14 : decode cX8_heard 14 = .ok (.aload_n 0, 1) := by decide +kernel
theorem dX8_heard_15 : decode cX8_heard 15 = .ok (.getfield 65, 3) := by decide +kernel
theorem dX8_heard_18 : decode cX8_heard 18 = .ok (.iload_n 1, 1) := by decide +kernel
theorem dX8_heard_19 : decode cX8_heard 19 = .ok (.iaload, 1) := by decide +kernel
theorem dX8_heard_20 : decode cX8_heard 20 = .ok (.ireturn, 1) := by decide +kernel
theorem dX8_fundOf_0 : decode cX8_fundOf 0 = .ok (.aload_n 0, 1) := by decide +kernel
theorem dX8_fundOf_1 : decode cX8_fundOf 1 = .ok (.iload_n 1, 1) := by decide +kernel
theorem dX8_fundOf_2 : decode cX8_fundOf 2 = .ok (.bipush 7, 2) := by decide +kernel
theorem dX8_fundOf_4 : decode cX8_fundOf 4 = .ok (.invokevirtual 118, 3) := by decide +kernel
theorem dX8_fundOf_7 : decode cX8_fundOf 7 = .ok (.aload_n 0, 1) := by decide +kernel
theorem dX8_fundOf_8 : decode cX8_fundOf 8 = .ok (.getfield 13, 3) := by decide +kernel
theorem dX8_fundOf_11 : decode cX8_fundOf 11 = .ok (.iconst 1, 1) := by decide +kernel
theorem dX8_fundOf_12 : decode cX8_fundOf 12 = .ok (.iaload, 1) := by decide +kernel
theorem dX8_fundOf_13 : decode cX8_fundOf 13 = .ok (.imul, 1) := by decide +kernel
theorem dX8_fundOf_14 : decode cX8_fundOf 14 = .ok (.bipush 100, 2) := by decide +kernel
theorem dX8_fundOf_16 : decode cX8_fundOf 16 = .ok (.idiv, 1) := by decide +kernel
theorem dX8_fundOf_17 : decode cX8_fundOf 17 = .ok (.ireturn, 1) := by decide +kernel
theorem dX8_shareOf_0 : decode cX8_shareOf 0 = .ok (.aload_n 0, 1) := by decide +kernel
theorem dX8_shareOf_1 : decode cX8_shareOf 1 = .ok (.iload_n 1, 1) := by decide +kernel
theorem dX8_shareOf_2 : decode cX8_shareOf 2 = .ok (.iconst 0, 1) := by decide +kernel
theorem dX8_shareOf_3 : decode cX8_shareOf 3 = .ok (.invokevirtual 158, 3) := by decide +kernel
theorem dX8_shareOf_6 : decode cX8_shareOf 6 = .ok (.istore_n 3, 1) := by decide +kernel
theorem dX8_shareOf_7 : decode cX8_shareOf 7 = .ok (.aload_n 0, 1) := by decide +kernel
theorem dX8_shareOf_8 : decode cX8_shareOf 8 = .ok (.iload_n 1, 1) := by decide +kernel
theorem dX8_shareOf_9 : decode cX8_shareOf 9 = .ok (.iconst 1, 1) := by decide +kernel
theorem dX8_shareOf_10 : decode cX8_shareOf 10 = .ok (.invokevirtual 158, 3) := by decide +kernel
theorem dX8_shareOf_13 : decode cX8_shareOf 13 = .ok (.istore 4, 2) := by decide +kernel
theorem dX8_shareOf_15 : decode cX8_shareOf 15 = .ok (.aload_n 0, 1) := by decide +kernel
theorem dX8_shareOf_16 : decode cX8_shareOf 16 = .ok (.iload_n 1, 1) := by decide +kernel
theorem dX8_shareOf_17 : decode cX8_shareOf 17 = .ok (.bipush 7, 2) := by decide +kernel
theorem dX8_shareOf_19 : decode cX8_shareOf 19 = .ok (.invokevirtual 118, 3) := by decide +kernel
theorem dX8_shareOf_22 : decode cX8_shareOf 22 = .ok (.aload_n 0, 1) := by decide +kernel
theorem dX8_shareOf_23 : decode cX8_shareOf 23 = .ok (.iload_n 1, 1) := by decide +kernel
theorem dX8_shareOf_24 : decode cX8_shareOf 24 = .ok (.invokevirtual 176, 3) := by decide +kernel
theorem dX8_shareOf_27 : decode cX8_shareOf 27 = .ok (.isub, 1) := by decide +kernel
theorem dX8_shareOf_28 : decode cX8_shareOf 28 = .ok (.istore 5, 2) := by decide +kernel
theorem dX8_shareOf_30 : decode cX8_shareOf 30 = .ok (.iload_n 2, 1) := by decide +kernel
theorem dX8_shareOf_31 : decode cX8_shareOf 31 = .ok (.iload_n 3, 1) := by decide +kernel
theorem dX8_shareOf_32 : decode cX8_shareOf 32 = .ok (.if_icmp .eq 11, 3) := by decide +kernel
theorem dX8_shareOf_35 : decode cX8_shareOf 35 = .ok (.iload_n 2, 1) := by decide +kernel
theorem dX8_shareOf_36 : decode cX8_shareOf 36 = .ok (.iload 4, 2) := by decide +kernel
theorem dX8_shareOf_38 : decode cX8_shareOf 38 = .ok (.if_icmp .eq 5, 3) := by decide +kernel
theorem dX8_shareOf_41 : decode cX8_shareOf 41 = .ok (.iconst 0, 1) := by decide +kernel
theorem dX8_shareOf_42 : decode cX8_shareOf 42 = .ok (.ireturn, 1) := by decide +kernel
theorem dX8_shareOf_43 : decode cX8_shareOf 43 = .ok (.iload 4, 2) := by decide +kernel
theorem dX8_shareOf_45 : decode cX8_shareOf 45 = .ok (.iconst (-1), 1) := by decide +kernel
theorem dX8_shareOf_46 : decode cX8_shareOf 46 = .ok (.if_icmp .ne 6, 3) := by decide +kernel
theorem dX8_shareOf_49 : decode cX8_shareOf 49 = .ok (.iload 5, 2) := by decide +kernel
theorem dX8_shareOf_51 : decode cX8_shareOf 51 = .ok (.ireturn, 1) := by decide +kernel
theorem dX8_shareOf_52 : decode cX8_shareOf 52 = .ok (.aload_n 0, 1) := by decide +kernel
theorem dX8_shareOf_53 : decode cX8_shareOf 53 = .ok (.getfield 20, 3) := by decide +kernel
theorem dX8_shareOf_56 : decode cX8_shareOf 56 = .ok (.iload_n 3, 1) := by decide +kernel
theorem dX8_shareOf_57 : decode cX8_shareOf 57 = .ok (.iaload, 1) := by decide +kernel
theorem dX8_shareOf_58 : decode cX8_shareOf 58 = .ok (.aload_n 0, 1) := by decide +kernel
theorem dX8_shareOf_59 : decode cX8_shareOf 59 = .ok (.getfield 20, 3) := by decide +kernel
theorem dX8_shareOf_62 : decode cX8_shareOf 62 = .ok (.iload 4, 2) := by decide +kernel
theorem dX8_shareOf_64 : decode cX8_shareOf 64 = .ok (.iaload, 1) := by decide +kernel
theorem dX8_shareOf_65 : decode cX8_shareOf 65 = .ok (.iadd, 1) := by decide +kernel
theorem dX8_shareOf_66 : decode cX8_shareOf 66 = .ok (.istore 6, 2) := by decide +kernel
theorem dX8_shareOf_68 : decode cX8_shareOf 68 = .ok (.iload_n 2, 1) := by decide +kernel
theorem dX8_shareOf_69 : decode cX8_shareOf 69 = .ok (.iload_n 3, 1) := by decide +kernel
theorem dX8_shareOf_70 : decode cX8_shareOf 70 = .ok (.if_icmp .ne 8, 3) := by decide +kernel
theorem dX8_shareOf_73 : decode cX8_shareOf 73 = .ok (.iload 4, 2) := by decide +kernel
theorem dX8_shareOf_75 : decode cX8_shareOf 75 = .ok (.goto 4, 3) := by decide +kernel
theorem dX8_shareOf_78 : decode cX8_shareOf 78 = .ok (.iload_n 3, 1) := by decide +kernel
theorem dX8_shareOf_79 : decode cX8_shareOf 79 = .ok (.istore 7, 2) := by decide +kernel
theorem dX8_shareOf_81 : decode cX8_shareOf 81 = .ok (.iload 5, 2) := by decide +kernel
theorem dX8_shareOf_83 : decode cX8_shareOf 83 = .ok (.aload_n 0, 1) := by decide +kernel
theorem dX8_shareOf_84 : decode cX8_shareOf 84 = .ok (.getfield 20, 3) := by decide +kernel
theorem dX8_shareOf_87 : decode cX8_shareOf 87 = .ok (.iload_n 2, 1) := by decide +kernel
theorem dX8_shareOf_88 : decode cX8_shareOf 88 = .ok (.iaload, 1) := by decide +kernel
theorem dX8_shareOf_89 : decode cX8_shareOf 89 = .ok (.imul, 1) := by decide +kernel
theorem dX8_shareOf_90 : decode cX8_shareOf 90 = .ok (.iload 6, 2) := by decide +kernel
theorem dX8_shareOf_92 : decode cX8_shareOf 92 = .ok (.idiv, 1) := by decide +kernel
theorem dX8_shareOf_93 : decode cX8_shareOf 93 = .ok (.istore 8, 2) := by decide +kernel
theorem dX8_shareOf_95 : decode cX8_shareOf 95 = .ok (.iload 5, 2) := by decide +kernel
theorem dX8_shareOf_97 : decode cX8_shareOf 97 = .ok (.iload 8, 2) := by decide +kernel
theorem dX8_shareOf_99 : decode cX8_shareOf 99 = .ok (.isub, 1) := by decide +kernel
theorem dX8_shareOf_100 : decode cX8_shareOf 100 = .ok (.iload 5, 2) := by decide +kernel
theorem dX8_shareOf_102 : decode cX8_shareOf 102 = .ok (.aload_n 0, 1) := by decide +kernel
theorem dX8_shareOf_103 : decode cX8_shareOf 103 = .ok (.getfield 20, 3) := by decide +kernel
theorem dX8_shareOf_106 : decode cX8_shareOf 106 = .ok (.iload 7, 2) := by decide +kernel
theorem dX8_shareOf_108 : decode cX8_shareOf 108 = .ok (.iaload, 1) := by decide +kernel
theorem dX8_shareOf_109 : decode cX8_shareOf 109 = .ok (.imul, 1) := by decide +kernel
theorem dX8_shareOf_110 : decode cX8_shareOf 110 = .ok (.iload 6, 2) := by decide +kernel
theorem dX8_shareOf_112 : decode cX8_shareOf 112 = .ok (.idiv, 1) := by decide +kernel
theorem dX8_shareOf_113 : decode cX8_shareOf 113 = .ok (.isub, 1) := by decide +kernel
theorem dX8_shareOf_114 : decode cX8_shareOf 114 = .ok (.istore 9, 2) := by decide +kernel
theorem dX8_shareOf_116 : decode cX8_shareOf 116 = .ok (.iload 5, 2) := by decide +kernel
theorem dX8_shareOf_118 : decode cX8_shareOf 118 = .ok (.aload_n 0, 1) := by decide +kernel
theorem dX8_shareOf_119 : decode cX8_shareOf 119 = .ok (.getfield 20, 3) := by decide +kernel
theorem dX8_shareOf_122 : decode cX8_shareOf 122 = .ok (.iload_n 2, 1) := by decide +kernel
theorem dX8_shareOf_123 : decode cX8_shareOf 123 = .ok (.iaload, 1) := by decide +kernel
theorem dX8_shareOf_124 : decode cX8_shareOf 124 = .ok (.imul, 1) := by decide +kernel
theorem dX8_shareOf_125 : decode cX8_shareOf 125 = .ok (.iload 6, 2) := by decide +kernel
theorem dX8_shareOf_127 : decode cX8_shareOf 127 = .ok (.irem, 1) := by decide +kernel
theorem dX8_shareOf_128 : decode cX8_shareOf 128 = .ok (.istore 10, 2) := by decide +kernel
theorem dX8_shareOf_130 : decode cX8_shareOf 130 = .ok (.iload 5, 2) := by decide +kernel
theorem dX8_shareOf_132 : decode cX8_shareOf 132 = .ok (.aload_n 0, 1) := by decide +kernel
theorem dX8_shareOf_133 : decode cX8_shareOf 133 = .ok (.getfield 20, 3) := by decide +kernel
theorem dX8_shareOf_136 : decode cX8_shareOf 136 = .ok (.iload 7, 2) := by decide +kernel
theorem dX8_shareOf_138 : decode cX8_shareOf 138 = .ok (.iaload, 1) := by decide +kernel
theorem dX8_shareOf_139 : decode cX8_shareOf 139 = .ok (.imul, 1) := by decide +kernel
theorem dX8_shareOf_140 : decode cX8_shareOf 140 = .ok (.iload 6, 2) := by decide +kernel
theorem dX8_shareOf_142 : decode cX8_shareOf 142 = .ok (.irem, 1) := by decide +kernel
theorem dX8_shareOf_143 : decode cX8_shareOf 143 = .ok (.istore 11, 2) := by decide +kernel
theorem dX8_shareOf_145 : decode cX8_shareOf 145 = .ok (.iload 8, 2) := by decide +kernel
theorem dX8_shareOf_147 : decode cX8_shareOf 147 = .ok (.iload 10, 2) := by decide +kernel
theorem dX8_shareOf_149 : decode cX8_shareOf 149 = .ok (.iload 11, 2) := by decide +kernel
theorem dX8_shareOf_151 : decode cX8_shareOf 151 = .ok (.if_icmp .gt 16, 3) := by decide +kernel
theorem dX8_shareOf_154 : decode cX8_shareOf 154 = .ok (.iload 10, 2) := by decide +kernel
theorem dX8_shareOf_156 : decode cX8_shareOf 156 = .ok (.iload 11, 2) := by decide +kernel
theorem dX8_shareOf_158 : decode cX8_shareOf 158 = .ok (.if_icmp .ne 14, 3) := by decide +kernel
theorem dX8_shareOf_161 : decode cX8_shareOf 161 = .ok (.iload_n 2, 1) := by decide +kernel
theorem dX8_shareOf_162 : decode cX8_shareOf 162 = .ok (.iload 7, 2) := by decide +kernel
theorem dX8_shareOf_164 : decode cX8_shareOf 164 = .ok (.if_icmp .ge 8, 3) := by decide +kernel
theorem dX8_shareOf_167 : decode cX8_shareOf 167 = .ok (.iload 9, 2) := by decide +kernel
theorem dX8_shareOf_169 : decode cX8_shareOf 169 = .ok (.goto 4, 3) := by decide +kernel
theorem dX8_shareOf_172 : decode cX8_shareOf 172 = .ok (.iconst 0, 1) := by decide +kernel
theorem dX8_shareOf_173 : decode cX8_shareOf 173 = .ok (.iadd, 1) := by decide +kernel
theorem dX8_shareOf_174 : decode cX8_shareOf 174 = .ok (.ireturn, 1) := by decide +kernel
theorem dX8_share_0 : decode cX8_share 0 = .ok (.aload_n 0, 1) := by decide +kernel
theorem dX8_share_1 : decode cX8_share 1 = .ok (.iload_n 1, 1) := by decide +kernel
theorem dX8_share_2 : decode cX8_share 2 = .ok (.invokevirtual 112, 3) := by decide +kernel
theorem dX8_share_5 : decode cX8_share 5 = .ok (.ifCond .eq 27, 3) := by decide +kernel
theorem dX8_share_8 : decode cX8_share 8 = .ok (.iload_n 2, 1) := by decide +kernel
theorem dX8_share_9 : decode cX8_share 9 = .ok (.iconst (-1), 1) := by decide +kernel
theorem dX8_share_10 : decode cX8_share 10 = .ok (.if_icmp .eq 11, 3) := by decide +kernel
theorem dX8_share_13 : decode cX8_share 13 = .ok (.aload_n 0, 1) := by decide +kernel
theorem dX8_share_14 : decode cX8_share 14 = .ok (.iload_n 2, 1) := by decide +kernel
theorem dX8_share_15 : decode cX8_share 15 = .ok (.invokevirtual 105, 3) := by decide +kernel
theorem dX8_share_18 : decode cX8_share 18 = .ok (.ifCond .eq 14, 3) := by decide +kernel
theorem dX8_share_21 : decode cX8_share 21 = .ok (.aload_n 0, 1) := by decide +kernel
theorem dX8_share_22 : decode cX8_share 22 = .ok (.invokevirtual 154, 3) := by decide +kernel
theorem dX8_share_25 : decode cX8_share 25 = .ok (.iload_n 1, 1) := by decide +kernel
theorem dX8_share_26 : decode cX8_share 26 = .ok (.invokestatic 130, 3) := by decide +kernel
theorem dX8_share_29 : decode cX8_share 29 = .ok (.ifCond .ne 5, 3) := by decide +kernel
theorem dX8_share_32 : decode cX8_share 32 = .ok (.iconst (-1), 1) := by decide +kernel
theorem dX8_share_33 : decode cX8_share 33 = .ok (.ireturn, 1) := by decide +kernel
theorem dX8_share_34 : decode cX8_share 34 = .ok (.iload_n 2, 1) := by decide +kernel
theorem dX8_share_35 : decode cX8_share 35 = .ok (.iconst (-1), 1) := by decide +kernel
theorem dX8_share_36 : decode cX8_share 36 = .ok (.if_icmp .ne 11, 3) := by decide +kernel
theorem dX8_share_39 : decode cX8_share 39 = .ok (.aload_n 0, 1) := by decide +kernel
theorem dX8_share_40 : decode cX8_share 40 = .ok (.iload_n 1, 1) := by decide +kernel
theorem dX8_share_41 : decode cX8_share 41 = .ok (.invokevirtual 176, 3) := by decide +kernel
theorem dX8_share_44 : decode cX8_share 44 = .ok (.goto 9, 3) := by decide +kernel
theorem dX8_share_47 : decode cX8_share 47 = .ok (.aload_n 0, 1) := by decide +kernel
theorem dX8_share_48 : decode cX8_share 48 = .ok (.iload_n 1, 1) := by decide +kernel
theorem dX8_share_49 : decode cX8_share 49 = .ok (.iload_n 2, 1) := by decide +kernel
theorem dX8_share_50 : decode cX8_share 50 = .ok (.invokevirtual 179, 3) := by decide +kernel
theorem dX8_share_53 : decode cX8_share 53 = .ok (.ireturn, 1) := by decide +kernel
theorem dX8_fines_0 : decode cX8_fines 0 = .ok (.iconst 0, 1) := by decide +kernel
theorem dX8_fines_1 : decode cX8_fines 1 = .ok (.istore_n 1, 1) := by decide +kernel
theorem dX8_fines_2 : decode cX8_fines 2 = .ok (.iload_n 1, 1) := by decide +kernel
theorem dX8_fines_3 : decode cX8_fines 3 = .ok (.aload_n 0, 1) := by decide +kernel
theorem dX8_fines_4 : decode cX8_fines 4 = .ok (.getfield 102, 3) := by decide +kernel
theorem dX8_fines_7 : decode cX8_fines 7 = .ok (.if_icmp .ge 51, 3) := by decide +kernel
theorem dX8_fines_10 : decode cX8_fines 10 = .ok (.aload_n 0, 1) := by decide +kernel
theorem dX8_fines_11 : decode cX8_fines 11 = .ok (.getfield 26, 3) := by decide +kernel
theorem dX8_fines_14 : decode cX8_fines 14 = .ok (.iload_n 1, 1) := by decide +kernel
theorem dX8_fines_15 : decode cX8_fines 15 = .ok (.iaload, 1) := by decide +kernel
theorem dX8_fines_16 : decode cX8_fines 16 = .ok (.ifCond .eq 6, 3) := by decide +kernel
theorem dX8_fines_19 : decode cX8_fines 19 = .ok (.goto 33, 3) := by decide +kernel
theorem dX8_fines_22 : decode cX8_fines 22 = .ok (.aload_n 0, 1) := by decide +kernel
theorem dX8_fines_23 : decode cX8_fines 23 = .ok (.getfield 29, 3) := by decide +kernel
theorem dX8_fines_26 : decode cX8_fines 26 = .ok (.iload_n 1, 1) := by decide +kernel
theorem dX8_fines_27 : decode cX8_fines 27 = .ok (.dup2, 1) := by decide +kernel
theorem dX8_fines_28 : decode cX8_fines 28 = .ok (.iaload, 1) := by decide +kernel
theorem dX8_fines_29 : decode cX8_fines 29 = .ok (.aload_n 0, 1) := by decide +kernel
theorem dX8_fines_30 : decode cX8_fines 30 = .ok (.getfield 13, 3) := by decide +kernel
theorem dX8_fines_33 : decode cX8_fines 33 = .ok (.iconst 3, 1) := by decide +kernel
theorem dX8_fines_34 : decode cX8_fines 34 = .ok (.iaload, 1) := by decide +kernel
theorem dX8_fines_35 : decode cX8_fines 35 = .ok (.isub, 1) := by decide +kernel
theorem dX8_fines_36 : decode cX8_fines 36 = .ok (.iastore, 1) := by decide +kernel
theorem dX8_fines_37 : decode cX8_fines 37 = .ok (.aload_n 0, 1) := by decide +kernel
theorem dX8_fines_38 : decode cX8_fines 38 = .ok (.dup, 1) := by decide +kernel
theorem dX8_fines_39 : decode cX8_fines 39 = .ok (.getfield 182, 3) := by decide +kernel
theorem dX8_fines_42 : decode cX8_fines 42 = .ok (.aload_n 0, 1) := by decide +kernel
theorem dX8_fines_43 : decode cX8_fines 43 = .ok (.getfield 13, 3) := by decide +kernel
theorem dX8_fines_46 : decode cX8_fines 46 = .ok (.iconst 3, 1) := by decide +kernel
theorem dX8_fines_47 : decode cX8_fines 47 = .ok (.iaload, 1) := by decide +kernel
theorem dX8_fines_48 : decode cX8_fines 48 = .ok (.iadd, 1) := by decide +kernel
theorem dX8_fines_49 : decode cX8_fines 49 = .ok (.putfield 182, 3) := by decide +kernel
theorem dX8_fines_52 : decode cX8_fines 52 = .ok (.iinc 1 1, 3) := by decide +kernel
theorem dX8_fines_55 : decode cX8_fines 55 = .ok (.goto (-53), 3) := by decide +kernel
theorem dX8_fines_58 : decode cX8_fines 58 = .ok (.return_, 1) := by decide +kernel
theorem dX8_day_0 : decode cX8_day 0 = .ok (.aload_n 0, 1) := by decide +kernel
theorem dX8_day_1 : decode cX8_day 1 = .ok (.getfield 164, 3) := by decide +kernel
theorem dX8_day_4 : decode cX8_day 4 = .ok (.sipush 9999, 3) := by decide +kernel
theorem dX8_day_7 : decode cX8_day 7 = .ok (.if_icmp .ne 5, 3) := by decide +kernel
theorem dX8_day_10 : decode cX8_day 10 = .ok (.iconst (-1), 1) := by decide +kernel
theorem dX8_day_11 : decode cX8_day 11 = .ok (.ireturn, 1) := by decide +kernel
theorem dX8_day_12 : decode cX8_day 12 = .ok (.aload_n 0, 1) := by decide +kernel
theorem dX8_day_13 : decode cX8_day 13 = .ok (.invokevirtual 173, 3) := by decide +kernel
theorem dX8_day_16 : decode cX8_day 16 = .ok (.iconst 0, 1) := by decide +kernel
theorem dX8_day_17 : decode cX8_day 17 = .ok (.istore_n 1, 1) := by decide +kernel
theorem dX8_day_18 : decode cX8_day 18 = .ok (.iload_n 1, 1) := by decide +kernel
theorem dX8_day_19 : decode cX8_day 19 = .ok (.aload_n 0, 1) := by decide +kernel
theorem dX8_day_20 : decode cX8_day 20 = .ok (.getfield 115, 3) := by decide +kernel
theorem dX8_day_23 : decode cX8_day 23 = .ok (.if_icmp .ge 141, 3) := by decide +kernel
theorem dX8_day_26 : decode cX8_day 26 = .ok (.aload_n 0, 1) := by decide +kernel
theorem dX8_day_27 : decode cX8_day 27 = .ok (.getfield 50, 3) := by decide +kernel
theorem dX8_day_30 : decode cX8_day 30 = .ok (.iload_n 1, 1) := by decide +kernel
theorem dX8_day_31 : decode cX8_day 31 = .ok (.iaload, 1) := by decide +kernel
theorem dX8_day_32 : decode cX8_day 32 = .ok (.istore_n 2, 1) := by decide +kernel
theorem dX8_day_33 : decode cX8_day 33 = .ok (.aload_n 0, 1) := by decide +kernel
theorem dX8_day_34 : decode cX8_day 34 = .ok (.getfield 127, 3) := by decide +kernel
theorem dX8_day_37 : decode cX8_day 37 = .ok (.iload_n 2, 1) := by decide +kernel
theorem dX8_day_38 : decode cX8_day 38 = .ok (.invokestatic 130, 3) := by decide +kernel
theorem dX8_day_41 : decode cX8_day 41 = .ok (.ifCond .eq 51, 3) := by decide +kernel
theorem dX8_day_44 : decode cX8_day 44 = .ok (.aload_n 0, 1) := by decide +kernel
theorem dX8_day_45 : decode cX8_day 45 = .ok (.dup, 1) := by decide +kernel
theorem dX8_day_46 : decode cX8_day 46 = .ok (.getfield 182, 3) := by decide +kernel
theorem dX8_day_49 : decode cX8_day 49 = .ok (.aload_n 0, 1) := by decide +kernel
theorem dX8_day_50 : decode cX8_day 50 = .ok (.iload_n 2, 1) := by decide +kernel
theorem dX8_day_51 : decode cX8_day 51 = .ok (.invokevirtual 176, 3) := by decide +kernel
theorem dX8_day_54 : decode cX8_day 54 = .ok (.iadd, 1) := by decide +kernel
theorem dX8_day_55 : decode cX8_day 55 = .ok (.putfield 182, 3) := by decide +kernel
theorem dX8_day_58 : decode cX8_day 58 = .ok (.iconst 0, 1) := by decide +kernel
theorem dX8_day_59 : decode cX8_day 59 = .ok (.istore_n 3, 1) := by decide +kernel
theorem dX8_day_60 : decode cX8_day 60 = .ok (.iload_n 3, 1) := by decide +kernel
theorem dX8_day_61 : decode cX8_day 61 = .ok (.aload_n 0, 1) := by decide +kernel
theorem dX8_day_62 : decode cX8_day 62 = .ok (.getfield 102, 3) := by decide +kernel
theorem dX8_day_65 : decode cX8_day 65 = .ok (.if_icmp .ge 24, 3) := by decide +kernel
theorem dX8_day_68 : decode cX8_day 68 = .ok (.aload_n 0, 1) := by decide +kernel
theorem dX8_day_69 : decode cX8_day 69 = .ok (.getfield 29, 3) := by decide +kernel
theorem dX8_day_72 : decode cX8_day 72 = .ok (.iload_n 3, 1) := by decide +kernel
theorem dX8_day_73 : decode cX8_day 73 = .ok (.dup2, 1) := by decide +kernel
theorem dX8_day_74 : decode cX8_day 74 = .ok (.iaload, 1) := by decide +kernel
theorem dX8_day_75 : decode cX8_day 75 = .ok (.aload_n 0, 1) := by decide +kernel
theorem dX8_day_76 : decode cX8_day 76 = .ok (.iload_n 2, 1) := by decide +kernel
theorem dX8_day_77 : decode cX8_day 77 = .ok (.iload_n 3, 1) := by decide +kernel
theorem dX8_day_78 : decode cX8_day 78 = .ok (.invokevirtual 179, 3) := by decide +kernel
theorem dX8_day_81 : decode cX8_day 81 = .ok (.iadd, 1) := by decide +kernel
theorem dX8_day_82 : decode cX8_day 82 = .ok (.iastore, 1) := by decide +kernel
theorem dX8_day_83 : decode cX8_day 83 = .ok (.iinc 3 1, 3) := by decide +kernel
theorem dX8_day_86 : decode cX8_day 86 = .ok (.goto (-26), 3) := by decide +kernel
theorem dX8_day_89 : decode cX8_day 89 = .ok (.goto 16, 3) := by decide +kernel
theorem dX8_day_92 : decode cX8_day 92 = .ok (.aload_n 0, 1) := by decide +kernel
theorem dX8_day_93 : decode cX8_day 93 = .ok (.iload_n 2, 1) := by decide +kernel
theorem dX8_day_94 : decode cX8_day 94 = .ok (.iconst 0, 1) := by decide +kernel
theorem dX8_day_95 : decode cX8_day 95 = .ok (.invokevirtual 118, 3) := by decide +kernel
theorem dX8_day_98 : decode cX8_day 98 = .ok (.ifCond .ne 7, 3) := by decide +kernel
theorem dX8_day_101 : decode cX8_day 101 = .ok (.aload_n 0, 1) := by decide +kernel
theorem dX8_day_102 : decode cX8_day 102 = .ok (.invokevirtual 185, 3) := by decide +kernel
theorem dX8_day_105 : decode cX8_day 105 = .ok (.aload_n 0, 1) := by decide +kernel
theorem dX8_day_106 : decode cX8_day 106 = .ok (.getfield 65, 3) := by decide +kernel
theorem dX8_day_109 : decode cX8_day 109 = .ok (.iload_n 2, 1) := by decide +kernel
theorem dX8_day_110 : decode cX8_day 110 = .ok (.iaload, 1) := by decide +kernel
theorem dX8_day_111 : decode cX8_day 111 = .ok (.iconst (-1), 1) := by decide +kernel
theorem dX8_day_112 : decode cX8_day 112 = .ok (.if_icmp .ne 6, 3) := by decide +kernel
theorem dX8_day_115 : decode cX8_day 115 = .ok (.goto 43, 3) := by decide +kernel
theorem dX8_day_118 : decode cX8_day 118 = .ok (.aload_n 0, 1) := by decide +kernel
theorem dX8_day_119 : decode cX8_day 119 = .ok (.dup, 1) := by decide +kernel
theorem dX8_day_120 : decode cX8_day 120 = .ok (.getfield 167, 3) := by decide +kernel
theorem dX8_day_123 : decode cX8_day 123 = .ok (.iconst 1, 1) := by decide +kernel
theorem dX8_day_124 : decode cX8_day 124 = .ok (.iadd, 1) := by decide +kernel
theorem dX8_day_125 : decode cX8_day 125 = .ok (.putfield 167, 3) := by decide +kernel
theorem dX8_day_128 : decode cX8_day 128 = .ok (.aload_n 0, 1) := by decide +kernel
theorem dX8_day_129 : decode cX8_day 129 = .ok (.getfield 47, 3) := by decide +kernel
theorem dX8_day_132 : decode cX8_day 132 = .ok (.aload_n 0, 1) := by decide +kernel
theorem dX8_day_133 : decode cX8_day 133 = .ok (.getfield 65, 3) := by decide +kernel
theorem dX8_day_136 : decode cX8_day 136 = .ok (.iload_n 2, 1) := by decide +kernel
theorem dX8_day_137 : decode cX8_day 137 = .ok (.iaload, 1) := by decide +kernel
theorem dX8_day_138 : decode cX8_day 138 = .ok (.aload_n 0, 1) := by decide +kernel
theorem dX8_day_139 : decode cX8_day 139 = .ok (.getfield 167, 3) := by decide +kernel
theorem dX8_day_142 : decode cX8_day 142 = .ok (.iastore, 1) := by decide +kernel
theorem dX8_day_143 : decode cX8_day 143 = .ok (.aload_n 0, 1) := by decide +kernel
theorem dX8_day_144 : decode cX8_day 144 = .ok (.getfield 44, 3) := by decide +kernel
theorem dX8_day_147 : decode cX8_day 147 = .ok (.aload_n 0, 1) := by decide +kernel
theorem dX8_day_148 : decode cX8_day 148 = .ok (.getfield 65, 3) := by decide +kernel
theorem dX8_day_151 : decode cX8_day 151 = .ok (.iload_n 2, 1) := by decide +kernel
theorem dX8_day_152 : decode cX8_day 152 = .ok (.iaload, 1) := by decide +kernel
theorem dX8_day_153 : decode cX8_day 153 = .ok (.aload_n 0, 1) := by decide +kernel
theorem dX8_day_154 : decode cX8_day 154 = .ok (.getfield 164, 3) := by decide +kernel
theorem dX8_day_157 : decode cX8_day 157 = .ok (.iastore, 1) := by decide +kernel
theorem dX8_day_158 : decode cX8_day 158 = .ok (.iinc 1 1, 3) := by decide +kernel
theorem dX8_day_161 : decode cX8_day 161 = .ok (.goto (-143), 3) := by decide +kernel
theorem dX8_day_164 : decode cX8_day 164 = .ok (.iconst 0, 1) := by decide +kernel
theorem dX8_day_165 : decode cX8_day 165 = .ok (.istore_n 1, 1) := by decide +kernel
theorem dX8_day_166 : decode cX8_day 166 = .ok (.iload_n 1, 1) := by decide +kernel
theorem dX8_day_167 : decode cX8_day 167 = .ok (.bipush 6, 2) := by decide +kernel
theorem dX8_day_169 : decode cX8_day 169 = .ok (.if_icmp .ge 19, 3) := by decide +kernel
theorem dX8_day_172 : decode cX8_day 172 = .ok (.aload_n 0, 1) := by decide +kernel
theorem dX8_day_173 : decode cX8_day 173 = .ok (.getfield 35, 3) := by decide +kernel
theorem dX8_day_176 : decode cX8_day 176 = .ok (.bipush 8, 2) := by decide +kernel
theorem dX8_day_178 : decode cX8_day 178 = .ok (.iload_n 1, 1) := by decide +kernel
theorem dX8_day_179 : decode cX8_day 179 = .ok (.imul, 1) := by decide +kernel
theorem dX8_day_180 : decode cX8_day 180 = .ok (.iconst (-1), 1) := by decide +kernel
theorem dX8_day_181 : decode cX8_day 181 = .ok (.iastore, 1) := by decide +kernel
theorem dX8_day_182 : decode cX8_day 182 = .ok (.iinc 1 1, 3) := by decide +kernel
theorem dX8_day_185 : decode cX8_day 185 = .ok (.goto (-19), 3) := by decide +kernel
theorem dX8_day_188 : decode cX8_day 188 = .ok (.aload_n 0, 1) := by decide +kernel
theorem dX8_day_189 : decode cX8_day 189 = .ok (.dup, 1) := by decide +kernel
theorem dX8_day_190 : decode cX8_day 190 = .ok (.getfield 164, 3) := by decide +kernel
theorem dX8_day_193 : decode cX8_day 193 = .ok (.iconst 1, 1) := by decide +kernel
theorem dX8_day_194 : decode cX8_day 194 = .ok (.iadd, 1) := by decide +kernel
theorem dX8_day_195 : decode cX8_day 195 = .ok (.putfield 164, 3) := by decide +kernel
theorem dX8_day_198 : decode cX8_day 198 = .ok (.iconst 0, 1) := by decide +kernel
theorem dX8_day_199 : decode cX8_day 199 = .ok (.istore_n 1, 1) := by decide +kernel
theorem dX8_day_200 : decode cX8_day 200 = .ok (.iload_n 1, 1) := by decide +kernel
theorem dX8_day_201 : decode cX8_day 201 = .ok (.aload_n 0, 1) := by decide +kernel
theorem dX8_day_202 : decode cX8_day 202 = .ok (.getfield 102, 3) := by decide +kernel
theorem dX8_day_205 : decode cX8_day 205 = .ok (.if_icmp .ge 80, 3) := by decide +kernel
theorem dX8_day_208 : decode cX8_day 208 = .ok (.aload_n 0, 1) := by decide +kernel
theorem dX8_day_209 : decode cX8_day 209 = .ok (.getfield 164, 3) := by decide +kernel
theorem dX8_day_212 : decode cX8_day 212 = .ok (.sipush 360, 3) := by decide +kernel
theorem dX8_day_215 : decode cX8_day 215 = .ok (.irem, 1) := by decide +kernel
theorem dX8_day_216 : decode cX8_day 216 = .ok (.ifCond .ne 69, 3) := by decide +kernel
theorem dX8_day_219 : decode cX8_day 219 = .ok (.aload_n 0, 1) := by decide +kernel
theorem dX8_day_220 : decode cX8_day 220 = .ok (.getfield 26, 3) := by decide +kernel
theorem dX8_day_223 : decode cX8_day 223 = .ok (.iload_n 1, 1) := by decide +kernel
theorem dX8_day_224 : decode cX8_day 224 = .ok (.iaload, 1) := by decide +kernel
theorem dX8_day_225 : decode cX8_day 225 = .ok (.iconst 2, 1) := by decide +kernel
theorem dX8_day_226 : decode cX8_day 226 = .ok (.if_icmp .eq 6, 3) := by decide +kernel
theorem dX8_day_229 : decode cX8_day 229 = .ok (.goto 50, 3) := by decide +kernel
theorem dX8_day_232 : decode cX8_day 232 = .ok (.aload_n 0, 1) := by decide +kernel
theorem dX8_day_233 : decode cX8_day 233 = .ok (.getfield 13, 3) := by decide +kernel
theorem dX8_day_236 : decode cX8_day 236 = .ok (.iconst 2, 1) := by decide +kernel
theorem dX8_day_237 : decode cX8_day 237 = .ok (.iaload, 1) := by decide +kernel
theorem dX8_day_238 : decode cX8_day 238 = .ok (.aload_n 0, 1) := by decide +kernel
theorem dX8_day_239 : decode cX8_day 239 = .ok (.getfield 182, 3) := by decide +kernel
theorem dX8_day_242 : decode cX8_day 242 = .ok (.if_icmp .ge 12, 3) := by decide +kernel
theorem dX8_day_245 : decode cX8_day 245 = .ok (.aload_n 0, 1) := by decide +kernel
theorem dX8_day_246 : decode cX8_day 246 = .ok (.getfield 13, 3) := by decide +kernel
theorem dX8_day_249 : decode cX8_day 249 = .ok (.iconst 2, 1) := by decide +kernel
theorem dX8_day_250 : decode cX8_day 250 = .ok (.iaload, 1) := by decide +kernel
theorem dX8_day_251 : decode cX8_day 251 = .ok (.goto 7, 3) := by decide +kernel
theorem dX8_day_254 : decode cX8_day 254 = .ok (.aload_n 0, 1) := by decide +kernel
theorem dX8_day_255 : decode cX8_day 255 = .ok (.getfield 182, 3) := by decide +kernel
