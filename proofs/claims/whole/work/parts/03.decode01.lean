theorem dX1_canGive_25 : decode cX1_canGive 25 = .ok (.getfield 15, 3) := by decide +kernel
theorem dX1_canGive_28 : decode cX1_canGive 28 = .ok (.iload_n 1, 1) := by decide +kernel
theorem dX1_canGive_29 : decode cX1_canGive 29 = .ok (.iaload, 1) := by decide +kernel
theorem dX1_canGive_30 : decode cX1_canGive 30 = .ok (.iconst (-1), 1) := by decide +kernel
theorem dX1_canGive_31 : decode cX1_canGive 31 = .ok (.ixor, 1) := by decide +kernel
theorem dX1_canGive_32 : decode cX1_canGive 32 = .ok (.iand, 1) := by decide +kernel
theorem dX1_canGive_33 : decode cX1_canGive 33 = .ok (.iastore, 1) := by decide +kernel
theorem dX1_canGive_34 : decode cX1_canGive 34 = .ok (.aload_n 0, 1) := by decide +kernel
theorem dX1_canGive_35 : decode cX1_canGive 35 = .ok (.iload_n 3, 1) := by decide +kernel
theorem dX1_canGive_36 : decode cX1_canGive 36 = .ok (.iconst 1, 1) := by decide +kernel
theorem dX1_canGive_37 : decode cX1_canGive 37 = .ok (.iload_n 1, 1) := by decide +kernel
theorem dX1_canGive_38 : decode cX1_canGive 38 = .ok (.ishl, 1) := by decide +kernel
theorem dX1_canGive_39 : decode cX1_canGive 39 = .ok (.iconst (-1), 1) := by decide +kernel
theorem dX1_canGive_40 : decode cX1_canGive 40 = .ok (.ixor, 1) := by decide +kernel
theorem dX1_canGive_41 : decode cX1_canGive 41 = .ok (.iand, 1) := by decide +kernel
theorem dX1_canGive_42 : decode cX1_canGive 42 = .ok (.iload 4, 2) := by decide +kernel
theorem dX1_canGive_44 : decode cX1_canGive 44 = .ok (.iconst 1, 1) := by decide +kernel
theorem dX1_canGive_45 : decode cX1_canGive 45 = .ok (.iadd, 1) := by decide +kernel
theorem dX1_canGive_46 : decode cX1_canGive 46 = .ok (.invokevirtual 58, 3) := by decide +kernel
theorem dX1_canGive_49 : decode cX1_canGive 49 = .ok (.istore 6, 2) := by decide +kernel
theorem dX1_canGive_51 : decode cX1_canGive 51 = .ok (.aload_n 0, 1) := by decide +kernel
theorem dX1_canGive_52 : decode cX1_canGive 52 = .ok (.getfield 9, 3) := by decide +kernel
theorem dX1_canGive_55 : decode cX1_canGive 55 = .ok (.iload_n 2, 1) := by decide +kernel
theorem dX1_canGive_56 : decode cX1_canGive 56 = .ok (.iload 5, 2) := by decide +kernel
theorem dX1_canGive_58 : decode cX1_canGive 58 = .ok (.iastore, 1) := by decide +kernel
theorem dX1_canGive_59 : decode cX1_canGive 59 = .ok (.iload 6, 2) := by decide +kernel
theorem dX1_canGive_61 : decode cX1_canGive 61 = .ok (.ifCond .eq 10, 3) := by decide +kernel
theorem dX1_canGive_64 : decode cX1_canGive 64 = .ok (.aload_n 0, 1) := by decide +kernel
theorem dX1_canGive_65 : decode cX1_canGive 65 = .ok (.getfield 21, 3) := by decide +kernel
theorem dX1_canGive_68 : decode cX1_canGive 68 = .ok (.iload_n 1, 1) := by decide +kernel
theorem dX1_canGive_69 : decode cX1_canGive 69 = .ok (.iload_n 2, 1) := by decide +kernel
theorem dX1_canGive_70 : decode cX1_canGive 70 = .ok (.iastore, 1) := by decide +kernel
theorem dX1_canGive_71 : decode cX1_canGive 71 = .ok (.iload 6, 2) := by decide +kernel
theorem dX1_canGive_73 : decode cX1_canGive 73 = .ok (.ireturn, 1) := by decide +kernel
theorem dX1_isWorthTrying_0 : decode cX1_isWorthTrying 0 = .ok (.iconst 0, 1) := by decide +kernel
theorem dX1_isWorthTrying_1 : decode cX1_isWorthTrying 1 = .ok (.istore 4, 2) := by decide +kernel
theorem dX1_isWorthTrying_3 : decode cX1_isWorthTrying 3 = .ok (.iload 4, 2) := by decide +kernel
theorem dX1_isWorthTrying_5 : decode cX1_isWorthTrying 5 = .ok (.iload_n 1, 1) := by decide +kernel
theorem dX1_isWorthTrying_6 : decode cX1_isWorthTrying 6 = .ok (.if_icmp .ge 31, 3) := by decide +kernel
theorem dX1_isWorthTrying_9 : decode cX1_isWorthTrying 9 = .ok (.aload_n 0, 1) := by decide +kernel
theorem dX1_isWorthTrying_10 : decode cX1_isWorthTrying 10 = .ok (.getfield 9, 3) := by decide +kernel
theorem dX1_isWorthTrying_13 : decode cX1_isWorthTrying 13 = .ok (.iload 4, 2) := by decide +kernel
theorem dX1_isWorthTrying_15 : decode cX1_isWorthTrying 15 = .ok (.iaload, 1) := by decide +kernel
theorem dX1_isWorthTrying_16 : decode cX1_isWorthTrying 16 = .ok (.iload_n 3, 1) := by decide +kernel
theorem dX1_isWorthTrying_17 : decode cX1_isWorthTrying 17 = .ok (.iand, 1) := by decide +kernel
theorem dX1_isWorthTrying_18 : decode cX1_isWorthTrying 18 = .ok (.aload_n 0, 1) := by decide +kernel
theorem dX1_isWorthTrying_19 : decode cX1_isWorthTrying 19 = .ok (.getfield 9, 3) := by decide +kernel
theorem dX1_isWorthTrying_22 : decode cX1_isWorthTrying 22 = .ok (.iload_n 1, 1) := by decide +kernel
theorem dX1_isWorthTrying_23 : decode cX1_isWorthTrying 23 = .ok (.iaload, 1) := by decide +kernel
theorem dX1_isWorthTrying_24 : decode cX1_isWorthTrying 24 = .ok (.iload_n 3, 1) := by decide +kernel
theorem dX1_isWorthTrying_25 : decode cX1_isWorthTrying 25 = .ok (.iand, 1) := by decide +kernel
theorem dX1_isWorthTrying_26 : decode cX1_isWorthTrying 26 = .ok (.if_icmp .ne 5, 3) := by decide +kernel
theorem dX1_isWorthTrying_29 : decode cX1_isWorthTrying 29 = .ok (.iconst 0, 1) := by decide +kernel
theorem dX1_isWorthTrying_30 : decode cX1_isWorthTrying 30 = .ok (.ireturn, 1) := by decide +kernel
theorem dX1_isWorthTrying_31 : decode cX1_isWorthTrying 31 = .ok (.iinc 4 1, 3) := by decide +kernel
theorem dX1_isWorthTrying_34 : decode cX1_isWorthTrying 34 = .ok (.goto (-31), 3) := by decide +kernel
theorem dX1_isWorthTrying_37 : decode cX1_isWorthTrying 37 = .ok (.aload_n 0, 1) := by decide +kernel
theorem dX1_isWorthTrying_38 : decode cX1_isWorthTrying 38 = .ok (.getfield 9, 3) := by decide +kernel
theorem dX1_isWorthTrying_41 : decode cX1_isWorthTrying 41 = .ok (.iload_n 1, 1) := by decide +kernel
theorem dX1_isWorthTrying_42 : decode cX1_isWorthTrying 42 = .ok (.iaload, 1) := by decide +kernel
theorem dX1_isWorthTrying_43 : decode cX1_isWorthTrying 43 = .ok (.iload_n 2, 1) := by decide +kernel
theorem dX1_isWorthTrying_44 : decode cX1_isWorthTrying 44 = .ok (.invokestatic 87, 3) := by decide +kernel
theorem dX1_isWorthTrying_47 : decode cX1_isWorthTrying 47 = .ok (.ireturn, 1) := by decide +kernel
theorem dX1_hardestOf_0 : decode cX1_hardestOf 0 = .ok (.iconst 0, 1) := by decide +kernel
theorem dX1_hardestOf_1 : decode cX1_hardestOf 1 = .ok (.istore_n 2, 1) := by decide +kernel
theorem dX1_hardestOf_2 : decode cX1_hardestOf 2 = .ok (.bipush 7, 2) := by decide +kernel
theorem dX1_hardestOf_4 : decode cX1_hardestOf 4 = .ok (.istore_n 3, 1) := by decide +kernel
theorem dX1_hardestOf_5 : decode cX1_hardestOf 5 = .ok (.iconst 0, 1) := by decide +kernel
theorem dX1_hardestOf_6 : decode cX1_hardestOf 6 = .ok (.istore 4, 2) := by decide +kernel
theorem dX1_hardestOf_8 : decode cX1_hardestOf 8 = .ok (.iconst 0, 1) := by decide +kernel
theorem dX1_hardestOf_9 : decode cX1_hardestOf 9 = .ok (.istore 5, 2) := by decide +kernel
theorem dX1_hardestOf_11 : decode cX1_hardestOf 11 = .ok (.iload 5, 2) := by decide +kernel
theorem dX1_hardestOf_13 : decode cX1_hardestOf 13 = .ok (.aload_n 0, 1) := by decide +kernel
theorem dX1_hardestOf_14 : decode cX1_hardestOf 14 = .ok (.getfield 24, 3) := by decide +kernel
theorem dX1_hardestOf_17 : decode cX1_hardestOf 17 = .ok (.if_icmp .ge 69, 3) := by decide +kernel
theorem dX1_hardestOf_20 : decode cX1_hardestOf 20 = .ok (.iload_n 1, 1) := by decide +kernel
theorem dX1_hardestOf_21 : decode cX1_hardestOf 21 = .ok (.iload 5, 2) := by decide +kernel
theorem dX1_hardestOf_23 : decode cX1_hardestOf 23 = .ok (.invokestatic 87, 3) := by decide +kernel
theorem dX1_hardestOf_26 : decode cX1_hardestOf 26 = .ok (.ifCond .eq 54, 3) := by decide +kernel
theorem dX1_hardestOf_29 : decode cX1_hardestOf 29 = .ok (.aload_n 0, 1) := by decide +kernel
theorem dX1_hardestOf_30 : decode cX1_hardestOf 30 = .ok (.iload 5, 2) := by decide +kernel
theorem dX1_hardestOf_32 : decode cX1_hardestOf 32 = .ok (.invokevirtual 93, 3) := by decide +kernel
theorem dX1_hardestOf_35 : decode cX1_hardestOf 35 = .ok (.istore 6, 2) := by decide +kernel
theorem dX1_hardestOf_37 : decode cX1_hardestOf 37 = .ok (.aload_n 0, 1) := by decide +kernel
theorem dX1_hardestOf_38 : decode cX1_hardestOf 38 = .ok (.getfield 15, 3) := by decide +kernel
theorem dX1_hardestOf_41 : decode cX1_hardestOf 41 = .ok (.iload 5, 2) := by decide +kernel
theorem dX1_hardestOf_43 : decode cX1_hardestOf 43 = .ok (.iaload, 1) := by decide +kernel
theorem dX1_hardestOf_44 : decode cX1_hardestOf 44 = .ok (.iload_n 1, 1) := by decide +kernel
theorem dX1_hardestOf_45 : decode cX1_hardestOf 45 = .ok (.iand, 1) := by decide +kernel
theorem dX1_hardestOf_46 : decode cX1_hardestOf 46 = .ok (.invokestatic 96, 3) := by decide +kernel
theorem dX1_hardestOf_49 : decode cX1_hardestOf 49 = .ok (.istore 7, 2) := by decide +kernel
theorem dX1_hardestOf_51 : decode cX1_hardestOf 51 = .ok (.iload 6, 2) := by decide +kernel
theorem dX1_hardestOf_53 : decode cX1_hardestOf 53 = .ok (.iload_n 3, 1) := by decide +kernel
theorem dX1_hardestOf_54 : decode cX1_hardestOf 54 = .ok (.if_icmp .lt 16, 3) := by decide +kernel
theorem dX1_hardestOf_57 : decode cX1_hardestOf 57 = .ok (.iload 6, 2) := by decide +kernel
theorem dX1_hardestOf_59 : decode cX1_hardestOf 59 = .ok (.iload_n 3, 1) := by decide +kernel
theorem dX1_hardestOf_60 : decode cX1_hardestOf 60 = .ok (.if_icmp .ne 20, 3) := by decide +kernel
theorem dX1_hardestOf_63 : decode cX1_hardestOf 63 = .ok (.iload 7, 2) := by decide +kernel
theorem dX1_hardestOf_65 : decode cX1_hardestOf 65 = .ok (.iload 4, 2) := by decide +kernel
theorem dX1_hardestOf_67 : decode cX1_hardestOf 67 = .ok (.if_icmp .le 13, 3) := by decide +kernel
theorem dX1_hardestOf_70 : decode cX1_hardestOf 70 = .ok (.iload 5, 2) := by decide +kernel
theorem dX1_hardestOf_72 : decode cX1_hardestOf 72 = .ok (.istore_n 2, 1) := by decide +kernel
theorem dX1_hardestOf_73 : decode cX1_hardestOf 73 = .ok (.iload 6, 2) := by decide +kernel
theorem dX1_hardestOf_75 : decode cX1_hardestOf 75 = .ok (.istore_n 3, 1) := by decide +kernel
theorem dX1_hardestOf_76 : decode cX1_hardestOf 76 = .ok (.iload 7, 2) := by decide +kernel
theorem dX1_hardestOf_78 : decode cX1_hardestOf 78 = .ok (.istore 4, 2) := by decide +kernel
theorem dX1_hardestOf_80 : decode cX1_hardestOf 80 = .ok (.iinc 5 1, 3) := by decide +kernel
theorem dX1_hardestOf_83 : decode cX1_hardestOf 83 = .ok (.goto (-72), 3) := by decide +kernel
theorem dX1_hardestOf_86 : decode cX1_hardestOf 86 = .ok (.iload_n 2, 1) := by decide +kernel
theorem dX1_hardestOf_87 : decode cX1_hardestOf 87 = .ok (.ireturn, 1) := by decide +kernel
theorem dX1_takersOf_0 : decode cX1_takersOf 0 = .ok (.iconst 0, 1) := by decide +kernel
theorem dX1_takersOf_1 : decode cX1_takersOf 1 = .ok (.istore_n 2, 1) := by decide +kernel
theorem dX1_takersOf_2 : decode cX1_takersOf 2 = .ok (.iconst 0, 1) := by decide +kernel
theorem dX1_takersOf_3 : decode cX1_takersOf 3 = .ok (.istore_n 3, 1) := by decide +kernel
theorem dX1_takersOf_4 : decode cX1_takersOf 4 = .ok (.iload_n 3, 1) := by decide +kernel
theorem dX1_takersOf_5 : decode cX1_takersOf 5 = .ok (.bipush 6, 2) := by decide +kernel
theorem dX1_takersOf_7 : decode cX1_takersOf 7 = .ok (.if_icmp .ge 22, 3) := by decide +kernel
theorem dX1_takersOf_10 : decode cX1_takersOf 10 = .ok (.iload_n 2, 1) := by decide +kernel
theorem dX1_takersOf_11 : decode cX1_takersOf 11 = .ok (.aload_n 0, 1) := by decide +kernel
theorem dX1_takersOf_12 : decode cX1_takersOf 12 = .ok (.getfield 9, 3) := by decide +kernel
theorem dX1_takersOf_15 : decode cX1_takersOf 15 = .ok (.iload_n 3, 1) := by decide +kernel
theorem dX1_takersOf_16 : decode cX1_takersOf 16 = .ok (.iaload, 1) := by decide +kernel
theorem dX1_takersOf_17 : decode cX1_takersOf 17 = .ok (.iload_n 1, 1) := by decide +kernel
theorem dX1_takersOf_18 : decode cX1_takersOf 18 = .ok (.ishr, 1) := by decide +kernel
theorem dX1_takersOf_19 : decode cX1_takersOf 19 = .ok (.iconst 1, 1) := by decide +kernel
theorem dX1_takersOf_20 : decode cX1_takersOf 20 = .ok (.iand, 1) := by decide +kernel
theorem dX1_takersOf_21 : decode cX1_takersOf 21 = .ok (.iadd, 1) := by decide +kernel
theorem dX1_takersOf_22 : decode cX1_takersOf 22 = .ok (.istore_n 2, 1) := by decide +kernel
theorem dX1_takersOf_23 : decode cX1_takersOf 23 = .ok (.iinc 3 1, 3) := by decide +kernel
theorem dX1_takersOf_26 : decode cX1_takersOf 26 = .ok (.goto (-22), 3) := by decide +kernel
theorem dX1_takersOf_29 : decode cX1_takersOf 29 = .ok (.iload_n 2, 1) := by decide +kernel
theorem dX1_takersOf_30 : decode cX1_takersOf 30 = .ok (.ireturn, 1) := by decide +kernel
theorem dX2_init_0 : decode cX2_init 0 = .ok (.aload_n 0, 1) := by decide +kernel
theorem dX2_init_1 : decode cX2_init 1 = .ok (.invokespecial 1, 3) := by decide +kernel
theorem dX2_init_4 : decode cX2_init 4 = .ok (.aload_n 0, 1) := by decide +kernel
theorem dX2_init_5 : decode cX2_init 5 = .ok (.iconst 0, 1) := by decide +kernel
theorem dX2_init_6 : decode cX2_init 6 = .ok (.putfield 7, 3) := by decide +kernel
theorem dX2_init_9 : decode cX2_init 9 = .ok (.aload_n 0, 1) := by decide +kernel
theorem dX2_init_10 : decode cX2_init 10 = .ok (.iconst 0, 1) := by decide +kernel
theorem dX2_init_11 : decode cX2_init 11 = .ok (.putfield 13, 3) := by decide +kernel
theorem dX2_init_14 : decode cX2_init 14 = .ok (.aload_n 0, 1) := by decide +kernel
theorem dX2_init_15 : decode cX2_init 15 = .ok (.iconst 0, 1) := by decide +kernel
theorem dX2_init_16 : decode cX2_init 16 = .ok (.putfield 16, 3) := by decide +kernel
theorem dX2_init_19 : decode cX2_init 19 = .ok (.aload_n 0, 1) := by decide +kernel
theorem dX2_init_20 : decode cX2_init 20 = .ok (.iconst 0, 1) := by decide +kernel
theorem dX2_init_21 : decode cX2_init 21 = .ok (.putfield 19, 3) := by decide +kernel
theorem dX2_init_24 : decode cX2_init 24 = .ok (.return_, 1) := by decide +kernel
theorem dX2_join_0 : decode cX2_join 0 = .ok (.aload_n 0, 1) := by decide +kernel
theorem dX2_join_1 : decode cX2_join 1 = .ok (.iload_n 1, 1) := by decide +kernel
theorem dX2_join_2 : decode cX2_join 2 = .ok (.putfield 7, 3) := by decide +kernel
theorem dX2_join_5 : decode cX2_join 5 = .ok (.aload_n 0, 1) := by decide +kernel
theorem dX2_join_6 : decode cX2_join 6 = .ok (.iload_n 2, 1) := by decide +kernel
theorem dX2_join_7 : decode cX2_join 7 = .ok (.putfield 13, 3) := by decide +kernel
theorem dX2_join_10 : decode cX2_join 10 = .ok (.return_, 1) := by decide +kernel
theorem dX2_canPlay_0 : decode cX2_canPlay 0 = .ok (.aload_n 0, 1) := by decide +kernel
theorem dX2_canPlay_1 : decode cX2_canPlay 1 = .ok (.getfield 16, 3) := by decide +kernel
theorem dX2_canPlay_4 : decode cX2_canPlay 4 = .ok (.ifCond .ne 18, 3) := by decide +kernel
theorem dX2_canPlay_7 : decode cX2_canPlay 7 = .ok (.aload_n 0, 1) := by decide +kernel
theorem dX2_canPlay_8 : decode cX2_canPlay 8 = .ok (.getfield 13, 3) := by decide +kernel
theorem dX2_canPlay_11 : decode cX2_canPlay 11 = .ok (.iload_n 1, 1) := by decide +kernel
theorem dX2_canPlay_12 : decode cX2_canPlay 12 = .ok (.invokestatic 22, 3) := by decide +kernel
theorem dX2_canPlay_15 : decode cX2_canPlay 15 = .ok (.ifCond .eq 7, 3) := by decide +kernel
theorem dX2_canPlay_18 : decode cX2_canPlay 18 = .ok (.iconst 1, 1) := by decide +kernel
theorem dX2_canPlay_19 : decode cX2_canPlay 19 = .ok (.goto 4, 3) := by decide +kernel
theorem dX2_canPlay_22 : decode cX2_canPlay 22 = .ok (.iconst 0, 1) := by decide +kernel
theorem dX2_canPlay_23 : decode cX2_canPlay 23 = .ok (.ireturn, 1) := by decide +kernel
theorem dX3_init_0 : decode cX3_init 0 = .ok (.aload_n 0, 1) := by decide +kernel
theorem dX3_init_1 : decode cX3_init 1 = .ok (.invokespecial 3, 3) := by decide +kernel
theorem dX3_init_4 : decode cX3_init 4 = .ok (.aload_n 0, 1) := by decide +kernel
theorem dX3_init_5 : decode cX3_init 5 = .ok (.new 9, 3) := by decide +kernel
theorem dX3_init_8 : decode cX3_init 8 = .ok (.dup, 1) := by decide +kernel
theorem dX3_init_9 : decode cX3_init 9 = .ok (.invokespecial 11, 3) := by decide +kernel
theorem dX3_init_12 : decode cX3_init 12 = .ok (.putfield 12, 3) := by decide +kernel
theorem dX3_init_15 : decode cX3_init 15 = .ok (.aload_n 0, 1) := by decide +kernel
theorem dX3_init_16 : decode cX3_init 16 = .ok (.bipush 6, 2) := by decide +kernel
theorem dX3_init_18 : decode cX3_init 18 = .ok (.newarray .int, 2) := by decide +kernel
theorem dX3_init_20 : decode cX3_init 20 = .ok (.putfield 18, 3) := by decide +kernel
theorem dX3_init_23 : decode cX3_init 23 = .ok (.aload_n 0, 1) := by decide +kernel
theorem dX3_init_24 : decode cX3_init 24 = .ok (.bipush 10, 2) := by decide +kernel
theorem dX3_init_26 : decode cX3_init 26 = .ok (.newarray .int, 2) := by decide +kernel
theorem dX3_init_28 : decode cX3_init 28 = .ok (.putfield 22, 3) := by decide +kernel
theorem dX3_init_31 : decode cX3_init 31 = .ok (.aload_n 0, 1) := by decide +kernel
theorem dX3_init_32 : decode cX3_init 32 = .ok (.iconst 0, 1) := by decide +kernel
theorem dX3_init_33 : decode cX3_init 33 = .ok (.putfield 25, 3) := by decide +kernel
theorem dX3_init_36 : decode cX3_init 36 = .ok (.return_, 1) := by decide +kernel
theorem dX3_playedBits_0 : decode cX3_playedBits 0 = .ok (.aload_n 0, 1) := by decide +kernel
theorem dX3_playedBits_1 : decode cX3_playedBits 1 = .ok (.getfield 25, 3) := by decide +kernel
theorem dX3_playedBits_4 : decode cX3_playedBits 4 = .ok (.ireturn, 1) := by decide +kernel
theorem dX3_has_0 : decode cX3_has 0 = .ok (.iload_n 1, 1) := by decide +kernel
theorem dX3_has_1 : decode cX3_has 1 = .ok (.iconst 0, 1) := by decide +kernel
theorem dX3_has_2 : decode cX3_has 2 = .ok (.iconst 5, 1) := by decide +kernel
theorem dX3_has_3 : decode cX3_has 3 = .ok (.invokestatic 29, 3) := by decide +kernel
theorem dX3_has_6 : decode cX3_has 6 = .ok (.ifCond .eq 18, 3) := by decide +kernel
theorem dX3_has_9 : decode cX3_has 9 = .ok (.aload_n 0, 1) := by decide +kernel
theorem dX3_has_10 : decode cX3_has 10 = .ok (.getfield 25, 3) := by decide +kernel
theorem dX3_has_13 : decode cX3_has 13 = .ok (.iload_n 1, 1) := by decide +kernel
theorem dX3_has_14 : decode cX3_has 14 = .ok (.invokestatic 33, 3) := by decide +kernel
theorem dX3_has_17 : decode cX3_has 17 = .ok (.ifCond .eq 7, 3) := by decide +kernel
theorem dX3_has_20 : decode cX3_has 20 = .ok (.iconst 1, 1) := by decide +kernel
theorem dX3_has_21 : decode cX3_has 21 = .ok (.goto 4, 3) := by decide +kernel
theorem dX3_has_24 : decode cX3_has 24 = .ok (.iconst 0, 1) := by decide +kernel
theorem dX3_has_25 : decode cX3_has 25 = .ok (.ireturn, 1) := by decide +kernel
theorem dX3_piperOf_0 : decode cX3_piperOf 0 = .ok (.aload_n 0, 1) := by decide +kernel
theorem dX3_piperOf_1 : decode cX3_piperOf 1 = .ok (.getfield 12, 3) := by decide +kernel
theorem dX3_piperOf_4 : decode cX3_piperOf 4 = .ok (.iload_n 1, 1) := by decide +kernel
theorem dX3_piperOf_5 : decode cX3_piperOf 5 = .ok (.iload_n 2, 1) := by decide +kernel
theorem dX3_piperOf_6 : decode cX3_piperOf 6 = .ok (.invokevirtual 37, 3) := by decide +kernel
theorem dX3_piperOf_9 : decode cX3_piperOf 9 = .ok (.ireturn, 1) := by decide +kernel
theorem dX3_tuneOf_0 : decode cX3_tuneOf 0 = .ok (.aload_n 0, 1) := by decide +kernel
theorem dX3_tuneOf_1 : decode cX3_tuneOf 1 = .ok (.iload_n 1, 1) := by decide +kernel
theorem dX3_tuneOf_2 : decode cX3_tuneOf 2 = .ok (.invokevirtual 41, 3) := by decide +kernel
theorem dX3_tuneOf_5 : decode cX3_tuneOf 5 = .ok (.ifCond .eq 12, 3) := by decide +kernel
theorem dX3_tuneOf_8 : decode cX3_tuneOf 8 = .ok (.aload_n 0, 1) := by decide +kernel
theorem dX3_tuneOf_9 : decode cX3_tuneOf 9 = .ok (.getfield 18, 3) := by decide +kernel
theorem dX3_tuneOf_12 : decode cX3_tuneOf 12 = .ok (.iload_n 1, 1) := by decide +kernel
theorem dX3_tuneOf_13 : decode cX3_tuneOf 13 = .ok (.iaload, 1) := by decide +kernel
theorem dX3_tuneOf_14 : decode cX3_tuneOf 14 = .ok (.goto 4, 3) := by decide +kernel
theorem dX3_tuneOf_17 : decode cX3_tuneOf 17 = .ok (.iconst (-1), 1) := by decide +kernel
theorem dX3_tuneOf_18 : decode cX3_tuneOf 18 = .ok (.ireturn, 1) := by decide +kernel
theorem dX3_partsOf_0 : decode cX3_partsOf 0 = .ok (.aload_n 0, 1) := by decide +kernel
theorem dX3_partsOf_1 : decode cX3_partsOf 1 = .ok (.getfield 12, 3) := by decide +kernel
theorem dX3_partsOf_4 : decode cX3_partsOf 4 = .ok (.iload_n 1, 1) := by decide +kernel
theorem dX3_partsOf_5 : decode cX3_partsOf 5 = .ok (.invokevirtual 45, 3) := by decide +kernel
theorem dX3_partsOf_8 : decode cX3_partsOf 8 = .ok (.ireturn, 1) := by decide +kernel
theorem dX3_castCalls_0 : decode cX3_castCalls 0 = .ok (.aload_n 0, 1) := by decide +kernel
theorem dX3_castCalls_1 : decode cX3_castCalls 1 = .ok (.getfield 12, 3) := by decide +kernel
theorem dX3_castCalls_4 : decode cX3_castCalls 4 = .ok (.invokevirtual 49, 3) := by decide +kernel
theorem dX3_castCalls_7 : decode cX3_castCalls 7 = .ok (.aload_n 0, 1) := by decide +kernel
theorem dX3_castCalls_8 : decode cX3_castCalls 8 = .ok (.iconst 0, 1) := by decide +kernel
theorem dX3_castCalls_9 : decode cX3_castCalls 9 = .ok (.putfield 25, 3) := by decide +kernel
theorem dX3_castCalls_12 : decode cX3_castCalls 12 = .ok (.iconst 0, 1) := by decide +kernel
theorem dX3_castCalls_13 : decode cX3_castCalls 13 = .ok (.istore 5, 2) := by decide +kernel
theorem dX3_castCalls_15 : decode cX3_castCalls 15 = .ok (.iload 5, 2) := by decide +kernel
theorem dX3_castCalls_17 : decode cX3_castCalls 17 = .ok (.iconst 3, 1) := by decide +kernel
theorem dX3_castCalls_18 : decode cX3_castCalls 18 = .ok (.if_icmp .gt 77, 3) := by decide +kernel
theorem dX3_castCalls_21 : decode cX3_castCalls 21 = .ok (.iconst 0, 1) := by decide +kernel
theorem dX3_castCalls_22 : decode cX3_castCalls 22 = .ok (.istore 6, 2) := by decide +kernel
theorem dX3_castCalls_24 : decode cX3_castCalls 24 = .ok (.iload 6, 2) := by decide +kernel
theorem dX3_castCalls_26 : decode cX3_castCalls 26 = .ok (.bipush 6, 2) := by decide +kernel
theorem dX3_castCalls_28 : decode cX3_castCalls 28 = .ok (.if_icmp .ge 61, 3) := by decide +kernel
theorem dX3_castCalls_31 : decode cX3_castCalls 31 = .ok (.aload_n 1, 1) := by decide +kernel
theorem dX3_castCalls_32 : decode cX3_castCalls 32 = .ok (.iload 6, 2) := by decide +kernel
theorem dX3_castCalls_34 : decode cX3_castCalls 34 = .ok (.aaload, 1) := by decide +kernel
theorem dX3_castCalls_35 : decode cX3_castCalls 35 = .ok (.iload 5, 2) := by decide +kernel
theorem dX3_castCalls_37 : decode cX3_castCalls 37 = .ok (.invokevirtual 54, 3) := by decide +kernel
theorem dX3_castCalls_40 : decode cX3_castCalls 40 = .ok (.ifCond .eq 43, 3) := by decide +kernel
theorem dX3_castCalls_43 : decode cX3_castCalls 43 = .ok (.aload_n 0, 1) := by decide +kernel
theorem dX3_castCalls_44 : decode cX3_castCalls 44 = .ok (.aload_n 1, 1) := by decide +kernel
theorem dX3_castCalls_45 : decode cX3_castCalls 45 = .ok (.aload_n 3, 1) := by decide +kernel
theorem dX3_castCalls_46 : decode cX3_castCalls 46 = .ok (.iload 6, 2) := by decide +kernel
theorem dX3_castCalls_48 : decode cX3_castCalls 48 = .ok (.invokevirtual 57, 3) := by decide +kernel
theorem dX3_castCalls_51 : decode cX3_castCalls 51 = .ok (.ifCond .eq 32, 3) := by decide +kernel
theorem dX3_castCalls_54 : decode cX3_castCalls 54 = .ok (.aload_n 0, 1) := by decide +kernel
theorem dX3_castCalls_55 : decode cX3_castCalls 55 = .ok (.getfield 12, 3) := by decide +kernel
theorem dX3_castCalls_58 : decode cX3_castCalls 58 = .ok (.aload_n 1, 1) := by decide +kernel
theorem dX3_castCalls_59 : decode cX3_castCalls 59 = .ok (.iload 6, 2) := by decide +kernel
theorem dX3_castCalls_61 : decode cX3_castCalls 61 = .ok (.aload_n 2, 1) := by decide +kernel
theorem dX3_castCalls_62 : decode cX3_castCalls 62 = .ok (.iload 4, 2) := by decide +kernel
theorem dX3_castCalls_64 : decode cX3_castCalls 64 = .ok (.invokevirtual 61, 3) := by decide +kernel
theorem dX3_castCalls_67 : decode cX3_castCalls 67 = .ok (.ifCond .eq 16, 3) := by decide +kernel
theorem dX3_castCalls_70 : decode cX3_castCalls 70 = .ok (.aload_n 0, 1) := by decide +kernel
theorem dX3_castCalls_71 : decode cX3_castCalls 71 = .ok (.dup, 1) := by decide +kernel
theorem dX3_castCalls_72 : decode cX3_castCalls 72 = .ok (.getfield 25, 3) := by decide +kernel
theorem dX3_castCalls_75 : decode cX3_castCalls 75 = .ok (.iconst 1, 1) := by decide +kernel
theorem dX3_castCalls_76 : decode cX3_castCalls 76 = .ok (.iload 6, 2) := by decide +kernel
theorem dX3_castCalls_78 : decode cX3_castCalls 78 = .ok (.ishl, 1) := by decide +kernel
theorem dX3_castCalls_79 : decode cX3_castCalls 79 = .ok (.ior, 1) := by decide +kernel
theorem dX3_castCalls_80 : decode cX3_castCalls 80 = .ok (.putfield 25, 3) := by decide +kernel
theorem dX3_castCalls_83 : decode cX3_castCalls 83 = .ok (.iinc 6 1, 3) := by decide +kernel
theorem dX3_castCalls_86 : decode cX3_castCalls 86 = .ok (.goto (-62), 3) := by decide +kernel
theorem dX3_castCalls_89 : decode cX3_castCalls 89 = .ok (.iinc 5 1, 3) := by decide +kernel
theorem dX3_castCalls_92 : decode cX3_castCalls 92 = .ok (.goto (-77), 3) := by decide +kernel
theorem dX3_castCalls_95 : decode cX3_castCalls 95 = .ok (.aload_n 0, 1) := by decide +kernel
theorem dX3_castCalls_96 : decode cX3_castCalls 96 = .ok (.getfield 12, 3) := by decide +kernel
theorem dX3_castCalls_99 : decode cX3_castCalls 99 = .ok (.invokevirtual 65, 3) := by decide +kernel
theorem dX3_castCalls_102 : decode cX3_castCalls 102 = .ok (.return_, 1) := by decide +kernel
theorem dX3_hasPieces_0 : decode cX3_hasPieces 0 = .ok (.aload_n 0, 1) := by decide +kernel
theorem dX3_hasPieces_1 : decode cX3_hasPieces 1 = .ok (.getfield 25, 3) := by decide +kernel
theorem dX3_hasPieces_4 : decode cX3_hasPieces 4 = .ok (.iconst 1, 1) := by decide +kernel
theorem dX3_hasPieces_5 : decode cX3_hasPieces 5 = .ok (.iload_n 3, 1) := by decide +kernel
theorem dX3_hasPieces_6 : decode cX3_hasPieces 6 = .ok (.ishl, 1) := by decide +kernel
theorem dX3_hasPieces_7 : decode cX3_hasPieces 7 = .ok (.ior, 1) := by decide +kernel
theorem dX3_hasPieces_8 : decode cX3_hasPieces 8 = .ok (.istore 4, 2) := by decide +kernel
theorem dX3_hasPieces_10 : decode cX3_hasPieces 10 = .ok (.iconst 0, 1) := by decide +kernel
theorem dX3_hasPieces_11 : decode cX3_hasPieces 11 = .ok (.istore 5, 2) := by decide +kernel
theorem dX3_hasPieces_13 : decode cX3_hasPieces 13 = .ok (.iload 5, 2) := by decide +kernel
theorem dX3_hasPieces_15 : decode cX3_hasPieces 15 = .ok (.bipush 6, 2) := by decide +kernel
theorem dX3_hasPieces_17 : decode cX3_hasPieces 17 = .ok (.if_icmp .ge 39, 3) := by decide +kernel
theorem dX3_hasPieces_20 : decode cX3_hasPieces 20 = .ok (.iload 4, 2) := by decide +kernel
theorem dX3_hasPieces_22 : decode cX3_hasPieces 22 = .ok (.iload 5, 2) := by decide +kernel
theorem dX3_hasPieces_24 : decode cX3_hasPieces 24 = .ok (.invokestatic 33, 3) := by decide +kernel
theorem dX3_hasPieces_27 : decode cX3_hasPieces 27 = .ok (.ifCond .eq 23, 3) := by decide +kernel
theorem dX3_hasPieces_30 : decode cX3_hasPieces 30 = .ok (.aload_n 1, 1) := by decide +kernel
theorem dX3_hasPieces_31 : decode cX3_hasPieces 31 = .ok (.aload_n 2, 1) := by decide +kernel
theorem dX3_hasPieces_32 : decode cX3_hasPieces 32 = .ok (.iload 4, 2) := by decide +kernel
theorem dX3_hasPieces_34 : decode cX3_hasPieces 34 = .ok (.aload_n 1, 1) := by decide +kernel
theorem dX3_hasPieces_35 : decode cX3_hasPieces 35 = .ok (.iload 5, 2) := by decide +kernel
theorem dX3_hasPieces_37 : decode cX3_hasPieces 37 = .ok (.aaload, 1) := by decide +kernel
theorem dX3_hasPieces_38 : decode cX3_hasPieces 38 = .ok (.iconst 1, 1) := by decide +kernel
theorem dX3_hasPieces_39 : decode cX3_hasPieces 39 = .ok (.invokevirtual 68, 3) := by decide +kernel
theorem dX3_hasPieces_42 : decode cX3_hasPieces 42 = .ok (.invokestatic 71, 3) := by decide +kernel
theorem dX3_hasPieces_45 : decode cX3_hasPieces 45 = .ok (.ifCond .ne 5, 3) := by decide +kernel
theorem dX3_hasPieces_48 : decode cX3_hasPieces 48 = .ok (.iconst 0, 1) := by decide +kernel
theorem dX3_hasPieces_49 : decode cX3_hasPieces 49 = .ok (.ireturn, 1) := by decide +kernel
theorem dX3_hasPieces_50 : decode cX3_hasPieces 50 = .ok (.iinc 5 1, 3) := by decide +kernel
theorem dX3_hasPieces_53 : decode cX3_hasPieces 53 = .ok (.goto (-40), 3) := by decide +kernel
theorem dX3_hasPieces_56 : decode cX3_hasPieces 56 = .ok (.iconst 1, 1) := by decide +kernel
theorem dX3_hasPieces_57 : decode cX3_hasPieces 57 = .ok (.ireturn, 1) := by decide +kernel
theorem dX3_hasPiecesAt_0 : decode cX3_hasPiecesAt 0 = .ok (.iconst 0, 1) := by decide +kernel
theorem dX3_hasPiecesAt_1 : decode cX3_hasPiecesAt 1 = .ok (.istore 4, 2) := by decide +kernel
theorem dX3_hasPiecesAt_3 : decode cX3_hasPiecesAt 3 = .ok (.iload 4, 2) := by decide +kernel
theorem dX3_hasPiecesAt_5 : decode cX3_hasPiecesAt 5 = .ok (.iconst 5, 1) := by decide +kernel
theorem dX3_hasPiecesAt_6 : decode cX3_hasPiecesAt 6 = .ok (.if_icmp .ge 73, 3) := by decide +kernel
theorem dX3_hasPiecesAt_9 : decode cX3_hasPiecesAt 9 = .ok (.iconst 0, 1) := by decide +kernel
theorem dX3_hasPiecesAt_10 : decode cX3_hasPiecesAt 10 = .ok (.istore 5, 2) := by decide +kernel
theorem dX3_hasPiecesAt_12 : decode cX3_hasPiecesAt 12 = .ok (.iconst 0, 1) := by decide +kernel
theorem dX3_hasPiecesAt_13 : decode cX3_hasPiecesAt 13 = .ok (.istore 6, 2) := by decide +kernel
theorem dX3_hasPiecesAt_15 : decode cX3_hasPiecesAt 15 = .ok (.iload 6, 2) := by decide +kernel
theorem dX3_hasPiecesAt_17 : decode cX3_hasPiecesAt 17 = .ok (.bipush 6, 2) := by decide +kernel
theorem dX3_hasPiecesAt_19 : decode cX3_hasPiecesAt 19 = .ok (.if_icmp .ge 43, 3) := by decide +kernel
theorem dX3_hasPiecesAt_22 : decode cX3_hasPiecesAt 22 = .ok (.iload_n 2, 1) := by decide +kernel
theorem dX3_hasPiecesAt_23 : decode cX3_hasPiecesAt 23 = .ok (.iload 6, 2) := by decide +kernel
theorem dX3_hasPiecesAt_25 : decode cX3_hasPiecesAt 25 = .ok (.invokestatic 33, 3) := by decide +kernel
theorem dX3_hasPiecesAt_28 : decode cX3_hasPiecesAt 28 = .ok (.ifCond .eq 28, 3) := by decide +kernel
theorem dX3_hasPiecesAt_31 : decode cX3_hasPiecesAt 31 = .ok (.aload_n 0, 1) := by decide +kernel
theorem dX3_hasPiecesAt_32 : decode cX3_hasPiecesAt 32 = .ok (.iload 6, 2) := by decide +kernel
theorem dX3_hasPiecesAt_34 : decode cX3_hasPiecesAt 34 = .ok (.aaload, 1) := by decide +kernel
theorem dX3_hasPiecesAt_35 : decode cX3_hasPiecesAt 35 = .ok (.iload_n 3, 1) := by decide +kernel
theorem dX3_hasPiecesAt_36 : decode cX3_hasPiecesAt 36 = .ok (.invokevirtual 75, 3) := by decide +kernel
theorem dX3_hasPiecesAt_39 : decode cX3_hasPiecesAt 39 = .ok (.ifCond .eq 17, 3) := by decide +kernel
theorem dX3_hasPiecesAt_42 : decode cX3_hasPiecesAt 42 = .ok (.iload 5, 2) := by decide +kernel
theorem dX3_hasPiecesAt_44 : decode cX3_hasPiecesAt 44 = .ok (.aload_n 0, 1) := by decide +kernel
theorem dX3_hasPiecesAt_45 : decode cX3_hasPiecesAt 45 = .ok (.iload 6, 2) := by decide +kernel
theorem dX3_hasPiecesAt_47 : decode cX3_hasPiecesAt 47 = .ok (.aaload, 1) := by decide +kernel
theorem dX3_hasPiecesAt_48 : decode cX3_hasPiecesAt 48 = .ok (.iload 4, 2) := by decide +kernel
theorem dX3_hasPiecesAt_50 : decode cX3_hasPiecesAt 50 = .ok (.invokevirtual 78, 3) := by decide +kernel
theorem dX3_hasPiecesAt_53 : decode cX3_hasPiecesAt 53 = .ok (.iadd, 1) := by decide +kernel
theorem dX3_hasPiecesAt_54 : decode cX3_hasPiecesAt 54 = .ok (.istore 5, 2) := by decide +kernel
theorem dX3_hasPiecesAt_56 : decode cX3_hasPiecesAt 56 = .ok (.iinc 6 1, 3) := by decide +kernel
theorem dX3_hasPiecesAt_59 : decode cX3_hasPiecesAt 59 = .ok (.goto (-44), 3) := by decide +kernel
theorem dX3_hasPiecesAt_62 : decode cX3_hasPiecesAt 62 = .ok (.iload 5, 2) := by decide +kernel
theorem dX3_hasPiecesAt_64 : decode cX3_hasPiecesAt 64 = .ok (.aload_n 1, 1) := by decide +kernel
theorem dX3_hasPiecesAt_65 : decode cX3_hasPiecesAt 65 = .ok (.iload 4, 2) := by decide +kernel
theorem dX3_hasPiecesAt_67 : decode cX3_hasPiecesAt 67 = .ok (.iaload, 1) := by decide +kernel
theorem dX3_hasPiecesAt_68 : decode cX3_hasPiecesAt 68 = .ok (.if_icmp .le 5, 3) := by decide +kernel
theorem dX3_hasPiecesAt_71 : decode cX3_hasPiecesAt 71 = .ok (.iconst 0, 1) := by decide +kernel
theorem dX3_hasPiecesAt_72 : decode cX3_hasPiecesAt 72 = .ok (.ireturn, 1) := by decide +kernel
theorem dX3_hasPiecesAt_73 : decode cX3_hasPiecesAt 73 = .ok (.iinc 4 1, 3) := by decide +kernel
theorem dX3_hasPiecesAt_76 : decode cX3_hasPiecesAt 76 = .ok (.goto (-73), 3) := by decide +kernel
theorem dX3_hasPiecesAt_79 : decode cX3_hasPiecesAt 79 = .ok (.iconst 1, 1) := by decide +kernel
theorem dX3_hasPiecesAt_80 : decode cX3_hasPiecesAt 80 = .ok (.ireturn, 1) := by decide +kernel
theorem dX3_chooseTunes_0 : decode cX3_chooseTunes 0 = .ok (.iconst 0, 1) := by decide +kernel
theorem dX3_chooseTunes_1 : decode cX3_chooseTunes 1 = .ok (.istore 5, 2) := by decide +kernel
theorem dX3_chooseTunes_3 : decode cX3_chooseTunes 3 = .ok (.iload 5, 2) := by decide +kernel
theorem dX3_chooseTunes_5 : decode cX3_chooseTunes 5 = .ok (.bipush 10, 2) := by decide +kernel
theorem dX3_chooseTunes_7 : decode cX3_chooseTunes 7 = .ok (.if_icmp .ge 23, 3) := by decide +kernel
theorem dX3_chooseTunes_10 : decode cX3_chooseTunes 10 = .ok (.aload_n 0, 1) := by decide +kernel
theorem dX3_chooseTunes_11 : decode cX3_chooseTunes 11 = .ok (.getfield 22, 3) := by decide +kernel
theorem dX3_chooseTunes_14 : decode cX3_chooseTunes 14 = .ok (.iload 5, 2) := by decide +kernel
theorem dX3_chooseTunes_16 : decode cX3_chooseTunes 16 = .ok (.aload_n 2, 1) := by decide +kernel
theorem dX3_chooseTunes_17 : decode cX3_chooseTunes 17 = .ok (.iload 5, 2) := by decide +kernel
theorem dX3_chooseTunes_19 : decode cX3_chooseTunes 19 = .ok (.aaload, 1) := by decide +kernel
theorem dX3_chooseTunes_20 : decode cX3_chooseTunes 20 = .ok (.getfield 81, 3) := by decide +kernel
theorem dX3_chooseTunes_23 : decode cX3_chooseTunes 23 = .ok (.iastore, 1) := by decide +kernel
theorem dX3_chooseTunes_24 : decode cX3_chooseTunes 24 = .ok (.iinc 5 1, 3) := by decide +kernel
theorem dX3_chooseTunes_27 : decode cX3_chooseTunes 27 = .ok (.goto (-24), 3) := by decide +kernel
theorem dX3_chooseTunes_30 : decode cX3_chooseTunes 30 = .ok (.iload 4, 2) := by decide +kernel
theorem dX3_chooseTunes_32 : decode cX3_chooseTunes 32 = .ok (.istore 5, 2) := by decide +kernel
theorem dX3_chooseTunes_34 : decode cX3_chooseTunes 34 = .ok (.iconst 0, 1) := by decide +kernel
theorem dX3_chooseTunes_35 : decode cX3_chooseTunes 35 = .ok (.istore 6, 2) := by decide +kernel
theorem dX3_chooseTunes_37 : decode cX3_chooseTunes 37 = .ok (.iload 6, 2) := by decide +kernel
theorem dX3_chooseTunes_39 : decode cX3_chooseTunes 39 = .ok (.iconst 3, 1) := by decide +kernel
theorem dX3_chooseTunes_40 : decode cX3_chooseTunes 40 = .ok (.if_icmp .gt 83, 3) := by decide +kernel
theorem dX3_chooseTunes_43 : decode cX3_chooseTunes 43 = .ok (.iconst 0, 1) := by decide +kernel
theorem dX3_chooseTunes_44 : decode cX3_chooseTunes 44 = .ok (.istore 7, 2) := by decide +kernel
theorem dX3_chooseTunes_46 : decode cX3_chooseTunes 46 = .ok (.iload 7, 2) := by decide +kernel
theorem dX3_chooseTunes_48 : decode cX3_chooseTunes 48 = .ok (.bipush 6, 2) := by decide +kernel
theorem dX3_chooseTunes_50 : decode cX3_chooseTunes 50 = .ok (.if_icmp .ge 67, 3) := by decide +kernel
theorem dX3_chooseTunes_53 : decode cX3_chooseTunes 53 = .ok (.aload_n 0, 1) := by decide +kernel
theorem dX3_chooseTunes_54 : decode cX3_chooseTunes 54 = .ok (.iload 7, 2) := by decide +kernel
theorem dX3_chooseTunes_56 : decode cX3_chooseTunes 56 = .ok (.invokevirtual 41, 3) := by decide +kernel
theorem dX3_chooseTunes_59 : decode cX3_chooseTunes 59 = .ok (.ifCond .eq 52, 3) := by decide +kernel
theorem dX3_chooseTunes_62 : decode cX3_chooseTunes 62 = .ok (.aload_n 1, 1) := by decide +kernel
theorem dX3_chooseTunes_63 : decode cX3_chooseTunes 63 = .ok (.iload 7, 2) := by decide +kernel
theorem dX3_chooseTunes_65 : decode cX3_chooseTunes 65 = .ok (.aaload, 1) := by decide +kernel
theorem dX3_chooseTunes_66 : decode cX3_chooseTunes 66 = .ok (.iload 6, 2) := by decide +kernel
theorem dX3_chooseTunes_68 : decode cX3_chooseTunes 68 = .ok (.invokevirtual 54, 3) := by decide +kernel
theorem dX3_chooseTunes_71 : decode cX3_chooseTunes 71 = .ok (.ifCond .eq 40, 3) := by decide +kernel
theorem dX3_chooseTunes_74 : decode cX3_chooseTunes 74 = .ok (.aload_n 0, 1) := by decide +kernel
theorem dX3_chooseTunes_75 : decode cX3_chooseTunes 75 = .ok (.getfield 18, 3) := by decide +kernel
theorem dX3_chooseTunes_78 : decode cX3_chooseTunes 78 = .ok (.iload 7, 2) := by decide +kernel
theorem dX3_chooseTunes_80 : decode cX3_chooseTunes 80 = .ok (.aload_n 0, 1) := by decide +kernel
theorem dX3_chooseTunes_81 : decode cX3_chooseTunes 81 = .ok (.aload_n 2, 1) := by decide +kernel
theorem dX3_chooseTunes_82 : decode cX3_chooseTunes 82 = .ok (.aload_n 1, 1) := by decide +kernel
theorem dX3_chooseTunes_83 : decode cX3_chooseTunes 83 = .ok (.iload 7, 2) := by decide +kernel
theorem dX3_chooseTunes_85 : decode cX3_chooseTunes 85 = .ok (.aaload, 1) := by decide +kernel
theorem dX3_chooseTunes_86 : decode cX3_chooseTunes 86 = .ok (.iconst 4, 1) := by decide +kernel
theorem dX3_chooseTunes_87 : decode cX3_chooseTunes 87 = .ok (.invokevirtual 68, 3) := by decide +kernel
theorem dX3_chooseTunes_90 : decode cX3_chooseTunes 90 = .ok (.iload_n 3, 1) := by decide +kernel
theorem dX3_chooseTunes_91 : decode cX3_chooseTunes 91 = .ok (.invokevirtual 86, 3) := by decide +kernel
theorem dX3_chooseTunes_94 : decode cX3_chooseTunes 94 = .ok (.iastore, 1) := by decide +kernel
theorem dX3_chooseTunes_95 : decode cX3_chooseTunes 95 = .ok (.aload_n 0, 1) := by decide +kernel
theorem dX3_chooseTunes_96 : decode cX3_chooseTunes 96 = .ok (.aload_n 0, 1) := by decide +kernel
theorem dX3_chooseTunes_97 : decode cX3_chooseTunes 97 = .ok (.getfield 18, 3) := by decide +kernel
theorem dX3_chooseTunes_100 : decode cX3_chooseTunes 100 = .ok (.iload 7, 2) := by decide +kernel
theorem dX3_chooseTunes_102 : decode cX3_chooseTunes 102 = .ok (.iaload, 1) := by decide +kernel
theorem dX3_chooseTunes_103 : decode cX3_chooseTunes 103 = .ok (.iload 5, 2) := by decide +kernel
theorem dX3_chooseTunes_105 : decode cX3_chooseTunes 105 = .ok (.invokevirtual 90, 3) := by decide +kernel
theorem dX3_chooseTunes_108 : decode cX3_chooseTunes 108 = .ok (.iinc 5 1, 3) := by decide +kernel
theorem dX3_chooseTunes_111 : decode cX3_chooseTunes 111 = .ok (.iinc 7 1, 3) := by decide +kernel
theorem dX3_chooseTunes_114 : decode cX3_chooseTunes 114 = .ok (.goto (-68), 3) := by decide +kernel
theorem dX3_chooseTunes_117 : decode cX3_chooseTunes 117 = .ok (.iinc 6 1, 3) := by decide +kernel
theorem dX3_chooseTunes_120 : decode cX3_chooseTunes 120 = .ok (.goto (-83), 3) := by decide +kernel
theorem dX3_chooseTunes_123 : decode cX3_chooseTunes 123 = .ok (.return_, 1) := by decide +kernel
theorem dX3_takeTurn_0 : decode cX3_takeTurn 0 = .ok (.iload_n 1, 1) := by decide +kernel
theorem dX3_takeTurn_1 : decode cX3_takeTurn 1 = .ok (.iconst 0, 1) := by decide +kernel
theorem dX3_takeTurn_2 : decode cX3_takeTurn 2 = .ok (.bipush 9, 2) := by decide +kernel
theorem dX3_takeTurn_4 : decode cX3_takeTurn 4 = .ok (.invokestatic 29, 3) := by decide +kernel
theorem dX3_takeTurn_7 : decode cX3_takeTurn 7 = .ok (.ifCond .eq 10, 3) := by decide +kernel
theorem dX3_takeTurn_10 : decode cX3_takeTurn 10 = .ok (.aload_n 0, 1) := by decide +kernel
theorem dX3_takeTurn_11 : decode cX3_takeTurn 11 = .ok (.getfield 22, 3) := by decide +kernel
theorem dX3_takeTurn_14 : decode cX3_takeTurn 14 = .ok (.iload_n 1, 1) := by decide +kernel
theorem dX3_takeTurn_15 : decode cX3_takeTurn 15 = .ok (.iload_n 2, 1) := by decide +kernel
theorem dX3_takeTurn_16 : decode cX3_takeTurn 16 = .ok (.iastore, 1) := by decide +kernel
theorem dX3_takeTurn_17 : decode cX3_takeTurn 17 = .ok (.return_, 1) := by decide +kernel
theorem dX3_hearTunes_0 : decode cX3_hearTunes 0 = .ok (.iconst 0, 1) := by decide +kernel
theorem dX3_hearTunes_1 : decode cX3_hearTunes 1 = .ok (.istore_n 2, 1) := by decide +kernel
theorem dX3_hearTunes_2 : decode cX3_hearTunes 2 = .ok (.iload_n 2, 1) := by decide +kernel
theorem dX3_hearTunes_3 : decode cX3_hearTunes 3 = .ok (.bipush 10, 2) := by decide +kernel
theorem dX3_hearTunes_5 : decode cX3_hearTunes 5 = .ok (.if_icmp .ge 21, 3) := by decide +kernel
theorem dX3_hearTunes_8 : decode cX3_hearTunes 8 = .ok (.aload_n 1, 1) := by decide +kernel
theorem dX3_hearTunes_9 : decode cX3_hearTunes 9 = .ok (.iload_n 2, 1) := by decide +kernel
theorem dX3_hearTunes_10 : decode cX3_hearTunes 10 = .ok (.aaload, 1) := by decide +kernel
theorem dX3_hearTunes_11 : decode cX3_hearTunes 11 = .ok (.aload_n 0, 1) := by decide +kernel
theorem dX3_hearTunes_12 : decode cX3_hearTunes 12 = .ok (.getfield 22, 3) := by decide +kernel
theorem dX3_hearTunes_15 : decode cX3_hearTunes 15 = .ok (.iload_n 2, 1) := by decide +kernel
theorem dX3_hearTunes_16 : decode cX3_hearTunes 16 = .ok (.iaload, 1) := by decide +kernel
theorem dX3_hearTunes_17 : decode cX3_hearTunes 17 = .ok (.putfield 81, 3) := by decide +kernel
theorem dX3_hearTunes_20 : decode cX3_hearTunes 20 = .ok (.iinc 2 1, 3) := by decide +kernel
theorem dX3_hearTunes_23 : decode cX3_hearTunes 23 = .ok (.goto (-21), 3) := by decide +kernel
theorem dX3_hearTunes_26 : decode cX3_hearTunes 26 = .ok (.return_, 1) := by decide +kernel
theorem dX3_longestUnheard_0 : decode cX3_longestUnheard 0 = .ok (.iconst (-1), 1) := by decide +kernel
theorem dX3_longestUnheard_1 : decode cX3_longestUnheard 1 = .ok (.istore 4, 2) := by decide +kernel
theorem dX3_longestUnheard_3 : decode cX3_longestUnheard 3 = .ok (.iconst 0, 1) := by decide +kernel
theorem dX3_longestUnheard_4 : decode cX3_longestUnheard 4 = .ok (.istore 5, 2) := by decide +kernel
theorem dX3_longestUnheard_6 : decode cX3_longestUnheard 6 = .ok (.iload 5, 2) := by decide +kernel
theorem dX3_longestUnheard_8 : decode cX3_longestUnheard 8 = .ok (.bipush 10, 2) := by decide +kernel
theorem dX3_longestUnheard_10 : decode cX3_longestUnheard 10 = .ok (.if_icmp .ge 48, 3) := by decide +kernel
theorem dX3_longestUnheard_13 : decode cX3_longestUnheard 13 = .ok (.aload_n 1, 1) := by decide +kernel
theorem dX3_longestUnheard_14 : decode cX3_longestUnheard 14 = .ok (.iload 5, 2) := by decide +kernel
theorem dX3_longestUnheard_16 : decode cX3_longestUnheard 16 = .ok (.aaload, 1) := by decide +kernel
theorem dX3_longestUnheard_17 : decode cX3_longestUnheard 17 = .ok (.iload_n 2, 1) := by decide +kernel
theorem dX3_longestUnheard_18 : decode cX3_longestUnheard 18 = .ok (.iload_n 3, 1) := by decide +kernel
theorem dX3_longestUnheard_19 : decode cX3_longestUnheard 19 = .ok (.invokevirtual 94, 3) := by decide +kernel
theorem dX3_longestUnheard_22 : decode cX3_longestUnheard 22 = .ok (.ifCond .eq 30, 3) := by decide +kernel
theorem dX3_longestUnheard_25 : decode cX3_longestUnheard 25 = .ok (.iload 4, 2) := by decide +kernel
theorem dX3_longestUnheard_27 : decode cX3_longestUnheard 27 = .ok (.iconst (-1), 1) := by decide +kernel
theorem dX3_longestUnheard_28 : decode cX3_longestUnheard 28 = .ok (.if_icmp .eq 20, 3) := by decide +kernel
theorem dX3_longestUnheard_31 : decode cX3_longestUnheard 31 = .ok (.aload_n 0, 1) := by decide +kernel
theorem dX3_longestUnheard_32 : decode cX3_longestUnheard 32 = .ok (.getfield 22, 3) := by decide +kernel
theorem dX3_longestUnheard_35 : decode cX3_longestUnheard 35 = .ok (.iload 5, 2) := by decide +kernel
theorem dX3_longestUnheard_37 : decode cX3_longestUnheard 37 = .ok (.iaload, 1) := by decide +kernel
theorem dX3_longestUnheard_38 : decode cX3_longestUnheard 38 = .ok (.aload_n 0, 1) := by decide +kernel
theorem dX3_longestUnheard_39 : decode cX3_longestUnheard 39 = .ok (.getfield 22, 3) := by decide +kernel
theorem dX3_longestUnheard_42 : decode cX3_longestUnheard 42 = .ok (.iload 4, 2) := by decide +kernel
theorem dX3_longestUnheard_44 : decode cX3_longestUnheard 44 = .ok (.iaload, 1) := by decide +kernel
theorem dX3_longestUnheard_45 : decode cX3_longestUnheard 45 = .ok (.if_icmp .ge 7, 3) := by decide +kernel
theorem dX3_longestUnheard_48 : decode cX3_longestUnheard 48 = .ok (.iload 5, 2) := by decide +kernel
theorem dX3_longestUnheard_50 : decode cX3_longestUnheard 50 = .ok (.istore 4, 2) := by decide +kernel
theorem dX3_longestUnheard_52 : decode cX3_longestUnheard 52 = .ok (.iinc 5 1, 3) := by decide +kernel
theorem dX3_longestUnheard_55 : decode cX3_longestUnheard 55 = .ok (.goto (-49), 3) := by decide +kernel
theorem dX3_longestUnheard_58 : decode cX3_longestUnheard 58 = .ok (.iload 4, 2) := by decide +kernel
theorem dX3_longestUnheard_60 : decode cX3_longestUnheard 60 = .ok (.ireturn, 1) := by decide +kernel
theorem dX4_init_0 : decode cX4_init 0 = .ok (.aload_n 0, 1) := by decide +kernel
theorem dX4_init_1 : decode cX4_init 1 = .ok (.invokespecial 3, 3) := by decide +kernel
theorem dX4_init_4 : decode cX4_init 4 = .ok (.aload_n 0, 1) := by decide +kernel
theorem dX4_init_5 : decode cX4_init 5 = .ok (.bipush 40, 2) := by decide +kernel
theorem dX4_init_7 : decode cX4_init 7 = .ok (.newarray .int, 2) := by decide +kernel
theorem dX4_init_9 : decode cX4_init 9 = .ok (.putfield 11, 3) := by decide +kernel
theorem dX4_init_12 : decode cX4_init 12 = .ok (.aload_n 0, 1) := by decide +kernel
theorem dX4_init_13 : decode cX4_init 13 = .ok (.iconst 0, 1) := by decide +kernel
theorem dX4_init_14 : decode cX4_init 14 = .ok (.putfield 15, 3) := by decide +kernel
theorem dX4_init_17 : decode cX4_init 17 = .ok (.return_, 1) := by decide +kernel
theorem dX4_size_0 : decode cX4_size 0 = .ok (.aload_n 0, 1) := by decide +kernel
theorem dX4_size_1 : decode cX4_size 1 = .ok (.getfield 15, 3) := by decide +kernel
theorem dX4_size_4 : decode cX4_size 4 = .ok (.ireturn, 1) := by decide +kernel
theorem dX4_hasRoom_0 : decode cX4_hasRoom 0 = .ok (.aload_n 0, 1) := by decide +kernel
theorem dX4_hasRoom_1 : decode cX4_hasRoom 1 = .ok (.getfield 15, 3) := by decide +kernel
theorem dX4_hasRoom_4 : decode cX4_hasRoom 4 = .ok (.bipush 20, 2) := by decide +kernel
theorem dX4_hasRoom_6 : decode cX4_hasRoom 6 = .ok (.iadd, 1) := by decide +kernel
theorem dX4_hasRoom_7 : decode cX4_hasRoom 7 = .ok (.bipush 40, 2) := by decide +kernel
theorem dX4_hasRoom_9 : decode cX4_hasRoom 9 = .ok (.if_icmp .gt 7, 3) := by decide +kernel
theorem dX4_hasRoom_12 : decode cX4_hasRoom 12 = .ok (.iconst 1, 1) := by decide +kernel
theorem dX4_hasRoom_13 : decode cX4_hasRoom 13 = .ok (.goto 4, 3) := by decide +kernel
theorem dX4_hasRoom_16 : decode cX4_hasRoom 16 = .ok (.iconst 0, 1) := by decide +kernel
theorem dX4_hasRoom_17 : decode cX4_hasRoom 17 = .ok (.ireturn, 1) := by decide +kernel
theorem dX4_put_0 : decode cX4_put 0 = .ok (.bipush 24, 2) := by decide +kernel
theorem dX4_put_2 : decode cX4_put 2 = .ok (.istore_n 2, 1) := by decide +kernel
theorem dX4_put_3 : decode cX4_put 3 = .ok (.iload_n 2, 1) := by decide +kernel
theorem dX4_put_4 : decode cX4_put 4 = .ok (.ifCond .lt 44, 3) := by decide +kernel
theorem dX4_put_7 : decode cX4_put 7 = .ok (.aload_n 0, 1) := by decide +kernel
theorem dX4_put_8 : decode cX4_put 8 = .ok (.getfield 15, 3) := by decide +kernel
theorem dX4_put_11 : decode cX4_put 11 = .ok (.bipush 40, 2) := by decide +kernel
theorem dX4_put_13 : decode cX4_put 13 = .ok (.if_icmp .ge 35, 3) := by decide +kernel
theorem dX4_put_16 : decode cX4_put 16 = .ok (.aload_n 0, 1) := by decide +kernel
theorem dX4_put_17 : decode cX4_put 17 = .ok (.getfield 11, 3) := by decide +kernel
theorem dX4_put_20 : decode cX4_put 20 = .ok (.aload_n 0, 1) := by decide +kernel
theorem dX4_put_21 : decode cX4_put 21 = .ok (.getfield 15, 3) := by decide +kernel
theorem dX4_put_24 : decode cX4_put 24 = .ok (.iload_n 1, 1) := by decide +kernel
theorem dX4_put_25 : decode cX4_put 25 = .ok (.iload_n 2, 1) := by decide +kernel
theorem dX4_put_26 : decode cX4_put 26 = .ok (.ishr, 1) := by decide +kernel
theorem dX4_put_27 : decode cX4_put 27 = .ok (.sipush 255, 3) := by decide +kernel
theorem dX4_put_30 : decode cX4_put 30 = .ok (.iand, 1) := by decide +kernel
theorem dX4_put_31 : decode cX4_put 31 = .ok (.iastore, 1) := by decide +kernel
theorem dX4_put_32 : decode cX4_put 32 = .ok (.aload_n 0, 1) := by decide +kernel
theorem dX4_put_33 : decode cX4_put 33 = .ok (.dup, 1) := by decide +kernel
theorem dX4_put_34 : decode cX4_put 34 = .ok (.getfield 15, 3) := by decide +kernel
theorem dX4_put_37 : decode cX4_put 37 = .ok (.iconst 1, 1) := by decide +kernel
theorem dX4_put_38 : decode cX4_put 38 = .ok (.iadd, 1) := by decide +kernel
theorem dX4_put_39 : decode cX4_put 39 = .ok (.putfield 15, 3) := by decide +kernel
theorem dX4_put_42 : decode cX4_put 42 = .ok (.iinc 2 (-8), 3) := by decide +kernel
theorem dX4_put_45 : decode cX4_put 45 = .ok (.goto (-42), 3) := by decide +kernel
theorem dX4_put_48 : decode cX4_put 48 = .ok (.return_, 1) := by decide +kernel
theorem dX4_byteAt_0 : decode cX4_byteAt 0 = .ok (.iload_n 1, 1) := by decide +kernel
theorem dX4_byteAt_1 : decode cX4_byteAt 1 = .ok (.iconst 0, 1) := by decide +kernel
theorem dX4_byteAt_2 : decode cX4_byteAt 2 = .ok (.aload_n 0, 1) := by decide +kernel
theorem dX4_byteAt_3 : decode cX4_byteAt 3 = .ok (.getfield 15, 3) := by decide +kernel
theorem dX4_byteAt_6 : decode cX4_byteAt 6 = .ok (.iconst 1, 1) := by decide +kernel
theorem dX4_byteAt_7 : decode cX4_byteAt 7 = .ok (.isub, 1) := by decide +kernel
theorem dX4_byteAt_8 : decode cX4_byteAt 8 = .ok (.invokestatic 19, 3) := by decide +kernel
theorem dX4_byteAt_11 : decode cX4_byteAt 11 = .ok (.ifCond .eq 12, 3) := by decide +kernel
theorem dX4_byteAt_14 : decode cX4_byteAt 14 = .ok (.aload_n 0, 1) := by decide +kernel
theorem dX4_byteAt_15 : decode cX4_byteAt 15 = .ok (.getfield 11, 3) := by decide +kernel
theorem dX4_byteAt_18 : decode cX4_byteAt 18 = .ok (.iload_n 1, 1) := by decide +kernel
theorem dX4_byteAt_19 : decode cX4_byteAt 19 = .ok (.iaload, 1) := by decide +kernel
theorem dX4_byteAt_20 : decode cX4_byteAt 20 = .ok (.goto 4, 3) := by decide +kernel
theorem dX4_byteAt_23 : decode cX4_byteAt 23 = .ok (.iconst (-1), 1) := by decide +kernel
theorem dX4_byteAt_24 : decode cX4_byteAt 24 = .ok (.ireturn, 1) := by decide +kernel
theorem dX4_empty_0 : decode cX4_empty 0 = .ok (.aload_n 0, 1) := by decide +kernel
theorem dX4_empty_1 : decode cX4_empty 1 = .ok (.iconst 0, 1) := by decide +kernel
theorem dX4_empty_2 : decode cX4_empty 2 = .ok (.putfield 15, 3) := by decide +kernel
theorem dX4_empty_5 : decode cX4_empty 5 = .ok (.return_, 1) := by decide +kernel
theorem dX5_init_0 : decode cX5_init 0 = .ok (.aload_n 0, 1) := by decide +kernel
theorem dX5_init_1 : decode cX5_init 1 = .ok (.invokespecial 3, 3) := by decide +kernel
theorem dX5_init_4 : decode cX5_init 4 = .ok (.aload_n 0, 1) := by decide +kernel
theorem dX5_init_5 : decode cX5_init 5 = .ok (.iconst 4, 1) := by decide +kernel
theorem dX5_init_6 : decode cX5_init 6 = .ok (.newarray .int, 2) := by decide +kernel
theorem dX5_init_8 : decode cX5_init 8 = .ok (.dup, 1) := by decide +kernel
theorem dX5_init_9 : decode cX5_init 9 = .ok (.iconst 0, 1) := by decide +kernel
theorem dX5_init_10 : decode cX5_init 10 = .ok (.iconst 1, 1) := by decide +kernel
theorem dX5_init_11 : decode cX5_init 11 = .ok (.iastore, 1) := by decide +kernel
theorem dX5_init_12 : decode cX5_init 12 = .ok (.dup, 1) := by decide +kernel
theorem dX5_init_13 : decode cX5_init 13 = .ok (.iconst 1, 1) := by decide +kernel
theorem dX5_init_14 : decode cX5_init 14 = .ok (.bipush 10, 2) := by decide +kernel
theorem dX5_init_16 : decode cX5_init 16 = .ok (.iastore, 1) := by decide +kernel
theorem dX5_init_17 : decode cX5_init 17 = .ok (.dup, 1) := by decide +kernel
theorem dX5_init_18 : decode cX5_init 18 = .ok (.iconst 2, 1) := by decide +kernel
theorem dX5_init_19 : decode cX5_init 19 = .ok (.bipush 100, 2) := by decide +kernel
theorem dX5_init_21 : decode cX5_init 21 = .ok (.iastore, 1) := by decide +kernel
theorem dX5_init_22 : decode cX5_init 22 = .ok (.dup, 1) := by decide +kernel
theorem dX5_init_23 : decode cX5_init 23 = .ok (.iconst 3, 1) := by decide +kernel
theorem dX5_init_24 : decode cX5_init 24 = .ok (.bipush 50, 2) := by decide +kernel
theorem dX5_init_26 : decode cX5_init 26 = .ok (.iastore, 1) := by decide +kernel
theorem dX5_init_27 : decode cX5_init 27 = .ok (.putfield 9, 3) := by decide +kernel
theorem dX5_init_30 : decode cX5_init 30 = .ok (.aload_n 0, 1) := by decide +kernel
theorem dX5_init_31 : decode cX5_init 31 = .ok (.iconst 4, 1) := by decide +kernel
theorem dX5_init_32 : decode cX5_init 32 = .ok (.newarray .int, 2) := by decide +kernel
theorem dX5_init_34 : decode cX5_init 34 = .ok (.putfield 15, 3) := by decide +kernel
theorem dX5_init_37 : decode cX5_init 37 = .ok (.return_, 1) := by decide +kernel
theorem dX5_number_0 : decode cX5_number 0 = .ok (.iload_n 1, 1) := by decide +kernel
theorem dX5_number_1 : decode cX5_number 1 = .ok (.iconst 0, 1) := by decide +kernel
theorem dX5_number_2 : decode cX5_number 2 = .ok (.iconst 3, 1) := by decide +kernel
theorem dX5_number_3 : decode cX5_number 3 = .ok (.invokestatic 18, 3) := by decide +kernel
theorem dX5_number_6 : decode cX5_number 6 = .ok (.ifCond .eq 12, 3) := by decide +kernel
theorem dX5_number_9 : decode cX5_number 9 = .ok (.aload_n 0, 1) := by decide +kernel
theorem dX5_number_10 : decode cX5_number 10 = .ok (.getfield 9, 3) := by decide +kernel
theorem dX5_number_13 : decode cX5_number 13 = .ok (.iload_n 1, 1) := by decide +kernel
theorem dX5_number_14 : decode cX5_number 14 = .ok (.iaload, 1) := by decide +kernel
theorem dX5_number_15 : decode cX5_number 15 = .ok (.goto 4, 3) := by decide +kernel
theorem dX5_number_18 : decode cX5_number 18 = .ok (.iconst (-1), 1) := by decide +kernel
theorem dX5_number_19 : decode cX5_number 19 = .ok (.ireturn, 1) := by decide +kernel
theorem dX5_read_0 : decode cX5_read 0 = .ok (.getstatic 22, 3) := by decide +kernel
theorem dX5_read_3 : decode cX5_read 3 = .ok (.iconst 0, 1) := by decide +kernel
theorem dX5_read_4 : decode cX5_read 4 = .ok (.aload_n 0, 1) := by decide +kernel
theorem dX5_read_5 : decode cX5_read 5 = .ok (.getfield 15, 3) := by decide +kernel
theorem dX5_read_8 : decode cX5_read 8 = .ok (.iconst 0, 1) := by decide +kernel
theorem dX5_read_9 : decode cX5_read 9 = .ok (.iconst 4, 1) := by decide +kernel
theorem dX5_read_10 : decode cX5_read 10 = .ok (.invokestatic 25, 3) := by decide +kernel
theorem dX5_read_13 : decode cX5_read 13 = .ok (.iconst 0, 1) := by decide +kernel
theorem dX5_read_14 : decode cX5_read 14 = .ok (.istore_n 3, 1) := by decide +kernel
theorem dX5_read_15 : decode cX5_read 15 = .ok (.iconst 0, 1) := by decide +kernel
theorem dX5_read_16 : decode cX5_read 16 = .ok (.istore 4, 2) := by decide +kernel
theorem dX5_read_18 : decode cX5_read 18 = .ok (.iload 4, 2) := by decide +kernel
theorem dX5_read_20 : decode cX5_read 20 = .ok (.iload_n 2, 1) := by decide +kernel
theorem dX5_read_21 : decode cX5_read 21 = .ok (.if_icmp .gt 106, 3) := by decide +kernel
theorem dX5_read_24 : decode cX5_read 24 = .ok (.iload_n 3, 1) := by decide +kernel
theorem dX5_read_25 : decode cX5_read 25 = .ok (.iload_n 2, 1) := by decide +kernel
theorem dX5_read_26 : decode cX5_read 26 = .ok (.if_icmp .gt 101, 3) := by decide +kernel
theorem dX5_read_29 : decode cX5_read 29 = .ok (.aload_n 1, 1) := by decide +kernel
theorem dX5_read_30 : decode cX5_read 30 = .ok (.iload_n 3, 1) := by decide +kernel
