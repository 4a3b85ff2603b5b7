theorem dX0_init_0 : decode cX0_init 0 = .ok (.aload_n 0, 1) := by decide +kernel
theorem dX0_init_1 : decode cX0_init 1 = .ok (.invokespecial 3, 3) := by decide +kernel
theorem dX0_init_4 : decode cX0_init 4 = .ok (.aload_n 0, 1) := by decide +kernel
theorem dX0_init_5 : decode cX0_init 5 = .ok (.bipush 8, 2) := by decide +kernel
theorem dX0_init_7 : decode cX0_init 7 = .ok (.newarray .int, 2) := by decide +kernel
theorem dX0_init_9 : decode cX0_init 9 = .ok (.putfield 11, 3) := by decide +kernel
theorem dX0_init_12 : decode cX0_init 12 = .ok (.aload_n 0, 1) := by decide +kernel
theorem dX0_init_13 : decode cX0_init 13 = .ok (.iconst 0, 1) := by decide +kernel
theorem dX0_init_14 : decode cX0_init 14 = .ok (.putfield 15, 3) := by decide +kernel
theorem dX0_init_17 : decode cX0_init 17 = .ok (.return_, 1) := by decide +kernel
theorem dX0_canBe_0 : decode cX0_canBe 0 = .ok (.iconst 0, 1) := by decide +kernel
theorem dX0_canBe_1 : decode cX0_canBe 1 = .ok (.istore_n 1, 1) := by decide +kernel
theorem dX0_canBe_2 : decode cX0_canBe 2 = .ok (.iload_n 1, 1) := by decide +kernel
theorem dX0_canBe_3 : decode cX0_canBe 3 = .ok (.bipush 8, 2) := by decide +kernel
theorem dX0_canBe_5 : decode cX0_canBe 5 = .ok (.if_icmp .ge 30, 3) := by decide +kernel
theorem dX0_canBe_8 : decode cX0_canBe 8 = .ok (.aload_n 0, 1) := by decide +kernel
theorem dX0_canBe_9 : decode cX0_canBe 9 = .ok (.iload_n 1, 1) := by decide +kernel
theorem dX0_canBe_10 : decode cX0_canBe 10 = .ok (.iaload, 1) := by decide +kernel
theorem dX0_canBe_11 : decode cX0_canBe 11 = .ok (.getstatic 19, 3) := by decide +kernel
theorem dX0_canBe_14 : decode cX0_canBe 14 = .ok (.iload_n 1, 1) := by decide +kernel
theorem dX0_canBe_15 : decode cX0_canBe 15 = .ok (.iaload, 1) := by decide +kernel
theorem dX0_canBe_16 : decode cX0_canBe 16 = .ok (.getstatic 22, 3) := by decide +kernel
theorem dX0_canBe_19 : decode cX0_canBe 19 = .ok (.iload_n 1, 1) := by decide +kernel
theorem dX0_canBe_20 : decode cX0_canBe 20 = .ok (.iaload, 1) := by decide +kernel
theorem dX0_canBe_21 : decode cX0_canBe 21 = .ok (.invokestatic 25, 3) := by decide +kernel
theorem dX0_canBe_24 : decode cX0_canBe 24 = .ok (.ifCond .ne 5, 3) := by decide +kernel
theorem dX0_canBe_27 : decode cX0_canBe 27 = .ok (.iconst 0, 1) := by decide +kernel
theorem dX0_canBe_28 : decode cX0_canBe 28 = .ok (.ireturn, 1) := by decide +kernel
theorem dX0_canBe_29 : decode cX0_canBe 29 = .ok (.iinc 1 1, 3) := by decide +kernel
theorem dX0_canBe_32 : decode cX0_canBe 32 = .ok (.goto (-30), 3) := by decide +kernel
theorem dX0_canBe_35 : decode cX0_canBe 35 = .ok (.aload_n 0, 1) := by decide +kernel
theorem dX0_canBe_36 : decode cX0_canBe 36 = .ok (.iconst 1, 1) := by decide +kernel
theorem dX0_canBe_37 : decode cX0_canBe 37 = .ok (.iaload, 1) := by decide +kernel
theorem dX0_canBe_38 : decode cX0_canBe 38 = .ok (.aload_n 0, 1) := by decide +kernel
theorem dX0_canBe_39 : decode cX0_canBe 39 = .ok (.iconst 2, 1) := by decide +kernel
theorem dX0_canBe_40 : decode cX0_canBe 40 = .ok (.iaload, 1) := by decide +kernel
theorem dX0_canBe_41 : decode cX0_canBe 41 = .ok (.iadd, 1) := by decide +kernel
theorem dX0_canBe_42 : decode cX0_canBe 42 = .ok (.bipush 96, 2) := by decide +kernel
theorem dX0_canBe_44 : decode cX0_canBe 44 = .ok (.if_icmp .gt 7, 3) := by decide +kernel
theorem dX0_canBe_47 : decode cX0_canBe 47 = .ok (.iconst 1, 1) := by decide +kernel
theorem dX0_canBe_48 : decode cX0_canBe 48 = .ok (.goto 4, 3) := by decide +kernel
theorem dX0_canBe_51 : decode cX0_canBe 51 = .ok (.iconst 0, 1) := by decide +kernel
theorem dX0_canBe_52 : decode cX0_canBe 52 = .ok (.ireturn, 1) := by decide +kernel
theorem dX0_come_0 : decode cX0_come 0 = .ok (.aload_n 1, 1) := by decide +kernel
theorem dX0_come_1 : decode cX0_come 1 = .ok (.iconst 0, 1) := by decide +kernel
theorem dX0_come_2 : decode cX0_come 2 = .ok (.aload_n 0, 1) := by decide +kernel
theorem dX0_come_3 : decode cX0_come 3 = .ok (.getfield 11, 3) := by decide +kernel
theorem dX0_come_6 : decode cX0_come 6 = .ok (.iconst 0, 1) := by decide +kernel
theorem dX0_come_7 : decode cX0_come 7 = .ok (.bipush 8, 2) := by decide +kernel
theorem dX0_come_9 : decode cX0_come 9 = .ok (.invokestatic 29, 3) := by decide +kernel
theorem dX0_come_12 : decode cX0_come 12 = .ok (.aload_n 0, 1) := by decide +kernel
theorem dX0_come_13 : decode cX0_come 13 = .ok (.iconst 1, 1) := by decide +kernel
theorem dX0_come_14 : decode cX0_come 14 = .ok (.putfield 15, 3) := by decide +kernel
theorem dX0_come_17 : decode cX0_come 17 = .ok (.return_, 1) := by decide +kernel
theorem dX0_go_0 : decode cX0_go 0 = .ok (.aload_n 0, 1) := by decide +kernel
theorem dX0_go_1 : decode cX0_go 1 = .ok (.iconst 0, 1) := by decide +kernel
theorem dX0_go_2 : decode cX0_go 2 = .ok (.putfield 15, 3) := by decide +kernel
theorem dX0_go_5 : decode cX0_go 5 = .ok (.return_, 1) := by decide +kernel
theorem dX0_fact_0 : decode cX0_fact 0 = .ok (.iload_n 1, 1) := by decide +kernel
theorem dX0_fact_1 : decode cX0_fact 1 = .ok (.iconst 0, 1) := by decide +kernel
theorem dX0_fact_2 : decode cX0_fact 2 = .ok (.bipush 7, 2) := by decide +kernel
theorem dX0_fact_4 : decode cX0_fact 4 = .ok (.invokestatic 25, 3) := by decide +kernel
theorem dX0_fact_7 : decode cX0_fact 7 = .ok (.ifCond .eq 12, 3) := by decide +kernel
theorem dX0_fact_10 : decode cX0_fact 10 = .ok (.aload_n 0, 1) := by decide +kernel
theorem dX0_fact_11 : decode cX0_fact 11 = .ok (.getfield 11, 3) := by decide +kernel
theorem dX0_fact_14 : decode cX0_fact 14 = .ok (.iload_n 1, 1) := by decide +kernel
theorem dX0_fact_15 : decode cX0_fact 15 = .ok (.iaload, 1) := by decide +kernel
theorem dX0_fact_16 : decode cX0_fact 16 = .ok (.goto 4, 3) := by decide +kernel
theorem dX0_fact_19 : decode cX0_fact 19 = .ok (.iconst (-1), 1) := by decide +kernel
theorem dX0_fact_20 : decode cX0_fact 20 = .ok (.ireturn, 1) := by decide +kernel
theorem dX0_isOfOrder_0 : decode cX0_isOfOrder 0 = .ok (.aload_n 0, 1) := by decide +kernel
theorem dX0_isOfOrder_1 : decode cX0_isOfOrder 1 = .ok (.getfield 15, 3) := by decide +kernel
theorem dX0_isOfOrder_4 : decode cX0_isOfOrder 4 = .ok (.ifCond .eq 17, 3) := by decide +kernel
theorem dX0_isOfOrder_7 : decode cX0_isOfOrder 7 = .ok (.aload_n 0, 1) := by decide +kernel
theorem dX0_isOfOrder_8 : decode cX0_isOfOrder 8 = .ok (.getfield 11, 3) := by decide +kernel
theorem dX0_isOfOrder_11 : decode cX0_isOfOrder 11 = .ok (.iconst 0, 1) := by decide +kernel
theorem dX0_isOfOrder_12 : decode cX0_isOfOrder 12 = .ok (.iaload, 1) := by decide +kernel
theorem dX0_isOfOrder_13 : decode cX0_isOfOrder 13 = .ok (.iload_n 1, 1) := by decide +kernel
theorem dX0_isOfOrder_14 : decode cX0_isOfOrder 14 = .ok (.if_icmp .ne 7, 3) := by decide +kernel
theorem dX0_isOfOrder_17 : decode cX0_isOfOrder 17 = .ok (.iconst 1, 1) := by decide +kernel
theorem dX0_isOfOrder_18 : decode cX0_isOfOrder 18 = .ok (.goto 4, 3) := by decide +kernel
theorem dX0_isOfOrder_21 : decode cX0_isOfOrder 21 = .ok (.iconst 0, 1) := by decide +kernel
theorem dX0_isOfOrder_22 : decode cX0_isOfOrder 22 = .ok (.ireturn, 1) := by decide +kernel
theorem dX0_end_0 : decode cX0_end 0 = .ok (.aload_n 0, 1) := by decide +kernel
theorem dX0_end_1 : decode cX0_end 1 = .ok (.getfield 11, 3) := by decide +kernel
theorem dX0_end_4 : decode cX0_end 4 = .ok (.iconst 1, 1) := by decide +kernel
theorem dX0_end_5 : decode cX0_end 5 = .ok (.iaload, 1) := by decide +kernel
theorem dX0_end_6 : decode cX0_end 6 = .ok (.aload_n 0, 1) := by decide +kernel
theorem dX0_end_7 : decode cX0_end 7 = .ok (.getfield 11, 3) := by decide +kernel
theorem dX0_end_10 : decode cX0_end 10 = .ok (.iconst 2, 1) := by decide +kernel
theorem dX0_end_11 : decode cX0_end 11 = .ok (.iaload, 1) := by decide +kernel
theorem dX0_end_12 : decode cX0_end 12 = .ok (.iadd, 1) := by decide +kernel
theorem dX0_end_13 : decode cX0_end 13 = .ok (.ireturn, 1) := by decide +kernel
theorem dX0_isOnAt_0 : decode cX0_isOnAt 0 = .ok (.iload_n 1, 1) := by decide +kernel
theorem dX0_isOnAt_1 : decode cX0_isOnAt 1 = .ok (.aload_n 0, 1) := by decide +kernel
theorem dX0_isOnAt_2 : decode cX0_isOnAt 2 = .ok (.getfield 11, 3) := by decide +kernel
theorem dX0_isOnAt_5 : decode cX0_isOnAt 5 = .ok (.iconst 1, 1) := by decide +kernel
theorem dX0_isOnAt_6 : decode cX0_isOnAt 6 = .ok (.iaload, 1) := by decide +kernel
theorem dX0_isOnAt_7 : decode cX0_isOnAt 7 = .ok (.if_icmp .lt 15, 3) := by decide +kernel
theorem dX0_isOnAt_10 : decode cX0_isOnAt 10 = .ok (.iload_n 1, 1) := by decide +kernel
theorem dX0_isOnAt_11 : decode cX0_isOnAt 11 = .ok (.aload_n 0, 1) := by decide +kernel
theorem dX0_isOnAt_12 : decode cX0_isOnAt 12 = .ok (.invokevirtual 35, 3) := by decide +kernel
theorem dX0_isOnAt_15 : decode cX0_isOnAt 15 = .ok (.if_icmp .ge 7, 3) := by decide +kernel
theorem dX0_isOnAt_18 : decode cX0_isOnAt 18 = .ok (.iconst 1, 1) := by decide +kernel
theorem dX0_isOnAt_19 : decode cX0_isOnAt 19 = .ok (.goto 4, 3) := by decide +kernel
theorem dX0_isOnAt_22 : decode cX0_isOnAt 22 = .ok (.iconst 0, 1) := by decide +kernel
theorem dX0_isOnAt_23 : decode cX0_isOnAt 23 = .ok (.ireturn, 1) := by decide +kernel
theorem dX0_partCount_0 : decode cX0_partCount 0 = .ok (.aload_n 0, 1) := by decide +kernel
theorem dX0_partCount_1 : decode cX0_partCount 1 = .ok (.getfield 11, 3) := by decide +kernel
theorem dX0_partCount_4 : decode cX0_partCount 4 = .ok (.bipush 6, 2) := by decide +kernel
theorem dX0_partCount_6 : decode cX0_partCount 6 = .ok (.iaload, 1) := by decide +kernel
theorem dX0_partCount_7 : decode cX0_partCount 7 = .ok (.iconst (-1), 1) := by decide +kernel
theorem dX0_partCount_8 : decode cX0_partCount 8 = .ok (.if_icmp .ne 7, 3) := by decide +kernel
theorem dX0_partCount_11 : decode cX0_partCount 11 = .ok (.iconst 1, 1) := by decide +kernel
theorem dX0_partCount_12 : decode cX0_partCount 12 = .ok (.goto 4, 3) := by decide +kernel
theorem dX0_partCount_15 : decode cX0_partCount 15 = .ok (.iconst 2, 1) := by decide +kernel
theorem dX0_partCount_16 : decode cX0_partCount 16 = .ok (.ireturn, 1) := by decide +kernel
theorem dX0_partsWith_0 : decode cX0_partsWith 0 = .ok (.aload_n 0, 1) := by decide +kernel
theorem dX0_partsWith_1 : decode cX0_partsWith 1 = .ok (.getfield 11, 3) := by decide +kernel
theorem dX0_partsWith_4 : decode cX0_partsWith 4 = .ok (.iconst 5, 1) := by decide +kernel
theorem dX0_partsWith_5 : decode cX0_partsWith 5 = .ok (.iaload, 1) := by decide +kernel
theorem dX0_partsWith_6 : decode cX0_partsWith 6 = .ok (.iload_n 1, 1) := by decide +kernel
theorem dX0_partsWith_7 : decode cX0_partsWith 7 = .ok (.if_icmp .ne 7, 3) := by decide +kernel
theorem dX0_partsWith_10 : decode cX0_partsWith 10 = .ok (.iconst 1, 1) := by decide +kernel
theorem dX0_partsWith_11 : decode cX0_partsWith 11 = .ok (.goto 4, 3) := by decide +kernel
theorem dX0_partsWith_14 : decode cX0_partsWith 14 = .ok (.iconst 0, 1) := by decide +kernel
theorem dX0_partsWith_15 : decode cX0_partsWith 15 = .ok (.aload_n 0, 1) := by decide +kernel
theorem dX0_partsWith_16 : decode cX0_partsWith 16 = .ok (.getfield 11, 3) := by decide +kernel
theorem dX0_partsWith_19 : decode cX0_partsWith 19 = .ok (.bipush 6, 2) := by decide +kernel
theorem dX0_partsWith_21 : decode cX0_partsWith 21 = .ok (.iaload, 1) := by decide +kernel
theorem dX0_partsWith_22 : decode cX0_partsWith 22 = .ok (.iload_n 1, 1) := by decide +kernel
theorem dX0_partsWith_23 : decode cX0_partsWith 23 = .ok (.if_icmp .ne 7, 3) := by decide +kernel
theorem dX0_partsWith_26 : decode cX0_partsWith 26 = .ok (.iconst 1, 1) := by decide +kernel
theorem dX0_partsWith_27 : decode cX0_partsWith 27 = .ok (.goto 4, 3) := by decide +kernel
theorem dX0_partsWith_30 : decode cX0_partsWith 30 = .ok (.iconst 0, 1) := by decide +kernel
theorem dX0_partsWith_31 : decode cX0_partsWith 31 = .ok (.iadd, 1) := by decide +kernel
theorem dX0_partsWith_32 : decode cX0_partsWith 32 = .ok (.ireturn, 1) := by decide +kernel
theorem dX0_clashesWith_0 : decode cX0_clashesWith 0 = .ok (.iload_n 2, 1) := by decide +kernel
theorem dX0_clashesWith_1 : decode cX0_clashesWith 1 = .ok (.aload_n 0, 1) := by decide +kernel
theorem dX0_clashesWith_2 : decode cX0_clashesWith 2 = .ok (.getfield 11, 3) := by decide +kernel
theorem dX0_clashesWith_5 : decode cX0_clashesWith 5 = .ok (.iconst 3, 1) := by decide +kernel
theorem dX0_clashesWith_6 : decode cX0_clashesWith 6 = .ok (.iaload, 1) := by decide +kernel
theorem dX0_clashesWith_7 : decode cX0_clashesWith 7 = .ok (.aload_n 1, 1) := by decide +kernel
theorem dX0_clashesWith_8 : decode cX0_clashesWith 8 = .ok (.getfield 11, 3) := by decide +kernel
theorem dX0_clashesWith_11 : decode cX0_clashesWith 11 = .ok (.iconst 3, 1) := by decide +kernel
theorem dX0_clashesWith_12 : decode cX0_clashesWith 12 = .ok (.iaload, 1) := by decide +kernel
theorem dX0_clashesWith_13 : decode cX0_clashesWith 13 = .ok (.isub, 1) := by decide +kernel
theorem dX0_clashesWith_14 : decode cX0_clashesWith 14 = .ok (.invokestatic 39, 3) := by decide +kernel
theorem dX0_clashesWith_17 : decode cX0_clashesWith 17 = .ok (.imul, 1) := by decide +kernel
theorem dX0_clashesWith_18 : decode cX0_clashesWith 18 = .ok (.istore_n 3, 1) := by decide +kernel
theorem dX0_clashesWith_19 : decode cX0_clashesWith 19 = .ok (.aload_n 0, 1) := by decide +kernel
theorem dX0_clashesWith_20 : decode cX0_clashesWith 20 = .ok (.getfield 11, 3) := by decide +kernel
theorem dX0_clashesWith_23 : decode cX0_clashesWith 23 = .ok (.iconst 1, 1) := by decide +kernel
theorem dX0_clashesWith_24 : decode cX0_clashesWith 24 = .ok (.iaload, 1) := by decide +kernel
theorem dX0_clashesWith_25 : decode cX0_clashesWith 25 = .ok (.aload_n 1, 1) := by decide +kernel
theorem dX0_clashesWith_26 : decode cX0_clashesWith 26 = .ok (.invokevirtual 35, 3) := by decide +kernel
theorem dX0_clashesWith_29 : decode cX0_clashesWith 29 = .ok (.iload_n 3, 1) := by decide +kernel
theorem dX0_clashesWith_30 : decode cX0_clashesWith 30 = .ok (.iadd, 1) := by decide +kernel
theorem dX0_clashesWith_31 : decode cX0_clashesWith 31 = .ok (.if_icmp .ge 22, 3) := by decide +kernel
theorem dX0_clashesWith_34 : decode cX0_clashesWith 34 = .ok (.aload_n 1, 1) := by decide +kernel
theorem dX0_clashesWith_35 : decode cX0_clashesWith 35 = .ok (.getfield 11, 3) := by decide +kernel
theorem dX0_clashesWith_38 : decode cX0_clashesWith 38 = .ok (.iconst 1, 1) := by decide +kernel
theorem dX0_clashesWith_39 : decode cX0_clashesWith 39 = .ok (.iaload, 1) := by decide +kernel
theorem dX0_clashesWith_40 : decode cX0_clashesWith 40 = .ok (.aload_n 0, 1) := by decide +kernel
theorem dX0_clashesWith_41 : decode cX0_clashesWith 41 = .ok (.invokevirtual 35, 3) := by decide +kernel
theorem dX0_clashesWith_44 : decode cX0_clashesWith 44 = .ok (.iload_n 3, 1) := by decide +kernel
theorem dX0_clashesWith_45 : decode cX0_clashesWith 45 = .ok (.iadd, 1) := by decide +kernel
theorem dX0_clashesWith_46 : decode cX0_clashesWith 46 = .ok (.if_icmp .ge 7, 3) := by decide +kernel
theorem dX0_clashesWith_49 : decode cX0_clashesWith 49 = .ok (.iconst 1, 1) := by decide +kernel
theorem dX0_clashesWith_50 : decode cX0_clashesWith 50 = .ok (.goto 4, 3) := by decide +kernel
theorem dX0_clashesWith_53 : decode cX0_clashesWith 53 = .ok (.iconst 0, 1) := by decide +kernel
theorem dX0_clashesWith_54 : decode cX0_clashesWith 54 = .ok (.ireturn, 1) := by decide +kernel
theorem dX1_init_0 : decode cX1_init 0 = .ok (.aload_n 0, 1) := by decide +kernel
theorem dX1_init_1 : decode cX1_init 1 = .ok (.invokespecial 3, 3) := by decide +kernel
theorem dX1_init_4 : decode cX1_init 4 = .ok (.aload_n 0, 1) := by decide +kernel
theorem dX1_init_5 : decode cX1_init 5 = .ok (.bipush 6, 2) := by decide +kernel
theorem dX1_init_7 : decode cX1_init 7 = .ok (.newarray .int, 2) := by decide +kernel
theorem dX1_init_9 : decode cX1_init 9 = .ok (.putfield 9, 3) := by decide +kernel
theorem dX1_init_12 : decode cX1_init 12 = .ok (.aload_n 0, 1) := by decide +kernel
theorem dX1_init_13 : decode cX1_init 13 = .ok (.bipush 12, 2) := by decide +kernel
theorem dX1_init_15 : decode cX1_init 15 = .ok (.newarray .int, 2) := by decide +kernel
theorem dX1_init_17 : decode cX1_init 17 = .ok (.putfield 15, 3) := by decide +kernel
theorem dX1_init_20 : decode cX1_init 20 = .ok (.aload_n 0, 1) := by decide +kernel
theorem dX1_init_21 : decode cX1_init 21 = .ok (.bipush 12, 2) := by decide +kernel
theorem dX1_init_23 : decode cX1_init 23 = .ok (.newarray .int, 2) := by decide +kernel
theorem dX1_init_25 : decode cX1_init 25 = .ok (.putfield 18, 3) := by decide +kernel
theorem dX1_init_28 : decode cX1_init 28 = .ok (.aload_n 0, 1) := by decide +kernel
theorem dX1_init_29 : decode cX1_init 29 = .ok (.bipush 12, 2) := by decide +kernel
theorem dX1_init_31 : decode cX1_init 31 = .ok (.newarray .int, 2) := by decide +kernel
theorem dX1_init_33 : decode cX1_init 33 = .ok (.putfield 21, 3) := by decide +kernel
theorem dX1_init_36 : decode cX1_init 36 = .ok (.aload_n 0, 1) := by decide +kernel
theorem dX1_init_37 : decode cX1_init 37 = .ok (.iconst 0, 1) := by decide +kernel
theorem dX1_init_38 : decode cX1_init 38 = .ok (.putfield 24, 3) := by decide +kernel
theorem dX1_init_41 : decode cX1_init 41 = .ok (.return_, 1) := by decide +kernel
theorem dX1_clear_0 : decode cX1_clear 0 = .ok (.aload_n 0, 1) := by decide +kernel
theorem dX1_clear_1 : decode cX1_clear 1 = .ok (.iconst 0, 1) := by decide +kernel
theorem dX1_clear_2 : decode cX1_clear 2 = .ok (.putfield 24, 3) := by decide +kernel
theorem dX1_clear_5 : decode cX1_clear 5 = .ok (.aload_n 0, 1) := by decide +kernel
theorem dX1_clear_6 : decode cX1_clear 6 = .ok (.getfield 9, 3) := by decide +kernel
theorem dX1_clear_9 : decode cX1_clear 9 = .ok (.iconst 0, 1) := by decide +kernel
theorem dX1_clear_10 : decode cX1_clear 10 = .ok (.invokestatic 28, 3) := by decide +kernel
theorem dX1_clear_13 : decode cX1_clear 13 = .ok (.return_, 1) := by decide +kernel
theorem dX1_piperOf_0 : decode cX1_piperOf 0 = .ok (.iload_n 2, 1) := by decide +kernel
theorem dX1_piperOf_1 : decode cX1_piperOf 1 = .ok (.istore_n 3, 1) := by decide +kernel
theorem dX1_piperOf_2 : decode cX1_piperOf 2 = .ok (.iconst 0, 1) := by decide +kernel
theorem dX1_piperOf_3 : decode cX1_piperOf 3 = .ok (.istore 4, 2) := by decide +kernel
theorem dX1_piperOf_5 : decode cX1_piperOf 5 = .ok (.iload 4, 2) := by decide +kernel
theorem dX1_piperOf_7 : decode cX1_piperOf 7 = .ok (.aload_n 0, 1) := by decide +kernel
theorem dX1_piperOf_8 : decode cX1_piperOf 8 = .ok (.getfield 24, 3) := by decide +kernel
theorem dX1_piperOf_11 : decode cX1_piperOf 11 = .ok (.if_icmp .ge 39, 3) := by decide +kernel
theorem dX1_piperOf_14 : decode cX1_piperOf 14 = .ok (.iload_n 3, 1) := by decide +kernel
theorem dX1_piperOf_15 : decode cX1_piperOf 15 = .ok (.ifCond .lt 35, 3) := by decide +kernel
theorem dX1_piperOf_18 : decode cX1_piperOf 18 = .ok (.aload_n 0, 1) := by decide +kernel
theorem dX1_piperOf_19 : decode cX1_piperOf 19 = .ok (.getfield 18, 3) := by decide +kernel
theorem dX1_piperOf_22 : decode cX1_piperOf 22 = .ok (.iload 4, 2) := by decide +kernel
theorem dX1_piperOf_24 : decode cX1_piperOf 24 = .ok (.iaload, 1) := by decide +kernel
theorem dX1_piperOf_25 : decode cX1_piperOf 25 = .ok (.iload_n 1, 1) := by decide +kernel
theorem dX1_piperOf_26 : decode cX1_piperOf 26 = .ok (.if_icmp .ne 18, 3) := by decide +kernel
theorem dX1_piperOf_29 : decode cX1_piperOf 29 = .ok (.iload_n 3, 1) := by decide +kernel
theorem dX1_piperOf_30 : decode cX1_piperOf 30 = .ok (.ifCond .ne 11, 3) := by decide +kernel
theorem dX1_piperOf_33 : decode cX1_piperOf 33 = .ok (.aload_n 0, 1) := by decide +kernel
theorem dX1_piperOf_34 : decode cX1_piperOf 34 = .ok (.getfield 21, 3) := by decide +kernel
theorem dX1_piperOf_37 : decode cX1_piperOf 37 = .ok (.iload 4, 2) := by decide +kernel
theorem dX1_piperOf_39 : decode cX1_piperOf 39 = .ok (.iaload, 1) := by decide +kernel
theorem dX1_piperOf_40 : decode cX1_piperOf 40 = .ok (.ireturn, 1) := by decide +kernel
theorem dX1_piperOf_41 : decode cX1_piperOf 41 = .ok (.iinc 3 (-1), 3) := by decide +kernel
theorem dX1_piperOf_44 : decode cX1_piperOf 44 = .ok (.iinc 4 1, 3) := by decide +kernel
theorem dX1_piperOf_47 : decode cX1_piperOf 47 = .ok (.goto (-42), 3) := by decide +kernel
theorem dX1_piperOf_50 : decode cX1_piperOf 50 = .ok (.iconst (-1), 1) := by decide +kernel
theorem dX1_piperOf_51 : decode cX1_piperOf 51 = .ok (.ireturn, 1) := by decide +kernel
theorem dX1_partsOf_0 : decode cX1_partsOf 0 = .ok (.iconst 0, 1) := by decide +kernel
theorem dX1_partsOf_1 : decode cX1_partsOf 1 = .ok (.istore_n 2, 1) := by decide +kernel
theorem dX1_partsOf_2 : decode cX1_partsOf 2 = .ok (.iconst 0, 1) := by decide +kernel
theorem dX1_partsOf_3 : decode cX1_partsOf 3 = .ok (.istore_n 3, 1) := by decide +kernel
theorem dX1_partsOf_4 : decode cX1_partsOf 4 = .ok (.iload_n 3, 1) := by decide +kernel
theorem dX1_partsOf_5 : decode cX1_partsOf 5 = .ok (.aload_n 0, 1) := by decide +kernel
theorem dX1_partsOf_6 : decode cX1_partsOf 6 = .ok (.getfield 24, 3) := by decide +kernel
theorem dX1_partsOf_9 : decode cX1_partsOf 9 = .ok (.if_icmp .ge 22, 3) := by decide +kernel
theorem dX1_partsOf_12 : decode cX1_partsOf 12 = .ok (.aload_n 0, 1) := by decide +kernel
theorem dX1_partsOf_13 : decode cX1_partsOf 13 = .ok (.getfield 21, 3) := by decide +kernel
theorem dX1_partsOf_16 : decode cX1_partsOf 16 = .ok (.iload_n 3, 1) := by decide +kernel
theorem dX1_partsOf_17 : decode cX1_partsOf 17 = .ok (.iaload, 1) := by decide +kernel
theorem dX1_partsOf_18 : decode cX1_partsOf 18 = .ok (.iload_n 1, 1) := by decide +kernel
theorem dX1_partsOf_19 : decode cX1_partsOf 19 = .ok (.if_icmp .ne 6, 3) := by decide +kernel
theorem dX1_partsOf_22 : decode cX1_partsOf 22 = .ok (.iinc 2 1, 3) := by decide +kernel
theorem dX1_partsOf_25 : decode cX1_partsOf 25 = .ok (.iinc 3 1, 3) := by decide +kernel
theorem dX1_partsOf_28 : decode cX1_partsOf 28 = .ok (.goto (-24), 3) := by decide +kernel
theorem dX1_partsOf_31 : decode cX1_partsOf 31 = .ok (.iload_n 2, 1) := by decide +kernel
theorem dX1_partsOf_32 : decode cX1_partsOf 32 = .ok (.ireturn, 1) := by decide +kernel
theorem dX1_admit_0 : decode cX1_admit 0 = .ok (.aload_n 0, 1) := by decide +kernel
theorem dX1_admit_1 : decode cX1_admit 1 = .ok (.getfield 24, 3) := by decide +kernel
theorem dX1_admit_4 : decode cX1_admit 4 = .ok (.istore 5, 2) := by decide +kernel
theorem dX1_admit_6 : decode cX1_admit 6 = .ok (.iconst 0, 1) := by decide +kernel
theorem dX1_admit_7 : decode cX1_admit 7 = .ok (.istore 6, 2) := by decide +kernel
theorem dX1_admit_9 : decode cX1_admit 9 = .ok (.iload 6, 2) := by decide +kernel
theorem dX1_admit_11 : decode cX1_admit 11 = .ok (.aload_n 1, 1) := by decide +kernel
theorem dX1_admit_12 : decode cX1_admit 12 = .ok (.iload_n 2, 1) := by decide +kernel
theorem dX1_admit_13 : decode cX1_admit 13 = .ok (.aaload, 1) := by decide +kernel
theorem dX1_admit_14 : decode cX1_admit 14 = .ok (.invokevirtual 34, 3) := by decide +kernel
theorem dX1_admit_17 : decode cX1_admit 17 = .ok (.if_icmp .ge 51, 3) := by decide +kernel
theorem dX1_admit_20 : decode cX1_admit 20 = .ok (.aload_n 0, 1) := by decide +kernel
theorem dX1_admit_21 : decode cX1_admit 21 = .ok (.getfield 24, 3) := by decide +kernel
theorem dX1_admit_24 : decode cX1_admit 24 = .ok (.bipush 12, 2) := by decide +kernel
theorem dX1_admit_26 : decode cX1_admit 26 = .ok (.if_icmp .ge 42, 3) := by decide +kernel
theorem dX1_admit_29 : decode cX1_admit 29 = .ok (.aload_n 0, 1) := by decide +kernel
theorem dX1_admit_30 : decode cX1_admit 30 = .ok (.aload_n 3, 1) := by decide +kernel
theorem dX1_admit_31 : decode cX1_admit 31 = .ok (.aload_n 1, 1) := by decide +kernel
theorem dX1_admit_32 : decode cX1_admit 32 = .ok (.iload_n 2, 1) := by decide +kernel
theorem dX1_admit_33 : decode cX1_admit 33 = .ok (.aaload, 1) := by decide +kernel
theorem dX1_admit_34 : decode cX1_admit 34 = .ok (.iconst 5, 1) := by decide +kernel
theorem dX1_admit_35 : decode cX1_admit 35 = .ok (.iload 6, 2) := by decide +kernel
theorem dX1_admit_37 : decode cX1_admit 37 = .ok (.iadd, 1) := by decide +kernel
theorem dX1_admit_38 : decode cX1_admit 38 = .ok (.invokevirtual 39, 3) := by decide +kernel
theorem dX1_admit_41 : decode cX1_admit 41 = .ok (.invokevirtual 43, 3) := by decide +kernel
theorem dX1_admit_44 : decode cX1_admit 44 = .ok (.aload_n 0, 1) := by decide +kernel
theorem dX1_admit_45 : decode cX1_admit 45 = .ok (.aload_n 1, 1) := by decide +kernel
theorem dX1_admit_46 : decode cX1_admit 46 = .ok (.iload_n 2, 1) := by decide +kernel
theorem dX1_admit_47 : decode cX1_admit 47 = .ok (.iload 4, 2) := by decide +kernel
theorem dX1_admit_49 : decode cX1_admit 49 = .ok (.invokevirtual 47, 3) := by decide +kernel
theorem dX1_admit_52 : decode cX1_admit 52 = .ok (.aload_n 0, 1) := by decide +kernel
theorem dX1_admit_53 : decode cX1_admit 53 = .ok (.dup, 1) := by decide +kernel
theorem dX1_admit_54 : decode cX1_admit 54 = .ok (.getfield 24, 3) := by decide +kernel
theorem dX1_admit_57 : decode cX1_admit 57 = .ok (.iconst 1, 1) := by decide +kernel
theorem dX1_admit_58 : decode cX1_admit 58 = .ok (.iadd, 1) := by decide +kernel
theorem dX1_admit_59 : decode cX1_admit 59 = .ok (.putfield 24, 3) := by decide +kernel
theorem dX1_admit_62 : decode cX1_admit 62 = .ok (.iinc 6 1, 3) := by decide +kernel
theorem dX1_admit_65 : decode cX1_admit 65 = .ok (.goto (-56), 3) := by decide +kernel
theorem dX1_admit_68 : decode cX1_admit 68 = .ok (.aload_n 0, 1) := by decide +kernel
theorem dX1_admit_69 : decode cX1_admit 69 = .ok (.aload_n 0, 1) := by decide +kernel
theorem dX1_admit_70 : decode cX1_admit 70 = .ok (.iload 5, 2) := by decide +kernel
theorem dX1_admit_72 : decode cX1_admit 72 = .ok (.aload_n 0, 1) := by decide +kernel
theorem dX1_admit_73 : decode cX1_admit 73 = .ok (.invokevirtual 51, 3) := by decide +kernel
theorem dX1_admit_76 : decode cX1_admit 76 = .ok (.invokevirtual 54, 3) := by decide +kernel
theorem dX1_admit_79 : decode cX1_admit 79 = .ok (.iconst 0, 1) := by decide +kernel
theorem dX1_admit_80 : decode cX1_admit 80 = .ok (.invokevirtual 58, 3) := by decide +kernel
theorem dX1_admit_83 : decode cX1_admit 83 = .ok (.ifCond .eq 5, 3) := by decide +kernel
theorem dX1_admit_86 : decode cX1_admit 86 = .ok (.iconst 1, 1) := by decide +kernel
theorem dX1_admit_87 : decode cX1_admit 87 = .ok (.ireturn, 1) := by decide +kernel
theorem dX1_admit_88 : decode cX1_admit 88 = .ok (.aload_n 0, 1) := by decide +kernel
theorem dX1_admit_89 : decode cX1_admit 89 = .ok (.iload 5, 2) := by decide +kernel
theorem dX1_admit_91 : decode cX1_admit 91 = .ok (.putfield 24, 3) := by decide +kernel
theorem dX1_admit_94 : decode cX1_admit 94 = .ok (.iconst 0, 1) := by decide +kernel
theorem dX1_admit_95 : decode cX1_admit 95 = .ok (.istore 6, 2) := by decide +kernel
theorem dX1_admit_97 : decode cX1_admit 97 = .ok (.iload 6, 2) := by decide +kernel
theorem dX1_admit_99 : decode cX1_admit 99 = .ok (.bipush 6, 2) := by decide +kernel
theorem dX1_admit_101 : decode cX1_admit 101 = .ok (.if_icmp .ge 23, 3) := by decide +kernel
theorem dX1_admit_104 : decode cX1_admit 104 = .ok (.aload_n 0, 1) := by decide +kernel
theorem dX1_admit_105 : decode cX1_admit 105 = .ok (.getfield 9, 3) := by decide +kernel
theorem dX1_admit_108 : decode cX1_admit 108 = .ok (.iload 6, 2) := by decide +kernel
theorem dX1_admit_110 : decode cX1_admit 110 = .ok (.dup2, 1) := by decide +kernel
theorem dX1_admit_111 : decode cX1_admit 111 = .ok (.iaload, 1) := by decide +kernel
theorem dX1_admit_112 : decode cX1_admit 112 = .ok (.aload_n 0, 1) := by decide +kernel
theorem dX1_admit_113 : decode cX1_admit 113 = .ok (.invokevirtual 51, 3) := by decide +kernel
theorem dX1_admit_116 : decode cX1_admit 116 = .ok (.iand, 1) := by decide +kernel
theorem dX1_admit_117 : decode cX1_admit 117 = .ok (.iastore, 1) := by decide +kernel
theorem dX1_admit_118 : decode cX1_admit 118 = .ok (.iinc 6 1, 3) := by decide +kernel
theorem dX1_admit_121 : decode cX1_admit 121 = .ok (.goto (-24), 3) := by decide +kernel
theorem dX1_admit_124 : decode cX1_admit 124 = .ok (.iconst 0, 1) := by decide +kernel
theorem dX1_admit_125 : decode cX1_admit 125 = .ok (.ireturn, 1) := by decide +kernel
theorem dX1_allParts_0 : decode cX1_allParts 0 = .ok (.iconst 1, 1) := by decide +kernel
theorem dX1_allParts_1 : decode cX1_allParts 1 = .ok (.aload_n 0, 1) := by decide +kernel
theorem dX1_allParts_2 : decode cX1_allParts 2 = .ok (.getfield 24, 3) := by decide +kernel
theorem dX1_allParts_5 : decode cX1_allParts 5 = .ok (.ishl, 1) := by decide +kernel
theorem dX1_allParts_6 : decode cX1_allParts 6 = .ok (.iconst 1, 1) := by decide +kernel
theorem dX1_allParts_7 : decode cX1_allParts 7 = .ok (.isub, 1) := by decide +kernel
theorem dX1_allParts_8 : decode cX1_allParts 8 = .ok (.ireturn, 1) := by decide +kernel
theorem dX1_markTakers_0 : decode cX1_markTakers 0 = .ok (.iconst 0, 1) := by decide +kernel
theorem dX1_markTakers_1 : decode cX1_markTakers 1 = .ok (.istore_n 3, 1) := by decide +kernel
theorem dX1_markTakers_2 : decode cX1_markTakers 2 = .ok (.iload_n 3, 1) := by decide +kernel
theorem dX1_markTakers_3 : decode cX1_markTakers 3 = .ok (.bipush 6, 2) := by decide +kernel
theorem dX1_markTakers_5 : decode cX1_markTakers 5 = .ok (.if_icmp .ge 34, 3) := by decide +kernel
theorem dX1_markTakers_8 : decode cX1_markTakers 8 = .ok (.aload_n 1, 1) := by decide +kernel
theorem dX1_markTakers_9 : decode cX1_markTakers 9 = .ok (.iload_n 3, 1) := by decide +kernel
theorem dX1_markTakers_10 : decode cX1_markTakers 10 = .ok (.aaload, 1) := by decide +kernel
theorem dX1_markTakers_11 : decode cX1_markTakers 11 = .ok (.iload_n 2, 1) := by decide +kernel
theorem dX1_markTakers_12 : decode cX1_markTakers 12 = .ok (.invokevirtual 62, 3) := by decide +kernel
theorem dX1_markTakers_15 : decode cX1_markTakers 15 = .ok (.ifCond .eq 18, 3) := by decide +kernel
theorem dX1_markTakers_18 : decode cX1_markTakers 18 = .ok (.aload_n 0, 1) := by decide +kernel
theorem dX1_markTakers_19 : decode cX1_markTakers 19 = .ok (.getfield 9, 3) := by decide +kernel
theorem dX1_markTakers_22 : decode cX1_markTakers 22 = .ok (.iload_n 3, 1) := by decide +kernel
theorem dX1_markTakers_23 : decode cX1_markTakers 23 = .ok (.dup2, 1) := by decide +kernel
theorem dX1_markTakers_24 : decode cX1_markTakers 24 = .ok (.iaload, 1) := by decide +kernel
theorem dX1_markTakers_25 : decode cX1_markTakers 25 = .ok (.iconst 1, 1) := by decide +kernel
theorem dX1_markTakers_26 : decode cX1_markTakers 26 = .ok (.aload_n 0, 1) := by decide +kernel
theorem dX1_markTakers_27 : decode cX1_markTakers 27 = .ok (.getfield 24, 3) := by decide +kernel
theorem dX1_markTakers_30 : decode cX1_markTakers 30 = .ok (.ishl, 1) := by decide +kernel
theorem dX1_markTakers_31 : decode cX1_markTakers 31 = .ok (.ior, 1) := by decide +kernel
theorem dX1_markTakers_32 : decode cX1_markTakers 32 = .ok (.iastore, 1) := by decide +kernel
theorem dX1_markTakers_33 : decode cX1_markTakers 33 = .ok (.iinc 3 1, 3) := by decide +kernel
theorem dX1_markTakers_36 : decode cX1_markTakers 36 = .ok (.goto (-34), 3) := by decide +kernel
theorem dX1_markTakers_39 : decode cX1_markTakers 39 = .ok (.return_, 1) := by decide +kernel
theorem dX1_markBars_0 : decode cX1_markBars 0 = .ok (.aload_n 0, 1) := by decide +kernel
theorem dX1_markBars_1 : decode cX1_markBars 1 = .ok (.getfield 24, 3) := by decide +kernel
theorem dX1_markBars_4 : decode cX1_markBars 4 = .ok (.istore 4, 2) := by decide +kernel
theorem dX1_markBars_6 : decode cX1_markBars 6 = .ok (.aload_n 0, 1) := by decide +kernel
theorem dX1_markBars_7 : decode cX1_markBars 7 = .ok (.getfield 18, 3) := by decide +kernel
theorem dX1_markBars_10 : decode cX1_markBars 10 = .ok (.iload 4, 2) := by decide +kernel
theorem dX1_markBars_12 : decode cX1_markBars 12 = .ok (.iload_n 2, 1) := by decide +kernel
theorem dX1_markBars_13 : decode cX1_markBars 13 = .ok (.iastore, 1) := by decide +kernel
theorem dX1_markBars_14 : decode cX1_markBars 14 = .ok (.aload_n 0, 1) := by decide +kernel
theorem dX1_markBars_15 : decode cX1_markBars 15 = .ok (.getfield 15, 3) := by decide +kernel
theorem dX1_markBars_18 : decode cX1_markBars 18 = .ok (.iload 4, 2) := by decide +kernel
theorem dX1_markBars_20 : decode cX1_markBars 20 = .ok (.iconst 1, 1) := by decide +kernel
theorem dX1_markBars_21 : decode cX1_markBars 21 = .ok (.iload 4, 2) := by decide +kernel
theorem dX1_markBars_23 : decode cX1_markBars 23 = .ok (.ishl, 1) := by decide +kernel
theorem dX1_markBars_24 : decode cX1_markBars 24 = .ok (.iastore, 1) := by decide +kernel
theorem dX1_markBars_25 : decode cX1_markBars 25 = .ok (.iconst 0, 1) := by decide +kernel
theorem dX1_markBars_26 : decode cX1_markBars 26 = .ok (.istore 5, 2) := by decide +kernel
theorem dX1_markBars_28 : decode cX1_markBars 28 = .ok (.iload 5, 2) := by decide +kernel
theorem dX1_markBars_30 : decode cX1_markBars 30 = .ok (.iload 4, 2) := by decide +kernel
theorem dX1_markBars_32 : decode cX1_markBars 32 = .ok (.if_icmp .ge 86, 3) := by decide +kernel
theorem dX1_markBars_35 : decode cX1_markBars 35 = .ok (.aload_n 0, 1) := by decide +kernel
theorem dX1_markBars_36 : decode cX1_markBars 36 = .ok (.getfield 18, 3) := by decide +kernel
theorem dX1_markBars_39 : decode cX1_markBars 39 = .ok (.iload 5, 2) := by decide +kernel
theorem dX1_markBars_41 : decode cX1_markBars 41 = .ok (.iaload, 1) := by decide +kernel
theorem dX1_markBars_42 : decode cX1_markBars 42 = .ok (.istore 6, 2) := by decide +kernel
theorem dX1_markBars_44 : decode cX1_markBars 44 = .ok (.aload_n 0, 1) := by decide +kernel
theorem dX1_markBars_45 : decode cX1_markBars 45 = .ok (.getfield 15, 3) := by decide +kernel
theorem dX1_markBars_48 : decode cX1_markBars 48 = .ok (.iload 5, 2) := by decide +kernel
theorem dX1_markBars_50 : decode cX1_markBars 50 = .ok (.dup2, 1) := by decide +kernel
theorem dX1_markBars_51 : decode cX1_markBars 51 = .ok (.iaload, 1) := by decide +kernel
theorem dX1_markBars_52 : decode cX1_markBars 52 = .ok (.iconst 1, 1) := by decide +kernel
theorem dX1_markBars_53 : decode cX1_markBars 53 = .ok (.iload 4, 2) := by decide +kernel
theorem dX1_markBars_55 : decode cX1_markBars 55 = .ok (.ishl, 1) := by decide +kernel
theorem dX1_markBars_56 : decode cX1_markBars 56 = .ok (.iconst (-1), 1) := by decide +kernel
theorem dX1_markBars_57 : decode cX1_markBars 57 = .ok (.ixor, 1) := by decide +kernel
theorem dX1_markBars_58 : decode cX1_markBars 58 = .ok (.iand, 1) := by decide +kernel
theorem dX1_markBars_59 : decode cX1_markBars 59 = .ok (.iastore, 1) := by decide +kernel
theorem dX1_markBars_60 : decode cX1_markBars 60 = .ok (.iload 6, 2) := by decide +kernel
theorem dX1_markBars_62 : decode cX1_markBars 62 = .ok (.iconst 0, 1) := by decide +kernel
theorem dX1_markBars_63 : decode cX1_markBars 63 = .ok (.iconst 5, 1) := by decide +kernel
theorem dX1_markBars_64 : decode cX1_markBars 64 = .ok (.invokestatic 68, 3) := by decide +kernel
theorem dX1_markBars_67 : decode cX1_markBars 67 = .ok (.ifCond .eq 45, 3) := by decide +kernel
theorem dX1_markBars_70 : decode cX1_markBars 70 = .ok (.aload_n 1, 1) := by decide +kernel
theorem dX1_markBars_71 : decode cX1_markBars 71 = .ok (.iload_n 2, 1) := by decide +kernel
theorem dX1_markBars_72 : decode cX1_markBars 72 = .ok (.aaload, 1) := by decide +kernel
theorem dX1_markBars_73 : decode cX1_markBars 73 = .ok (.aload_n 1, 1) := by decide +kernel
theorem dX1_markBars_74 : decode cX1_markBars 74 = .ok (.iload 6, 2) := by decide +kernel
theorem dX1_markBars_76 : decode cX1_markBars 76 = .ok (.aaload, 1) := by decide +kernel
theorem dX1_markBars_77 : decode cX1_markBars 77 = .ok (.iload_n 3, 1) := by decide +kernel
theorem dX1_markBars_78 : decode cX1_markBars 78 = .ok (.invokevirtual 72, 3) := by decide +kernel
theorem dX1_markBars_81 : decode cX1_markBars 81 = .ok (.ifCond .eq 31, 3) := by decide +kernel
theorem dX1_markBars_84 : decode cX1_markBars 84 = .ok (.aload_n 0, 1) := by decide +kernel
theorem dX1_markBars_85 : decode cX1_markBars 85 = .ok (.getfield 15, 3) := by decide +kernel
theorem dX1_markBars_88 : decode cX1_markBars 88 = .ok (.iload 5, 2) := by decide +kernel
theorem dX1_markBars_90 : decode cX1_markBars 90 = .ok (.dup2, 1) := by decide +kernel
theorem dX1_markBars_91 : decode cX1_markBars 91 = .ok (.iaload, 1) := by decide +kernel
theorem dX1_markBars_92 : decode cX1_markBars 92 = .ok (.iconst 1, 1) := by decide +kernel
theorem dX1_markBars_93 : decode cX1_markBars 93 = .ok (.iload 4, 2) := by decide +kernel
theorem dX1_markBars_95 : decode cX1_markBars 95 = .ok (.ishl, 1) := by decide +kernel
theorem dX1_markBars_96 : decode cX1_markBars 96 = .ok (.ior, 1) := by decide +kernel
theorem dX1_markBars_97 : decode cX1_markBars 97 = .ok (.iastore, 1) := by decide +kernel
theorem dX1_markBars_98 : decode cX1_markBars 98 = .ok (.aload_n 0, 1) := by decide +kernel
theorem dX1_markBars_99 : decode cX1_markBars 99 = .ok (.getfield 15, 3) := by decide +kernel
theorem dX1_markBars_102 : decode cX1_markBars 102 = .ok (.iload 4, 2) := by decide +kernel
theorem dX1_markBars_104 : decode cX1_markBars 104 = .ok (.dup2, 1) := by decide +kernel
theorem dX1_markBars_105 : decode cX1_markBars 105 = .ok (.iaload, 1) := by decide +kernel
theorem dX1_markBars_106 : decode cX1_markBars 106 = .ok (.iconst 1, 1) := by decide +kernel
theorem dX1_markBars_107 : decode cX1_markBars 107 = .ok (.iload 5, 2) := by decide +kernel
theorem dX1_markBars_109 : decode cX1_markBars 109 = .ok (.ishl, 1) := by decide +kernel
theorem dX1_markBars_110 : decode cX1_markBars 110 = .ok (.ior, 1) := by decide +kernel
theorem dX1_markBars_111 : decode cX1_markBars 111 = .ok (.iastore, 1) := by decide +kernel
theorem dX1_markBars_112 : decode cX1_markBars 112 = .ok (.iinc 5 1, 3) := by decide +kernel
theorem dX1_markBars_115 : decode cX1_markBars 115 = .ok (.goto (-87), 3) := by decide +kernel
theorem dX1_markBars_118 : decode cX1_markBars 118 = .ok (.return_, 1) := by decide +kernel
theorem dX1_lowerAll_0 : decode cX1_lowerAll 0 = .ok (.aload_n 0, 1) := by decide +kernel
theorem dX1_lowerAll_1 : decode cX1_lowerAll 1 = .ok (.invokevirtual 51, 3) := by decide +kernel
theorem dX1_lowerAll_4 : decode cX1_lowerAll 4 = .ok (.istore_n 1, 1) := by decide +kernel
theorem dX1_lowerAll_5 : decode cX1_lowerAll 5 = .ok (.iconst 0, 1) := by decide +kernel
theorem dX1_lowerAll_6 : decode cX1_lowerAll 6 = .ok (.istore_n 2, 1) := by decide +kernel
theorem dX1_lowerAll_7 : decode cX1_lowerAll 7 = .ok (.iload_n 2, 1) := by decide +kernel
theorem dX1_lowerAll_8 : decode cX1_lowerAll 8 = .ok (.aload_n 0, 1) := by decide +kernel
theorem dX1_lowerAll_9 : decode cX1_lowerAll 9 = .ok (.getfield 24, 3) := by decide +kernel
theorem dX1_lowerAll_12 : decode cX1_lowerAll 12 = .ok (.if_icmp .ge 109, 3) := by decide +kernel
theorem dX1_lowerAll_15 : decode cX1_lowerAll 15 = .ok (.aload_n 0, 1) := by decide +kernel
theorem dX1_lowerAll_16 : decode cX1_lowerAll 16 = .ok (.iload_n 2, 1) := by decide +kernel
theorem dX1_lowerAll_17 : decode cX1_lowerAll 17 = .ok (.iload_n 1, 1) := by decide +kernel
theorem dX1_lowerAll_18 : decode cX1_lowerAll 18 = .ok (.invokevirtual 54, 3) := by decide +kernel
theorem dX1_lowerAll_21 : decode cX1_lowerAll 21 = .ok (.istore_n 3, 1) := by decide +kernel
theorem dX1_lowerAll_22 : decode cX1_lowerAll 22 = .ok (.aload_n 0, 1) := by decide +kernel
theorem dX1_lowerAll_23 : decode cX1_lowerAll 23 = .ok (.getfield 21, 3) := by decide +kernel
theorem dX1_lowerAll_26 : decode cX1_lowerAll 26 = .ok (.iload_n 2, 1) := by decide +kernel
theorem dX1_lowerAll_27 : decode cX1_lowerAll 27 = .ok (.iaload, 1) := by decide +kernel
theorem dX1_lowerAll_28 : decode cX1_lowerAll 28 = .ok (.istore 4, 2) := by decide +kernel
theorem dX1_lowerAll_30 : decode cX1_lowerAll 30 = .ok (.iconst 0, 1) := by decide +kernel
theorem dX1_lowerAll_31 : decode cX1_lowerAll 31 = .ok (.istore 5, 2) := by decide +kernel
theorem dX1_lowerAll_33 : decode cX1_lowerAll 33 = .ok (.iconst 0, 1) := by decide +kernel
theorem dX1_lowerAll_34 : decode cX1_lowerAll 34 = .ok (.istore 6, 2) := by decide +kernel
theorem dX1_lowerAll_36 : decode cX1_lowerAll 36 = .ok (.iload 6, 2) := by decide +kernel
theorem dX1_lowerAll_38 : decode cX1_lowerAll 38 = .ok (.bipush 6, 2) := by decide +kernel
theorem dX1_lowerAll_40 : decode cX1_lowerAll 40 = .ok (.if_icmp .ge 51, 3) := by decide +kernel
theorem dX1_lowerAll_43 : decode cX1_lowerAll 43 = .ok (.iload 6, 2) := by decide +kernel
theorem dX1_lowerAll_45 : decode cX1_lowerAll 45 = .ok (.iload 4, 2) := by decide +kernel
theorem dX1_lowerAll_47 : decode cX1_lowerAll 47 = .ok (.if_icmp .ge 44, 3) := by decide +kernel
theorem dX1_lowerAll_50 : decode cX1_lowerAll 50 = .ok (.iload 5, 2) := by decide +kernel
theorem dX1_lowerAll_52 : decode cX1_lowerAll 52 = .ok (.ifCond .ne 39, 3) := by decide +kernel
theorem dX1_lowerAll_55 : decode cX1_lowerAll 55 = .ok (.aload_n 0, 1) := by decide +kernel
theorem dX1_lowerAll_56 : decode cX1_lowerAll 56 = .ok (.iload 6, 2) := by decide +kernel
theorem dX1_lowerAll_58 : decode cX1_lowerAll 58 = .ok (.iload_n 2, 1) := by decide +kernel
theorem dX1_lowerAll_59 : decode cX1_lowerAll 59 = .ok (.iload_n 3, 1) := by decide +kernel
theorem dX1_lowerAll_60 : decode cX1_lowerAll 60 = .ok (.invokevirtual 76, 3) := by decide +kernel
theorem dX1_lowerAll_63 : decode cX1_lowerAll 63 = .ok (.ifCond .eq 19, 3) := by decide +kernel
theorem dX1_lowerAll_66 : decode cX1_lowerAll 66 = .ok (.aload_n 0, 1) := by decide +kernel
theorem dX1_lowerAll_67 : decode cX1_lowerAll 67 = .ok (.iload_n 2, 1) := by decide +kernel
theorem dX1_lowerAll_68 : decode cX1_lowerAll 68 = .ok (.iload 6, 2) := by decide +kernel
theorem dX1_lowerAll_70 : decode cX1_lowerAll 70 = .ok (.iload_n 3, 1) := by decide +kernel
theorem dX1_lowerAll_71 : decode cX1_lowerAll 71 = .ok (.iload_n 2, 1) := by decide +kernel
theorem dX1_lowerAll_72 : decode cX1_lowerAll 72 = .ok (.invokevirtual 79, 3) := by decide +kernel
theorem dX1_lowerAll_75 : decode cX1_lowerAll 75 = .ok (.ifCond .eq 7, 3) := by decide +kernel
theorem dX1_lowerAll_78 : decode cX1_lowerAll 78 = .ok (.iconst 1, 1) := by decide +kernel
theorem dX1_lowerAll_79 : decode cX1_lowerAll 79 = .ok (.goto 4, 3) := by decide +kernel
theorem dX1_lowerAll_82 : decode cX1_lowerAll 82 = .ok (.iconst 0, 1) := by decide +kernel
theorem dX1_lowerAll_83 : decode cX1_lowerAll 83 = .ok (.istore 5, 2) := by decide +kernel
theorem dX1_lowerAll_85 : decode cX1_lowerAll 85 = .ok (.iinc 6 1, 3) := by decide +kernel
theorem dX1_lowerAll_88 : decode cX1_lowerAll 88 = .ok (.goto (-52), 3) := by decide +kernel
theorem dX1_lowerAll_91 : decode cX1_lowerAll 91 = .ok (.aload_n 0, 1) := by decide +kernel
theorem dX1_lowerAll_92 : decode cX1_lowerAll 92 = .ok (.aload_n 0, 1) := by decide +kernel
theorem dX1_lowerAll_93 : decode cX1_lowerAll 93 = .ok (.getfield 21, 3) := by decide +kernel
theorem dX1_lowerAll_96 : decode cX1_lowerAll 96 = .ok (.iload_n 2, 1) := by decide +kernel
theorem dX1_lowerAll_97 : decode cX1_lowerAll 97 = .ok (.iaload, 1) := by decide +kernel
theorem dX1_lowerAll_98 : decode cX1_lowerAll 98 = .ok (.aload_n 0, 1) := by decide +kernel
theorem dX1_lowerAll_99 : decode cX1_lowerAll 99 = .ok (.getfield 15, 3) := by decide +kernel
theorem dX1_lowerAll_102 : decode cX1_lowerAll 102 = .ok (.iload_n 2, 1) := by decide +kernel
theorem dX1_lowerAll_103 : decode cX1_lowerAll 103 = .ok (.iaload, 1) := by decide +kernel
theorem dX1_lowerAll_104 : decode cX1_lowerAll 104 = .ok (.invokevirtual 83, 3) := by decide +kernel
theorem dX1_lowerAll_107 : decode cX1_lowerAll 107 = .ok (.iload_n 1, 1) := by decide +kernel
theorem dX1_lowerAll_108 : decode cX1_lowerAll 108 = .ok (.iconst 1, 1) := by decide +kernel
theorem dX1_lowerAll_109 : decode cX1_lowerAll 109 = .ok (.iload_n 2, 1) := by decide +kernel
theorem dX1_lowerAll_110 : decode cX1_lowerAll 110 = .ok (.ishl, 1) := by decide +kernel
theorem dX1_lowerAll_111 : decode cX1_lowerAll 111 = .ok (.iconst (-1), 1) := by decide +kernel
theorem dX1_lowerAll_112 : decode cX1_lowerAll 112 = .ok (.ixor, 1) := by decide +kernel
theorem dX1_lowerAll_113 : decode cX1_lowerAll 113 = .ok (.iand, 1) := by decide +kernel
theorem dX1_lowerAll_114 : decode cX1_lowerAll 114 = .ok (.istore_n 1, 1) := by decide +kernel
theorem dX1_lowerAll_115 : decode cX1_lowerAll 115 = .ok (.iinc 2 1, 3) := by decide +kernel
theorem dX1_lowerAll_118 : decode cX1_lowerAll 118 = .ok (.goto (-111), 3) := by decide +kernel
theorem dX1_lowerAll_121 : decode cX1_lowerAll 121 = .ok (.return_, 1) := by decide +kernel
theorem dX1_close_0 : decode cX1_close 0 = .ok (.iload_n 1, 1) := by decide +kernel
theorem dX1_close_1 : decode cX1_close 1 = .ok (.iconst 0, 1) := by decide +kernel
theorem dX1_close_2 : decode cX1_close 2 = .ok (.iconst 5, 1) := by decide +kernel
theorem dX1_close_3 : decode cX1_close 3 = .ok (.invokestatic 68, 3) := by decide +kernel
theorem dX1_close_6 : decode cX1_close 6 = .ok (.ifCond .eq 15, 3) := by decide +kernel
theorem dX1_close_9 : decode cX1_close 9 = .ok (.aload_n 0, 1) := by decide +kernel
theorem dX1_close_10 : decode cX1_close 10 = .ok (.getfield 9, 3) := by decide +kernel
theorem dX1_close_13 : decode cX1_close 13 = .ok (.iload_n 1, 1) := by decide +kernel
theorem dX1_close_14 : decode cX1_close 14 = .ok (.dup2, 1) := by decide +kernel
theorem dX1_close_15 : decode cX1_close 15 = .ok (.iaload, 1) := by decide +kernel
theorem dX1_close_16 : decode cX1_close 16 = .ok (.iload_n 2, 1) := by decide +kernel
theorem dX1_close_17 : decode cX1_close 17 = .ok (.iconst (-1), 1) := by decide +kernel
theorem dX1_close_18 : decode cX1_close 18 = .ok (.ixor, 1) := by decide +kernel
theorem dX1_close_19 : decode cX1_close 19 = .ok (.iand, 1) := by decide +kernel
theorem dX1_close_20 : decode cX1_close 20 = .ok (.iastore, 1) := by decide +kernel
theorem dX1_close_21 : decode cX1_close 21 = .ok (.return_, 1) := by decide +kernel
theorem dX1_tiedTo_0 : decode cX1_tiedTo 0 = .ok (.iconst 1, 1) := by decide +kernel
theorem dX1_tiedTo_1 : decode cX1_tiedTo 1 = .ok (.iload_n 1, 1) := by decide +kernel
theorem dX1_tiedTo_2 : decode cX1_tiedTo 2 = .ok (.ishl, 1) := by decide +kernel
theorem dX1_tiedTo_3 : decode cX1_tiedTo 3 = .ok (.istore_n 3, 1) := by decide +kernel
theorem dX1_tiedTo_4 : decode cX1_tiedTo 4 = .ok (.iconst 0, 1) := by decide +kernel
theorem dX1_tiedTo_5 : decode cX1_tiedTo 5 = .ok (.istore 4, 2) := by decide +kernel
theorem dX1_tiedTo_7 : decode cX1_tiedTo 7 = .ok (.iconst 0, 1) := by decide +kernel
theorem dX1_tiedTo_8 : decode cX1_tiedTo 8 = .ok (.istore 5, 2) := by decide +kernel
theorem dX1_tiedTo_10 : decode cX1_tiedTo 10 = .ok (.iload 5, 2) := by decide +kernel
theorem dX1_tiedTo_12 : decode cX1_tiedTo 12 = .ok (.bipush 12, 2) := by decide +kernel
theorem dX1_tiedTo_14 : decode cX1_tiedTo 14 = .ok (.if_icmp .ge 57, 3) := by decide +kernel
theorem dX1_tiedTo_17 : decode cX1_tiedTo 17 = .ok (.iload_n 3, 1) := by decide +kernel
theorem dX1_tiedTo_18 : decode cX1_tiedTo 18 = .ok (.iload 4, 2) := by decide +kernel
theorem dX1_tiedTo_20 : decode cX1_tiedTo 20 = .ok (.if_icmp .eq 51, 3) := by decide +kernel
theorem dX1_tiedTo_23 : decode cX1_tiedTo 23 = .ok (.iload_n 3, 1) := by decide +kernel
theorem dX1_tiedTo_24 : decode cX1_tiedTo 24 = .ok (.istore 4, 2) := by decide +kernel
theorem dX1_tiedTo_26 : decode cX1_tiedTo 26 = .ok (.iconst 0, 1) := by decide +kernel
theorem dX1_tiedTo_27 : decode cX1_tiedTo 27 = .ok (.istore 6, 2) := by decide +kernel
theorem dX1_tiedTo_29 : decode cX1_tiedTo 29 = .ok (.iload 6, 2) := by decide +kernel
theorem dX1_tiedTo_31 : decode cX1_tiedTo 31 = .ok (.aload_n 0, 1) := by decide +kernel
theorem dX1_tiedTo_32 : decode cX1_tiedTo 32 = .ok (.getfield 24, 3) := by decide +kernel
theorem dX1_tiedTo_35 : decode cX1_tiedTo 35 = .ok (.if_icmp .ge 30, 3) := by decide +kernel
theorem dX1_tiedTo_38 : decode cX1_tiedTo 38 = .ok (.iload_n 3, 1) := by decide +kernel
theorem dX1_tiedTo_39 : decode cX1_tiedTo 39 = .ok (.iload 6, 2) := by decide +kernel
theorem dX1_tiedTo_41 : decode cX1_tiedTo 41 = .ok (.invokestatic 87, 3) := by decide +kernel
theorem dX1_tiedTo_44 : decode cX1_tiedTo 44 = .ok (.ifCond .eq 15, 3) := by decide +kernel
theorem dX1_tiedTo_47 : decode cX1_tiedTo 47 = .ok (.iload_n 3, 1) := by decide +kernel
theorem dX1_tiedTo_48 : decode cX1_tiedTo 48 = .ok (.aload_n 0, 1) := by decide +kernel
theorem dX1_tiedTo_49 : decode cX1_tiedTo 49 = .ok (.getfield 15, 3) := by decide +kernel
theorem dX1_tiedTo_52 : decode cX1_tiedTo 52 = .ok (.iload 6, 2) := by decide +kernel
theorem dX1_tiedTo_54 : decode cX1_tiedTo 54 = .ok (.iaload, 1) := by decide +kernel
theorem dX1_tiedTo_55 : decode cX1_tiedTo 55 = .ok (.iload_n 2, 1) := by decide +kernel
theorem dX1_tiedTo_56 : decode cX1_tiedTo 56 = .ok (.iand, 1) := by decide +kernel
theorem dX1_tiedTo_57 : decode cX1_tiedTo 57 = .ok (.ior, 1) := by decide +kernel
theorem dX1_tiedTo_58 : decode cX1_tiedTo 58 = .ok (.istore_n 3, 1) := by decide +kernel
theorem dX1_tiedTo_59 : decode cX1_tiedTo 59 = .ok (.iinc 6 1, 3) := by decide +kernel
theorem dX1_tiedTo_62 : decode cX1_tiedTo 62 = .ok (.goto (-33), 3) := by decide +kernel
theorem dX1_tiedTo_65 : decode cX1_tiedTo 65 = .ok (.iinc 5 1, 3) := by decide +kernel
theorem dX1_tiedTo_68 : decode cX1_tiedTo 68 = .ok (.goto (-58), 3) := by decide +kernel
theorem dX1_tiedTo_71 : decode cX1_tiedTo 71 = .ok (.iload_n 3, 1) := by decide +kernel
theorem dX1_tiedTo_72 : decode cX1_tiedTo 72 = .ok (.ireturn, 1) := by decide +kernel
theorem dX1_canFill_0 : decode cX1_canFill 0 = .ok (.iload_n 1, 1) := by decide +kernel
theorem dX1_canFill_1 : decode cX1_canFill 1 = .ok (.ifCond .ne 5, 3) := by decide +kernel
theorem dX1_canFill_4 : decode cX1_canFill 4 = .ok (.iconst 1, 1) := by decide +kernel
theorem dX1_canFill_5 : decode cX1_canFill 5 = .ok (.ireturn, 1) := by decide +kernel
theorem dX1_canFill_6 : decode cX1_canFill 6 = .ok (.aload_n 0, 1) := by decide +kernel
theorem dX1_canFill_7 : decode cX1_canFill 7 = .ok (.iload_n 1, 1) := by decide +kernel
theorem dX1_canFill_8 : decode cX1_canFill 8 = .ok (.invokevirtual 90, 3) := by decide +kernel
theorem dX1_canFill_11 : decode cX1_canFill 11 = .ok (.istore_n 3, 1) := by decide +kernel
theorem dX1_canFill_12 : decode cX1_canFill 12 = .ok (.iconst 0, 1) := by decide +kernel
theorem dX1_canFill_13 : decode cX1_canFill 13 = .ok (.istore 4, 2) := by decide +kernel
theorem dX1_canFill_15 : decode cX1_canFill 15 = .ok (.iload 4, 2) := by decide +kernel
theorem dX1_canFill_17 : decode cX1_canFill 17 = .ok (.bipush 6, 2) := by decide +kernel
theorem dX1_canFill_19 : decode cX1_canFill 19 = .ok (.if_icmp .ge 34, 3) := by decide +kernel
theorem dX1_canFill_22 : decode cX1_canFill 22 = .ok (.aload_n 0, 1) := by decide +kernel
theorem dX1_canFill_23 : decode cX1_canFill 23 = .ok (.iload 4, 2) := by decide +kernel
theorem dX1_canFill_25 : decode cX1_canFill 25 = .ok (.iload_n 3, 1) := by decide +kernel
theorem dX1_canFill_26 : decode cX1_canFill 26 = .ok (.iload_n 1, 1) := by decide +kernel
theorem dX1_canFill_27 : decode cX1_canFill 27 = .ok (.invokevirtual 76, 3) := by decide +kernel
theorem dX1_canFill_30 : decode cX1_canFill 30 = .ok (.ifCond .eq 17, 3) := by decide +kernel
theorem dX1_canFill_33 : decode cX1_canFill 33 = .ok (.aload_n 0, 1) := by decide +kernel
theorem dX1_canFill_34 : decode cX1_canFill 34 = .ok (.iload_n 3, 1) := by decide +kernel
theorem dX1_canFill_35 : decode cX1_canFill 35 = .ok (.iload 4, 2) := by decide +kernel
theorem dX1_canFill_37 : decode cX1_canFill 37 = .ok (.iload_n 1, 1) := by decide +kernel
theorem dX1_canFill_38 : decode cX1_canFill 38 = .ok (.iload_n 2, 1) := by decide +kernel
theorem dX1_canFill_39 : decode cX1_canFill 39 = .ok (.invokevirtual 79, 3) := by decide +kernel
theorem dX1_canFill_42 : decode cX1_canFill 42 = .ok (.ifCond .eq 5, 3) := by decide +kernel
theorem dX1_canFill_45 : decode cX1_canFill 45 = .ok (.iconst 1, 1) := by decide +kernel
theorem dX1_canFill_46 : decode cX1_canFill 46 = .ok (.ireturn, 1) := by decide +kernel
theorem dX1_canFill_47 : decode cX1_canFill 47 = .ok (.iinc 4 1, 3) := by decide +kernel
theorem dX1_canFill_50 : decode cX1_canFill 50 = .ok (.goto (-35), 3) := by decide +kernel
theorem dX1_canFill_53 : decode cX1_canFill 53 = .ok (.iconst 0, 1) := by decide +kernel
theorem dX1_canFill_54 : decode cX1_canFill 54 = .ok (.ireturn, 1) := by decide +kernel
theorem dX1_canGive_0 : decode cX1_canGive 0 = .ok (.iload 4, 2) := by decide +kernel
theorem dX1_canGive_2 : decode cX1_canGive 2 = .ok (.bipush 12, 2) := by decide +kernel
theorem dX1_canGive_4 : decode cX1_canGive 4 = .ok (.if_icmp .lt 5, 3) := by decide +kernel
theorem dX1_canGive_7 : decode cX1_canGive 7 = .ok (.iconst 0, 1) := by decide +kernel
theorem dX1_canGive_8 : decode cX1_canGive 8 = .ok (.ireturn, 1) := by decide +kernel
theorem dX1_canGive_9 : decode cX1_canGive 9 = .ok (.aload_n 0, 1) := by decide +kernel
theorem dX1_canGive_10 : decode cX1_canGive 10 = .ok (.getfield 9, 3) := by decide +kernel
theorem dX1_canGive_13 : decode cX1_canGive 13 = .ok (.iload_n 2, 1) := by decide +kernel
theorem dX1_canGive_14 : decode cX1_canGive 14 = .ok (.iaload, 1) := by decide +kernel
theorem dX1_canGive_15 : decode cX1_canGive 15 = .ok (.istore 5, 2) := by decide +kernel
theorem dX1_canGive_17 : decode cX1_canGive 17 = .ok (.aload_n 0, 1) := by decide +kernel
theorem dX1_canGive_18 : decode cX1_canGive 18 = .ok (.getfield 9, 3) := by decide +kernel
theorem dX1_canGive_21 : decode cX1_canGive 21 = .ok (.iload_n 2, 1) := by decide +kernel
theorem dX1_canGive_22 : decode cX1_canGive 22 = .ok (.iload 5, 2) := by decide +kernel
theorem dX1_canGive_24 : decode cX1_canGive 24 = .ok (.aload_n 0, 1) := by decide +kernel
