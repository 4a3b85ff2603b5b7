theorem dX7_tune_11 : decode cX7_tune 11 = .ok (.bipush 63, 2) := by decide +kernel
theorem dX7_tune_13 : decode cX7_tune 13 = .ok (.invokestatic 94, 3) := by decide +kernel
theorem dX7_tune_16 : decode cX7_tune 16 = .ok (.ifCond .eq 14, 3) := by decide +kernel
theorem dX7_tune_19 : decode cX7_tune 19 = .ok (.iload_n 2, 1) := by decide +kernel
theorem dX7_tune_20 : decode cX7_tune 20 = .ok (.iconst 0, 1) := by decide +kernel
theorem dX7_tune_21 : decode cX7_tune 21 = .ok (.sipush 4095, 3) := by decide +kernel
theorem dX7_tune_24 : decode cX7_tune 24 = .ok (.invokestatic 94, 3) := by decide +kernel
theorem dX7_tune_27 : decode cX7_tune 27 = .ok (.ifCond .ne 5, 3) := by decide +kernel
theorem dX7_tune_30 : decode cX7_tune 30 = .ok (.iconst (-1), 1) := by decide +kernel
theorem dX7_tune_31 : decode cX7_tune 31 = .ok (.ireturn, 1) := by decide +kernel
theorem dX7_tune_32 : decode cX7_tune 32 = .ok (.aload_n 0, 1) := by decide +kernel
theorem dX7_tune_33 : decode cX7_tune 33 = .ok (.getfield 59, 3) := by decide +kernel
theorem dX7_tune_36 : decode cX7_tune 36 = .ok (.istore_n 3, 1) := by decide +kernel
theorem dX7_tune_37 : decode cX7_tune 37 = .ok (.aload_n 0, 1) := by decide +kernel
theorem dX7_tune_38 : decode cX7_tune 38 = .ok (.getfield 37, 3) := by decide +kernel
theorem dX7_tune_41 : decode cX7_tune 41 = .ok (.iload_n 3, 1) := by decide +kernel
theorem dX7_tune_42 : decode cX7_tune 42 = .ok (.aaload, 1) := by decide +kernel
theorem dX7_tune_43 : decode cX7_tune 43 = .ok (.iload_n 1, 1) := by decide +kernel
theorem dX7_tune_44 : decode cX7_tune 44 = .ok (.iload_n 2, 1) := by decide +kernel
theorem dX7_tune_45 : decode cX7_tune 45 = .ok (.invokevirtual 137, 3) := by decide +kernel
theorem dX7_tune_48 : decode cX7_tune 48 = .ok (.aload_n 0, 1) := by decide +kernel
theorem dX7_tune_49 : decode cX7_tune 49 = .ok (.dup, 1) := by decide +kernel
theorem dX7_tune_50 : decode cX7_tune 50 = .ok (.getfield 59, 3) := by decide +kernel
theorem dX7_tune_53 : decode cX7_tune 53 = .ok (.iconst 1, 1) := by decide +kernel
theorem dX7_tune_54 : decode cX7_tune 54 = .ok (.iadd, 1) := by decide +kernel
theorem dX7_tune_55 : decode cX7_tune 55 = .ok (.putfield 59, 3) := by decide +kernel
theorem dX7_tune_58 : decode cX7_tune 58 = .ok (.aload_n 0, 1) := by decide +kernel
theorem dX7_tune_59 : decode cX7_tune 59 = .ok (.iconst 0, 1) := by decide +kernel
theorem dX7_tune_60 : decode cX7_tune 60 = .ok (.putfield 68, 3) := by decide +kernel
theorem dX7_tune_63 : decode cX7_tune 63 = .ok (.iload_n 3, 1) := by decide +kernel
theorem dX7_tune_64 : decode cX7_tune 64 = .ok (.ireturn, 1) := by decide +kernel
theorem dX7_heard_0 : decode cX7_heard 0 = .ok (.aload_n 0, 1) := by decide +kernel
theorem dX7_heard_1 : decode cX7_heard 1 = .ok (.invokevirtual 126, 3) := by decide +kernel
theorem dX7_heard_4 : decode cX7_heard 4 = .ok (.iload_n 1, 1) := by decide +kernel
theorem dX7_heard_5 : decode cX7_heard 5 = .ok (.invokevirtual 140, 3) := by decide +kernel
theorem dX7_heard_8 : decode cX7_heard 8 = .ok (.ireturn, 1) := by decide +kernel
theorem dX7_share_0 : decode cX7_share 0 = .ok (.aload_n 0, 1) := by decide +kernel
theorem dX7_share_1 : decode cX7_share 1 = .ok (.invokevirtual 126, 3) := by decide +kernel
theorem dX7_share_4 : decode cX7_share 4 = .ok (.astore_n 3, 1) := by decide +kernel
theorem dX7_share_5 : decode cX7_share 5 = .ok (.aload_n 3, 1) := by decide +kernel
theorem dX7_share_6 : decode cX7_share 6 = .ok (.iload_n 1, 1) := by decide +kernel
theorem dX7_share_7 : decode cX7_share 7 = .ok (.invokevirtual 144, 3) := by decide +kernel
theorem dX7_share_10 : decode cX7_share 10 = .ok (.ifCond .ne 5, 3) := by decide +kernel
theorem dX7_share_13 : decode cX7_share 13 = .ok (.iconst (-1), 1) := by decide +kernel
theorem dX7_share_14 : decode cX7_share 14 = .ok (.ireturn, 1) := by decide +kernel
theorem dX7_share_15 : decode cX7_share 15 = .ok (.iload_n 2, 1) := by decide +kernel
theorem dX7_share_16 : decode cX7_share 16 = .ok (.iconst (-1), 1) := by decide +kernel
theorem dX7_share_17 : decode cX7_share 17 = .ok (.if_icmp .ne 9, 3) := by decide +kernel
theorem dX7_share_20 : decode cX7_share 20 = .ok (.aload_n 0, 1) := by decide +kernel
theorem dX7_share_21 : decode cX7_share 21 = .ok (.iload_n 1, 1) := by decide +kernel
theorem dX7_share_22 : decode cX7_share 22 = .ok (.invokevirtual 147, 3) := by decide +kernel
theorem dX7_share_25 : decode cX7_share 25 = .ok (.ireturn, 1) := by decide +kernel
theorem dX7_share_26 : decode cX7_share 26 = .ok (.aload_n 0, 1) := by decide +kernel
theorem dX7_share_27 : decode cX7_share 27 = .ok (.iload_n 2, 1) := by decide +kernel
theorem dX7_share_28 : decode cX7_share 28 = .ok (.invokevirtual 102, 3) := by decide +kernel
theorem dX7_share_31 : decode cX7_share 31 = .ok (.ifCond .eq 13, 3) := by decide +kernel
theorem dX7_share_34 : decode cX7_share 34 = .ok (.aload_n 0, 1) := by decide +kernel
theorem dX7_share_35 : decode cX7_share 35 = .ok (.aload_n 3, 1) := by decide +kernel
theorem dX7_share_36 : decode cX7_share 36 = .ok (.iload_n 1, 1) := by decide +kernel
theorem dX7_share_37 : decode cX7_share 37 = .ok (.iload_n 2, 1) := by decide +kernel
theorem dX7_share_38 : decode cX7_share 38 = .ok (.invokevirtual 150, 3) := by decide +kernel
theorem dX7_share_41 : decode cX7_share 41 = .ok (.goto 4, 3) := by decide +kernel
theorem dX7_share_44 : decode cX7_share 44 = .ok (.iconst (-1), 1) := by decide +kernel
theorem dX7_share_45 : decode cX7_share 45 = .ok (.ireturn, 1) := by decide +kernel
theorem dX7_day_0 : decode cX7_day 0 = .ok (.aload_n 0, 1) := by decide +kernel
theorem dX7_day_1 : decode cX7_day 1 = .ok (.getfield 62, 3) := by decide +kernel
theorem dX7_day_4 : decode cX7_day 4 = .ok (.sipush 9999, 3) := by decide +kernel
theorem dX7_day_7 : decode cX7_day 7 = .ok (.if_icmp .lt 5, 3) := by decide +kernel
theorem dX7_day_10 : decode cX7_day 10 = .ok (.iconst (-1), 1) := by decide +kernel
theorem dX7_day_11 : decode cX7_day 11 = .ok (.ireturn, 1) := by decide +kernel
theorem dX7_day_12 : decode cX7_day 12 = .ok (.aload_n 0, 1) := by decide +kernel
theorem dX7_day_13 : decode cX7_day 13 = .ok (.invokevirtual 126, 3) := by decide +kernel
theorem dX7_day_16 : decode cX7_day 16 = .ok (.astore_n 1, 1) := by decide +kernel
theorem dX7_day_17 : decode cX7_day 17 = .ok (.iconst 0, 1) := by decide +kernel
theorem dX7_day_18 : decode cX7_day 18 = .ok (.istore_n 2, 1) := by decide +kernel
theorem dX7_day_19 : decode cX7_day 19 = .ok (.iload_n 2, 1) := by decide +kernel
theorem dX7_day_20 : decode cX7_day 20 = .ok (.bipush 6, 2) := by decide +kernel
theorem dX7_day_22 : decode cX7_day 22 = .ok (.if_icmp .ge 43, 3) := by decide +kernel
theorem dX7_day_25 : decode cX7_day 25 = .ok (.aload_n 1, 1) := by decide +kernel
theorem dX7_day_26 : decode cX7_day 26 = .ok (.iload_n 2, 1) := by decide +kernel
theorem dX7_day_27 : decode cX7_day 27 = .ok (.invokevirtual 144, 3) := by decide +kernel
theorem dX7_day_30 : decode cX7_day 30 = .ok (.ifCond .eq 12, 3) := by decide +kernel
theorem dX7_day_33 : decode cX7_day 33 = .ok (.aload_n 0, 1) := by decide +kernel
theorem dX7_day_34 : decode cX7_day 34 = .ok (.aload_n 1, 1) := by decide +kernel
theorem dX7_day_35 : decode cX7_day 35 = .ok (.iload_n 2, 1) := by decide +kernel
theorem dX7_day_36 : decode cX7_day 36 = .ok (.invokevirtual 154, 3) := by decide +kernel
theorem dX7_day_39 : decode cX7_day 39 = .ok (.goto 20, 3) := by decide +kernel
theorem dX7_day_42 : decode cX7_day 42 = .ok (.aload_n 0, 1) := by decide +kernel
theorem dX7_day_43 : decode cX7_day 43 = .ok (.getfield 31, 3) := by decide +kernel
theorem dX7_day_46 : decode cX7_day 46 = .ok (.iload_n 2, 1) := by decide +kernel
theorem dX7_day_47 : decode cX7_day 47 = .ok (.aaload, 1) := by decide +kernel
theorem dX7_day_48 : decode cX7_day 48 = .ok (.iconst 0, 1) := by decide +kernel
theorem dX7_day_49 : decode cX7_day 49 = .ok (.invokevirtual 158, 3) := by decide +kernel
theorem dX7_day_52 : decode cX7_day 52 = .ok (.ifCond .eq 7, 3) := by decide +kernel
theorem dX7_day_55 : decode cX7_day 55 = .ok (.aload_n 0, 1) := by decide +kernel
theorem dX7_day_56 : decode cX7_day 56 = .ok (.invokevirtual 161, 3) := by decide +kernel
theorem dX7_day_59 : decode cX7_day 59 = .ok (.iinc 2 1, 3) := by decide +kernel
theorem dX7_day_62 : decode cX7_day 62 = .ok (.goto (-43), 3) := by decide +kernel
theorem dX7_day_65 : decode cX7_day 65 = .ok (.aload_n 1, 1) := by decide +kernel
theorem dX7_day_66 : decode cX7_day 66 = .ok (.aload_n 0, 1) := by decide +kernel
theorem dX7_day_67 : decode cX7_day 67 = .ok (.getfield 37, 3) := by decide +kernel
theorem dX7_day_70 : decode cX7_day 70 = .ok (.invokevirtual 164, 3) := by decide +kernel
theorem dX7_day_73 : decode cX7_day 73 = .ok (.iconst 0, 1) := by decide +kernel
theorem dX7_day_74 : decode cX7_day 74 = .ok (.istore_n 2, 1) := by decide +kernel
theorem dX7_day_75 : decode cX7_day 75 = .ok (.iload_n 2, 1) := by decide +kernel
theorem dX7_day_76 : decode cX7_day 76 = .ok (.bipush 6, 2) := by decide +kernel
theorem dX7_day_78 : decode cX7_day 78 = .ok (.if_icmp .ge 18, 3) := by decide +kernel
theorem dX7_day_81 : decode cX7_day 81 = .ok (.aload_n 0, 1) := by decide +kernel
theorem dX7_day_82 : decode cX7_day 82 = .ok (.getfield 31, 3) := by decide +kernel
theorem dX7_day_85 : decode cX7_day 85 = .ok (.iload_n 2, 1) := by decide +kernel
theorem dX7_day_86 : decode cX7_day 86 = .ok (.aaload, 1) := by decide +kernel
theorem dX7_day_87 : decode cX7_day 87 = .ok (.invokevirtual 123, 3) := by decide +kernel
theorem dX7_day_90 : decode cX7_day 90 = .ok (.iinc 2 1, 3) := by decide +kernel
theorem dX7_day_93 : decode cX7_day 93 = .ok (.goto (-18), 3) := by decide +kernel
theorem dX7_day_96 : decode cX7_day 96 = .ok (.aload_n 0, 1) := by decide +kernel
theorem dX7_day_97 : decode cX7_day 97 = .ok (.iconst 0, 1) := by decide +kernel
theorem dX7_day_98 : decode cX7_day 98 = .ok (.putfield 68, 3) := by decide +kernel
theorem dX7_day_101 : decode cX7_day 101 = .ok (.aload_n 0, 1) := by decide +kernel
theorem dX7_day_102 : decode cX7_day 102 = .ok (.dup, 1) := by decide +kernel
theorem dX7_day_103 : decode cX7_day 103 = .ok (.getfield 62, 3) := by decide +kernel
theorem dX7_day_106 : decode cX7_day 106 = .ok (.iconst 1, 1) := by decide +kernel
theorem dX7_day_107 : decode cX7_day 107 = .ok (.iadd, 1) := by decide +kernel
theorem dX7_day_108 : decode cX7_day 108 = .ok (.putfield 62, 3) := by decide +kernel
theorem dX7_day_111 : decode cX7_day 111 = .ok (.aload_n 0, 1) := by decide +kernel
theorem dX7_day_112 : decode cX7_day 112 = .ok (.getfield 62, 3) := by decide +kernel
theorem dX7_day_115 : decode cX7_day 115 = .ok (.sipush 360, 3) := by decide +kernel
theorem dX7_day_118 : decode cX7_day 118 = .ok (.irem, 1) := by decide +kernel
theorem dX7_day_119 : decode cX7_day 119 = .ok (.ifCond .ne 7, 3) := by decide +kernel
theorem dX7_day_122 : decode cX7_day 122 = .ok (.aload_n 0, 1) := by decide +kernel
theorem dX7_day_123 : decode cX7_day 123 = .ok (.invokevirtual 168, 3) := by decide +kernel
theorem dX7_day_126 : decode cX7_day 126 = .ok (.aload_n 0, 1) := by decide +kernel
theorem dX7_day_127 : decode cX7_day 127 = .ok (.getfield 62, 3) := by decide +kernel
theorem dX7_day_130 : decode cX7_day 130 = .ok (.ireturn, 1) := by decide +kernel
theorem dX7_lasts_0 : decode cX7_lasts 0 = .ok (.iconst 0, 1) := by decide +kernel
theorem dX7_lasts_1 : decode cX7_lasts 1 = .ok (.istore_n 1, 1) := by decide +kernel
theorem dX7_lasts_2 : decode cX7_lasts 2 = .ok (.iconst 0, 1) := by decide +kernel
theorem dX7_lasts_3 : decode cX7_lasts 3 = .ok (.istore_n 2, 1) := by decide +kernel
theorem dX7_lasts_4 : decode cX7_lasts 4 = .ok (.iload_n 2, 1) := by decide +kernel
theorem dX7_lasts_5 : decode cX7_lasts 5 = .ok (.aload_n 0, 1) := by decide +kernel
theorem dX7_lasts_6 : decode cX7_lasts 6 = .ok (.getfield 55, 3) := by decide +kernel
theorem dX7_lasts_9 : decode cX7_lasts 9 = .ok (.if_icmp .ge 33, 3) := by decide +kernel
theorem dX7_lasts_12 : decode cX7_lasts 12 = .ok (.aload_n 0, 1) := by decide +kernel
theorem dX7_lasts_13 : decode cX7_lasts 13 = .ok (.getfield 25, 3) := by decide +kernel
theorem dX7_lasts_16 : decode cX7_lasts 16 = .ok (.iload_n 2, 1) := by decide +kernel
theorem dX7_lasts_17 : decode cX7_lasts 17 = .ok (.aaload, 1) := by decide +kernel
theorem dX7_lasts_18 : decode cX7_lasts 18 = .ok (.getfield 106, 3) := by decide +kernel
theorem dX7_lasts_21 : decode cX7_lasts 21 = .ok (.iconst 2, 1) := by decide +kernel
theorem dX7_lasts_22 : decode cX7_lasts 22 = .ok (.if_icmp .ne 14, 3) := by decide +kernel
theorem dX7_lasts_25 : decode cX7_lasts 25 = .ok (.iload_n 1, 1) := by decide +kernel
theorem dX7_lasts_26 : decode cX7_lasts 26 = .ok (.aload_n 0, 1) := by decide +kernel
theorem dX7_lasts_27 : decode cX7_lasts 27 = .ok (.getfield 19, 3) := by decide +kernel
theorem dX7_lasts_30 : decode cX7_lasts 30 = .ok (.iconst 2, 1) := by decide +kernel
theorem dX7_lasts_31 : decode cX7_lasts 31 = .ok (.invokevirtual 171, 3) := by decide +kernel
theorem dX7_lasts_34 : decode cX7_lasts 34 = .ok (.iadd, 1) := by decide +kernel
theorem dX7_lasts_35 : decode cX7_lasts 35 = .ok (.istore_n 1, 1) := by decide +kernel
theorem dX7_lasts_36 : decode cX7_lasts 36 = .ok (.iinc 2 1, 3) := by decide +kernel
theorem dX7_lasts_39 : decode cX7_lasts 39 = .ok (.goto (-35), 3) := by decide +kernel
theorem dX7_lasts_42 : decode cX7_lasts 42 = .ok (.iload_n 1, 1) := by decide +kernel
theorem dX7_lasts_43 : decode cX7_lasts 43 = .ok (.ifCond .ne 9, 3) := by decide +kernel
theorem dX7_lasts_46 : decode cX7_lasts 46 = .ok (.sipush 9999, 3) := by decide +kernel
theorem dX7_lasts_49 : decode cX7_lasts 49 = .ok (.goto 15, 3) := by decide +kernel
theorem dX7_lasts_52 : decode cX7_lasts 52 = .ok (.sipush 9999, 3) := by decide +kernel
theorem dX7_lasts_55 : decode cX7_lasts 55 = .ok (.aload_n 0, 1) := by decide +kernel
theorem dX7_lasts_56 : decode cX7_lasts 56 = .ok (.getfield 65, 3) := by decide +kernel
theorem dX7_lasts_59 : decode cX7_lasts 59 = .ok (.iload_n 1, 1) := by decide +kernel
theorem dX7_lasts_60 : decode cX7_lasts 60 = .ok (.idiv, 1) := by decide +kernel
theorem dX7_lasts_61 : decode cX7_lasts 61 = .ok (.invokestatic 174, 3) := by decide +kernel
theorem dX7_lasts_64 : decode cX7_lasts 64 = .ok (.ireturn, 1) := by decide +kernel
theorem dX7_look_0 : decode cX7_look 0 = .ok (.aload_n 0, 1) := by decide +kernel
theorem dX7_look_1 : decode cX7_look 1 = .ok (.iload_n 1, 1) := by decide +kernel
theorem dX7_look_2 : decode cX7_look 2 = .ok (.invokevirtual 102, 3) := by decide +kernel
theorem dX7_look_5 : decode cX7_look 5 = .ok (.ifCond .ne 5, 3) := by decide +kernel
theorem dX7_look_8 : decode cX7_look 8 = .ok (.iconst (-1), 1) := by decide +kernel
theorem dX7_look_9 : decode cX7_look 9 = .ok (.ireturn, 1) := by decide +kernel
theorem dX7_look_10 : decode cX7_look 10 = .ok (.iload_n 2, 1) := by decide +kernel
theorem dX7_look_11 : decode cX7_look 11 = .ok (.tableswitch 68 0 3 #[29, 39, 49, 59], 29) := by decide +kernel
theorem dX7_look_40 : decode cX7_look 40 = .ok (.aload_n 0, 1) := by decide +kernel
theorem dX7_look_41 : decode cX7_look 41 = .ok (.getfield 25, 3) := by decide +kernel
theorem dX7_look_44 : decode cX7_look 44 = .ok (.iload_n 1, 1) := by decide +kernel
theorem dX7_look_45 : decode cX7_look 45 = .ok (.aaload, 1) := by decide +kernel
theorem dX7_look_46 : decode cX7_look 46 = .ok (.getfield 179, 3) := by decide +kernel
theorem dX7_look_49 : decode cX7_look 49 = .ok (.ireturn, 1) := by decide +kernel
theorem dX7_look_50 : decode cX7_look 50 = .ok (.aload_n 0, 1) := by decide +kernel
theorem dX7_look_51 : decode cX7_look 51 = .ok (.getfield 25, 3) := by decide +kernel
theorem dX7_look_54 : decode cX7_look 54 = .ok (.iload_n 1, 1) := by decide +kernel
theorem dX7_look_55 : decode cX7_look 55 = .ok (.aaload, 1) := by decide +kernel
theorem dX7_look_56 : decode cX7_look 56 = .ok (.getfield 182, 3) := by decide +kernel
theorem dX7_look_59 : decode cX7_look 59 = .ok (.ireturn, 1) := by decide +kernel
theorem dX7_look_60 : decode cX7_look 60 = .ok (.aload_n 0, 1) := by decide +kernel
theorem dX7_look_61 : decode cX7_look 61 = .ok (.getfield 25, 3) := by decide +kernel
theorem dX7_look_64 : decode cX7_look 64 = .ok (.iload_n 1, 1) := by decide +kernel
theorem dX7_look_65 : decode cX7_look 65 = .ok (.aaload, 1) := by decide +kernel
theorem dX7_look_66 : decode cX7_look 66 = .ok (.getfield 106, 3) := by decide +kernel
theorem dX7_look_69 : decode cX7_look 69 = .ok (.ireturn, 1) := by decide +kernel
theorem dX7_look_70 : decode cX7_look 70 = .ok (.aload_n 0, 1) := by decide +kernel
theorem dX7_look_71 : decode cX7_look 71 = .ok (.invokevirtual 126, 3) := by decide +kernel
theorem dX7_look_74 : decode cX7_look 74 = .ok (.iload_n 1, 1) := by decide +kernel
theorem dX7_look_75 : decode cX7_look 75 = .ok (.invokevirtual 185, 3) := by decide +kernel
theorem dX7_look_78 : decode cX7_look 78 = .ok (.ireturn, 1) := by decide +kernel
theorem dX7_look_79 : decode cX7_look 79 = .ok (.iconst (-1), 1) := by decide +kernel
theorem dX7_look_80 : decode cX7_look 80 = .ok (.ireturn, 1) := by decide +kernel
theorem dX7_wages_0 : decode cX7_wages 0 = .ok (.iload_n 1, 1) := by decide +kernel
theorem dX7_wages_1 : decode cX7_wages 1 = .ok (.iconst (-1), 1) := by decide +kernel
theorem dX7_wages_2 : decode cX7_wages 2 = .ok (.if_icmp .ne 8, 3) := by decide +kernel
theorem dX7_wages_5 : decode cX7_wages 5 = .ok (.aload_n 0, 1) := by decide +kernel
theorem dX7_wages_6 : decode cX7_wages 6 = .ok (.getfield 65, 3) := by decide +kernel
theorem dX7_wages_9 : decode cX7_wages 9 = .ok (.ireturn, 1) := by decide +kernel
theorem dX7_wages_10 : decode cX7_wages 10 = .ok (.aload_n 0, 1) := by decide +kernel
theorem dX7_wages_11 : decode cX7_wages 11 = .ok (.iload_n 1, 1) := by decide +kernel
theorem dX7_wages_12 : decode cX7_wages 12 = .ok (.invokevirtual 102, 3) := by decide +kernel
theorem dX7_wages_15 : decode cX7_wages 15 = .ok (.ifCond .eq 15, 3) := by decide +kernel
theorem dX7_wages_18 : decode cX7_wages 18 = .ok (.aload_n 0, 1) := by decide +kernel
theorem dX7_wages_19 : decode cX7_wages 19 = .ok (.getfield 25, 3) := by decide +kernel
theorem dX7_wages_22 : decode cX7_wages 22 = .ok (.iload_n 1, 1) := by decide +kernel
theorem dX7_wages_23 : decode cX7_wages 23 = .ok (.aaload, 1) := by decide +kernel
theorem dX7_wages_24 : decode cX7_wages 24 = .ok (.getfield 188, 3) := by decide +kernel
theorem dX7_wages_27 : decode cX7_wages 27 = .ok (.goto 4, 3) := by decide +kernel
theorem dX7_wages_30 : decode cX7_wages 30 = .ok (.iconst 0, 1) := by decide +kernel
theorem dX7_wages_31 : decode cX7_wages 31 = .ok (.ireturn, 1) := by decide +kernel
theorem dX7_about_0 : decode cX7_about 0 = .ok (.aload_n 0, 1) := by decide +kernel
theorem dX7_about_1 : decode cX7_about 1 = .ok (.iload_n 1, 1) := by decide +kernel
theorem dX7_about_2 : decode cX7_about 2 = .ok (.invokevirtual 120, 3) := by decide +kernel
theorem dX7_about_5 : decode cX7_about 5 = .ok (.ifCond .eq 26, 3) := by decide +kernel
theorem dX7_about_8 : decode cX7_about 8 = .ok (.iload_n 2, 1) := by decide +kernel
theorem dX7_about_9 : decode cX7_about 9 = .ok (.iconst 0, 1) := by decide +kernel
theorem dX7_about_10 : decode cX7_about 10 = .ok (.bipush 7, 2) := by decide +kernel
theorem dX7_about_12 : decode cX7_about 12 = .ok (.invokestatic 94, 3) := by decide +kernel
theorem dX7_about_15 : decode cX7_about 15 = .ok (.ifCond .eq 16, 3) := by decide +kernel
theorem dX7_about_18 : decode cX7_about 18 = .ok (.aload_n 0, 1) := by decide +kernel
theorem dX7_about_19 : decode cX7_about 19 = .ok (.getfield 31, 3) := by decide +kernel
theorem dX7_about_22 : decode cX7_about 22 = .ok (.iload_n 1, 1) := by decide +kernel
theorem dX7_about_23 : decode cX7_about 23 = .ok (.aaload, 1) := by decide +kernel
theorem dX7_about_24 : decode cX7_about 24 = .ok (.iload_n 2, 1) := by decide +kernel
theorem dX7_about_25 : decode cX7_about 25 = .ok (.invokevirtual 191, 3) := by decide +kernel
theorem dX7_about_28 : decode cX7_about 28 = .ok (.goto 4, 3) := by decide +kernel
theorem dX7_about_31 : decode cX7_about 31 = .ok (.iconst (-1), 1) := by decide +kernel
theorem dX7_about_32 : decode cX7_about 32 = .ok (.ireturn, 1) := by decide +kernel
theorem dX7_count_0 : decode cX7_count 0 = .ok (.iload_n 1, 1) := by decide +kernel
theorem dX7_count_1 : decode cX7_count 1 = .ok (.bipush 10, 2) := by decide +kernel
theorem dX7_count_3 : decode cX7_count 3 = .ok (.bipush 13, 2) := by decide +kernel
theorem dX7_count_5 : decode cX7_count 5 = .ok (.invokestatic 94, 3) := by decide +kernel
theorem dX7_count_8 : decode cX7_count 8 = .ok (.ifCond .eq 15, 3) := by decide +kernel
theorem dX7_count_11 : decode cX7_count 11 = .ok (.aload_n 0, 1) := by decide +kernel
theorem dX7_count_12 : decode cX7_count 12 = .ok (.getfield 19, 3) := by decide +kernel
theorem dX7_count_15 : decode cX7_count 15 = .ok (.iload_n 1, 1) := by decide +kernel
theorem dX7_count_16 : decode cX7_count 16 = .ok (.bipush 10, 2) := by decide +kernel
theorem dX7_count_18 : decode cX7_count 18 = .ok (.isub, 1) := by decide +kernel
theorem dX7_count_19 : decode cX7_count 19 = .ok (.invokevirtual 171, 3) := by decide +kernel
theorem dX7_count_22 : decode cX7_count 22 = .ok (.ireturn, 1) := by decide +kernel
theorem dX7_count_23 : decode cX7_count 23 = .ok (.iload_n 1, 1) := by decide +kernel
theorem dX7_count_24 : decode cX7_count 24 = .ok (.bipush 20, 2) := by decide +kernel
theorem dX7_count_26 : decode cX7_count 26 = .ok (.bipush 24, 2) := by decide +kernel
theorem dX7_count_28 : decode cX7_count 28 = .ok (.invokestatic 94, 3) := by decide +kernel
theorem dX7_count_31 : decode cX7_count 31 = .ok (.ifCond .eq 13, 3) := by decide +kernel
theorem dX7_count_34 : decode cX7_count 34 = .ok (.aload_n 0, 1) := by decide +kernel
theorem dX7_count_35 : decode cX7_count 35 = .ok (.getfield 41, 3) := by decide +kernel
theorem dX7_count_38 : decode cX7_count 38 = .ok (.iload_n 1, 1) := by decide +kernel
theorem dX7_count_39 : decode cX7_count 39 = .ok (.bipush 20, 2) := by decide +kernel
theorem dX7_count_41 : decode cX7_count 41 = .ok (.isub, 1) := by decide +kernel
theorem dX7_count_42 : decode cX7_count 42 = .ok (.iaload, 1) := by decide +kernel
theorem dX7_count_43 : decode cX7_count 43 = .ok (.ireturn, 1) := by decide +kernel
theorem dX7_count_44 : decode cX7_count 44 = .ok (.iload_n 1, 1) := by decide +kernel
theorem dX7_count_45 : decode cX7_count 45 = .ok (.bipush 30, 2) := by decide +kernel
theorem dX7_count_47 : decode cX7_count 47 = .ok (.bipush 39, 2) := by decide +kernel
theorem dX7_count_49 : decode cX7_count 49 = .ok (.invokestatic 94, 3) := by decide +kernel
theorem dX7_count_52 : decode cX7_count 52 = .ok (.ifCond .eq 16, 3) := by decide +kernel
theorem dX7_count_55 : decode cX7_count 55 = .ok (.aload_n 0, 1) := by decide +kernel
theorem dX7_count_56 : decode cX7_count 56 = .ok (.getfield 37, 3) := by decide +kernel
theorem dX7_count_59 : decode cX7_count 59 = .ok (.iload_n 1, 1) := by decide +kernel
theorem dX7_count_60 : decode cX7_count 60 = .ok (.bipush 30, 2) := by decide +kernel
theorem dX7_count_62 : decode cX7_count 62 = .ok (.isub, 1) := by decide +kernel
theorem dX7_count_63 : decode cX7_count 63 = .ok (.aaload, 1) := by decide +kernel
theorem dX7_count_64 : decode cX7_count 64 = .ok (.invokevirtual 194, 3) := by decide +kernel
theorem dX7_count_67 : decode cX7_count 67 = .ok (.ireturn, 1) := by decide +kernel
theorem dX7_count_68 : decode cX7_count 68 = .ok (.iload_n 1, 1) := by decide +kernel
theorem dX7_count_69 : decode cX7_count 69 = .ok (.tableswitch 72 0 5 #[39, 44, 49, 54, 59, 64], 39) := by decide +kernel
theorem dX7_count_108 : decode cX7_count 108 = .ok (.aload_n 0, 1) := by decide +kernel
theorem dX7_count_109 : decode cX7_count 109 = .ok (.getfield 62, 3) := by decide +kernel
theorem dX7_count_112 : decode cX7_count 112 = .ok (.ireturn, 1) := by decide +kernel
theorem dX7_count_113 : decode cX7_count 113 = .ok (.aload_n 0, 1) := by decide +kernel
theorem dX7_count_114 : decode cX7_count 114 = .ok (.invokevirtual 197, 3) := by decide +kernel
theorem dX7_count_117 : decode cX7_count 117 = .ok (.ireturn, 1) := by decide +kernel
theorem dX7_count_118 : decode cX7_count 118 = .ok (.aload_n 0, 1) := by decide +kernel
theorem dX7_count_119 : decode cX7_count 119 = .ok (.getfield 55, 3) := by decide +kernel
theorem dX7_count_122 : decode cX7_count 122 = .ok (.ireturn, 1) := by decide +kernel
theorem dX7_count_123 : decode cX7_count 123 = .ok (.aload_n 0, 1) := by decide +kernel
theorem dX7_count_124 : decode cX7_count 124 = .ok (.invokevirtual 200, 3) := by decide +kernel
theorem dX7_count_127 : decode cX7_count 127 = .ok (.ireturn, 1) := by decide +kernel
theorem dX7_count_128 : decode cX7_count 128 = .ok (.aload_n 0, 1) := by decide +kernel
theorem dX7_count_129 : decode cX7_count 129 = .ok (.getfield 59, 3) := by decide +kernel
theorem dX7_count_132 : decode cX7_count 132 = .ok (.ireturn, 1) := by decide +kernel
theorem dX7_count_133 : decode cX7_count 133 = .ok (.aload_n 0, 1) := by decide +kernel
theorem dX7_count_134 : decode cX7_count 134 = .ok (.getfield 10, 3) := by decide +kernel
theorem dX7_count_137 : decode cX7_count 137 = .ok (.invokevirtual 83, 3) := by decide +kernel
theorem dX7_count_140 : decode cX7_count 140 = .ok (.ireturn, 1) := by decide +kernel
theorem dX7_count_141 : decode cX7_count 141 = .ok (.iconst (-1), 1) := by decide +kernel
theorem dX7_count_142 : decode cX7_count 142 = .ok (.ireturn, 1) := by decide +kernel
theorem dX7_within_0 : decode cX7_within 0 = .ok (.iload_n 0, 1) := by decide +kernel
theorem dX7_within_1 : decode cX7_within 1 = .ok (.iload_n 1, 1) := by decide +kernel
theorem dX7_within_2 : decode cX7_within 2 = .ok (.if_icmp .lt 12, 3) := by decide +kernel
theorem dX7_within_5 : decode cX7_within 5 = .ok (.iload_n 0, 1) := by decide +kernel
theorem dX7_within_6 : decode cX7_within 6 = .ok (.iload_n 2, 1) := by decide +kernel
theorem dX7_within_7 : decode cX7_within 7 = .ok (.if_icmp .gt 7, 3) := by decide +kernel
theorem dX7_within_10 : decode cX7_within 10 = .ok (.iconst 1, 1) := by decide +kernel
theorem dX7_within_11 : decode cX7_within 11 = .ok (.goto 4, 3) := by decide +kernel
theorem dX7_within_14 : decode cX7_within 14 = .ok (.iconst 0, 1) := by decide +kernel
theorem dX7_within_15 : decode cX7_within 15 = .ok (.ireturn, 1) := by decide +kernel
theorem dX7_hasBit_0 : decode cX7_hasBit 0 = .ok (.iload_n 0, 1) := by decide +kernel
theorem dX7_hasBit_1 : decode cX7_hasBit 1 = .ok (.iload_n 1, 1) := by decide +kernel
theorem dX7_hasBit_2 : decode cX7_hasBit 2 = .ok (.ishr, 1) := by decide +kernel
theorem dX7_hasBit_3 : decode cX7_hasBit 3 = .ok (.iconst 1, 1) := by decide +kernel
theorem dX7_hasBit_4 : decode cX7_hasBit 4 = .ok (.iand, 1) := by decide +kernel
theorem dX7_hasBit_5 : decode cX7_hasBit 5 = .ok (.iconst 1, 1) := by decide +kernel
theorem dX7_hasBit_6 : decode cX7_hasBit 6 = .ok (.if_icmp .ne 7, 3) := by decide +kernel
theorem dX7_hasBit_9 : decode cX7_hasBit 9 = .ok (.iconst 1, 1) := by decide +kernel
theorem dX7_hasBit_10 : decode cX7_hasBit 10 = .ok (.goto 4, 3) := by decide +kernel
theorem dX7_hasBit_13 : decode cX7_hasBit 13 = .ok (.iconst 0, 1) := by decide +kernel
theorem dX7_hasBit_14 : decode cX7_hasBit 14 = .ok (.ireturn, 1) := by decide +kernel
theorem dX7_isPiper_0 : decode cX7_isPiper 0 = .ok (.iload_n 1, 1) := by decide +kernel
theorem dX7_isPiper_1 : decode cX7_isPiper 1 = .ok (.iconst 0, 1) := by decide +kernel
theorem dX7_isPiper_2 : decode cX7_isPiper 2 = .ok (.aload_n 0, 1) := by decide +kernel
theorem dX7_isPiper_3 : decode cX7_isPiper 3 = .ok (.getfield 55, 3) := by decide +kernel
theorem dX7_isPiper_6 : decode cX7_isPiper 6 = .ok (.iconst 1, 1) := by decide +kernel
theorem dX7_isPiper_7 : decode cX7_isPiper 7 = .ok (.isub, 1) := by decide +kernel
theorem dX7_isPiper_8 : decode cX7_isPiper 8 = .ok (.invokestatic 94, 3) := by decide +kernel
theorem dX7_isPiper_11 : decode cX7_isPiper 11 = .ok (.ireturn, 1) := by decide +kernel
theorem dX7_isCall_0 : decode cX7_isCall 0 = .ok (.iload_n 1, 1) := by decide +kernel
theorem dX7_isCall_1 : decode cX7_isCall 1 = .ok (.iconst 0, 1) := by decide +kernel
theorem dX7_isCall_2 : decode cX7_isCall 2 = .ok (.iconst 5, 1) := by decide +kernel
theorem dX7_isCall_3 : decode cX7_isCall 3 = .ok (.invokestatic 94, 3) := by decide +kernel
theorem dX7_isCall_6 : decode cX7_isCall 6 = .ok (.ifCond .eq 19, 3) := by decide +kernel
theorem dX7_isCall_9 : decode cX7_isCall 9 = .ok (.aload_n 0, 1) := by decide +kernel
theorem dX7_isCall_10 : decode cX7_isCall 10 = .ok (.getfield 31, 3) := by decide +kernel
theorem dX7_isCall_13 : decode cX7_isCall 13 = .ok (.iload_n 1, 1) := by decide +kernel
theorem dX7_isCall_14 : decode cX7_isCall 14 = .ok (.aaload, 1) := by decide +kernel
theorem dX7_isCall_15 : decode cX7_isCall 15 = .ok (.getfield 203, 3) := by decide +kernel
theorem dX7_isCall_18 : decode cX7_isCall 18 = .ok (.ifCond .eq 7, 3) := by decide +kernel
theorem dX7_isCall_21 : decode cX7_isCall 21 = .ok (.iconst 1, 1) := by decide +kernel
theorem dX7_isCall_22 : decode cX7_isCall 22 = .ok (.goto 4, 3) := by decide +kernel
theorem dX7_isCall_25 : decode cX7_isCall 25 = .ok (.iconst 0, 1) := by decide +kernel
theorem dX7_isCall_26 : decode cX7_isCall 26 = .ok (.ireturn, 1) := by decide +kernel
theorem dX7_freeCall_0 : decode cX7_freeCall 0 = .ok (.iconst 0, 1) := by decide +kernel
theorem dX7_freeCall_1 : decode cX7_freeCall 1 = .ok (.istore_n 1, 1) := by decide +kernel
theorem dX7_freeCall_2 : decode cX7_freeCall 2 = .ok (.iload_n 1, 1) := by decide +kernel
theorem dX7_freeCall_3 : decode cX7_freeCall 3 = .ok (.bipush 6, 2) := by decide +kernel
theorem dX7_freeCall_5 : decode cX7_freeCall 5 = .ok (.if_icmp .ge 23, 3) := by decide +kernel
theorem dX7_freeCall_8 : decode cX7_freeCall 8 = .ok (.aload_n 0, 1) := by decide +kernel
theorem dX7_freeCall_9 : decode cX7_freeCall 9 = .ok (.getfield 31, 3) := by decide +kernel
theorem dX7_freeCall_12 : decode cX7_freeCall 12 = .ok (.iload_n 1, 1) := by decide +kernel
theorem dX7_freeCall_13 : decode cX7_freeCall 13 = .ok (.aaload, 1) := by decide +kernel
theorem dX7_freeCall_14 : decode cX7_freeCall 14 = .ok (.getfield 203, 3) := by decide +kernel
theorem dX7_freeCall_17 : decode cX7_freeCall 17 = .ok (.ifCond .ne 5, 3) := by decide +kernel
theorem dX7_freeCall_20 : decode cX7_freeCall 20 = .ok (.iload_n 1, 1) := by decide +kernel
theorem dX7_freeCall_21 : decode cX7_freeCall 21 = .ok (.ireturn, 1) := by decide +kernel
theorem dX7_freeCall_22 : decode cX7_freeCall 22 = .ok (.iinc 1 1, 3) := by decide +kernel
theorem dX7_freeCall_25 : decode cX7_freeCall 25 = .ok (.goto (-23), 3) := by decide +kernel
theorem dX7_freeCall_28 : decode cX7_freeCall 28 = .ok (.iconst (-1), 1) := by decide +kernel
theorem dX7_freeCall_29 : decode cX7_freeCall 29 = .ok (.ireturn, 1) := by decide +kernel
theorem dX7_callCount_0 : decode cX7_callCount 0 = .ok (.iconst 0, 1) := by decide +kernel
theorem dX7_callCount_1 : decode cX7_callCount 1 = .ok (.istore_n 1, 1) := by decide +kernel
theorem dX7_callCount_2 : decode cX7_callCount 2 = .ok (.iconst 0, 1) := by decide +kernel
theorem dX7_callCount_3 : decode cX7_callCount 3 = .ok (.istore_n 2, 1) := by decide +kernel
theorem dX7_callCount_4 : decode cX7_callCount 4 = .ok (.iload_n 2, 1) := by decide +kernel
theorem dX7_callCount_5 : decode cX7_callCount 5 = .ok (.bipush 6, 2) := by decide +kernel
theorem dX7_callCount_7 : decode cX7_callCount 7 = .ok (.if_icmp .ge 24, 3) := by decide +kernel
theorem dX7_callCount_10 : decode cX7_callCount 10 = .ok (.aload_n 0, 1) := by decide +kernel
theorem dX7_callCount_11 : decode cX7_callCount 11 = .ok (.getfield 31, 3) := by decide +kernel
theorem dX7_callCount_14 : decode cX7_callCount 14 = .ok (.iload_n 2, 1) := by decide +kernel
theorem dX7_callCount_15 : decode cX7_callCount 15 = .ok (.aaload, 1) := by decide +kernel
theorem dX7_callCount_16 : decode cX7_callCount 16 = .ok (.getfield 203, 3) := by decide +kernel
theorem dX7_callCount_19 : decode cX7_callCount 19 = .ok (.ifCond .eq 6, 3) := by decide +kernel
theorem dX7_callCount_22 : decode cX7_callCount 22 = .ok (.iinc 1 1, 3) := by decide +kernel
theorem dX7_callCount_25 : decode cX7_callCount 25 = .ok (.iinc 2 1, 3) := by decide +kernel
theorem dX7_callCount_28 : decode cX7_callCount 28 = .ok (.goto (-24), 3) := by decide +kernel
theorem dX7_callCount_31 : decode cX7_callCount 31 = .ok (.iload_n 1, 1) := by decide +kernel
theorem dX7_callCount_32 : decode cX7_callCount 32 = .ok (.ireturn, 1) := by decide +kernel
theorem dX7_monthOfToday_0 : decode cX7_monthOfToday 0 = .ok (.aload_n 0, 1) := by decide +kernel
theorem dX7_monthOfToday_1 : decode cX7_monthOfToday 1 = .ok (.getfield 62, 3) := by decide +kernel
theorem dX7_monthOfToday_4 : decode cX7_monthOfToday 4 = .ok (.bipush 30, 2) := by decide +kernel
theorem dX7_monthOfToday_6 : decode cX7_monthOfToday 6 = .ok (.idiv, 1) := by decide +kernel
theorem dX7_monthOfToday_7 : decode cX7_monthOfToday 7 = .ok (.bipush 12, 2) := by decide +kernel
theorem dX7_monthOfToday_9 : decode cX7_monthOfToday 9 = .ok (.irem, 1) := by decide +kernel
theorem dX7_monthOfToday_10 : decode cX7_monthOfToday 10 = .ok (.ireturn, 1) := by decide +kernel
theorem dX7_planOfToday_0 : decode cX7_planOfToday 0 = .ok (.aload_n 0, 1) := by decide +kernel
theorem dX7_planOfToday_1 : decode cX7_planOfToday 1 = .ok (.getfield 68, 3) := by decide +kernel
theorem dX7_planOfToday_4 : decode cX7_planOfToday 4 = .ok (.ifCond .ne 61, 3) := by decide +kernel
theorem dX7_planOfToday_7 : decode cX7_planOfToday 7 = .ok (.aload_n 0, 1) := by decide +kernel
theorem dX7_planOfToday_8 : decode cX7_planOfToday 8 = .ok (.getfield 51, 3) := by decide +kernel
theorem dX7_planOfToday_11 : decode cX7_planOfToday 11 = .ok (.aload_n 0, 1) := by decide +kernel
theorem dX7_planOfToday_12 : decode cX7_planOfToday 12 = .ok (.getfield 31, 3) := by decide +kernel
theorem dX7_planOfToday_15 : decode cX7_planOfToday 15 = .ok (.aload_n 0, 1) := by decide +kernel
theorem dX7_planOfToday_16 : decode cX7_planOfToday 16 = .ok (.getfield 25, 3) := by decide +kernel
theorem dX7_planOfToday_19 : decode cX7_planOfToday 19 = .ok (.aload_n 0, 1) := by decide +kernel
theorem dX7_planOfToday_20 : decode cX7_planOfToday 20 = .ok (.getfield 41, 3) := by decide +kernel
theorem dX7_planOfToday_23 : decode cX7_planOfToday 23 = .ok (.aload_n 0, 1) := by decide +kernel
theorem dX7_planOfToday_24 : decode cX7_planOfToday 24 = .ok (.getfield 19, 3) := by decide +kernel
theorem dX7_planOfToday_27 : decode cX7_planOfToday 27 = .ok (.iconst 0, 1) := by decide +kernel
theorem dX7_planOfToday_28 : decode cX7_planOfToday 28 = .ok (.invokevirtual 171, 3) := by decide +kernel
theorem dX7_planOfToday_31 : decode cX7_planOfToday 31 = .ok (.invokevirtual 206, 3) := by decide +kernel
theorem dX7_planOfToday_34 : decode cX7_planOfToday 34 = .ok (.aload_n 0, 1) := by decide +kernel
theorem dX7_planOfToday_35 : decode cX7_planOfToday 35 = .ok (.getfield 51, 3) := by decide +kernel
theorem dX7_planOfToday_38 : decode cX7_planOfToday 38 = .ok (.aload_n 0, 1) := by decide +kernel
theorem dX7_planOfToday_39 : decode cX7_planOfToday 39 = .ok (.getfield 31, 3) := by decide +kernel
theorem dX7_planOfToday_42 : decode cX7_planOfToday 42 = .ok (.aload_n 0, 1) := by decide +kernel
theorem dX7_planOfToday_43 : decode cX7_planOfToday 43 = .ok (.getfield 37, 3) := by decide +kernel
theorem dX7_planOfToday_46 : decode cX7_planOfToday 46 = .ok (.aload_n 0, 1) := by decide +kernel
theorem dX7_planOfToday_47 : decode cX7_planOfToday 47 = .ok (.invokevirtual 197, 3) := by decide +kernel
theorem dX7_planOfToday_50 : decode cX7_planOfToday 50 = .ok (.aload_n 0, 1) := by decide +kernel
theorem dX7_planOfToday_51 : decode cX7_planOfToday 51 = .ok (.getfield 62, 3) := by decide +kernel
theorem dX7_planOfToday_54 : decode cX7_planOfToday 54 = .ok (.bipush 6, 2) := by decide +kernel
theorem dX7_planOfToday_56 : decode cX7_planOfToday 56 = .ok (.imul, 1) := by decide +kernel
theorem dX7_planOfToday_57 : decode cX7_planOfToday 57 = .ok (.invokevirtual 210, 3) := by decide +kernel
theorem dX7_planOfToday_60 : decode cX7_planOfToday 60 = .ok (.aload_n 0, 1) := by decide +kernel
theorem dX7_planOfToday_61 : decode cX7_planOfToday 61 = .ok (.iconst 1, 1) := by decide +kernel
theorem dX7_planOfToday_62 : decode cX7_planOfToday 62 = .ok (.putfield 68, 3) := by decide +kernel
theorem dX7_planOfToday_65 : decode cX7_planOfToday 65 = .ok (.aload_n 0, 1) := by decide +kernel
theorem dX7_planOfToday_66 : decode cX7_planOfToday 66 = .ok (.getfield 51, 3) := by decide +kernel
theorem dX7_planOfToday_69 : decode cX7_planOfToday 69 = .ok (.areturn, 1) := by decide +kernel
theorem dX7_fundShare_0 : decode cX7_fundShare 0 = .ok (.aload_n 0, 1) := by decide +kernel
theorem dX7_fundShare_1 : decode cX7_fundShare 1 = .ok (.getfield 31, 3) := by decide +kernel
theorem dX7_fundShare_4 : decode cX7_fundShare 4 = .ok (.iload_n 1, 1) := by decide +kernel
theorem dX7_fundShare_5 : decode cX7_fundShare 5 = .ok (.aaload, 1) := by decide +kernel
theorem dX7_fundShare_6 : decode cX7_fundShare 6 = .ok (.bipush 7, 2) := by decide +kernel
theorem dX7_fundShare_8 : decode cX7_fundShare 8 = .ok (.invokevirtual 191, 3) := by decide +kernel
theorem dX7_fundShare_11 : decode cX7_fundShare 11 = .ok (.aload_n 0, 1) := by decide +kernel
theorem dX7_fundShare_12 : decode cX7_fundShare 12 = .ok (.getfield 19, 3) := by decide +kernel
theorem dX7_fundShare_15 : decode cX7_fundShare 15 = .ok (.iconst 1, 1) := by decide +kernel
theorem dX7_fundShare_16 : decode cX7_fundShare 16 = .ok (.invokevirtual 171, 3) := by decide +kernel
theorem dX7_fundShare_19 : decode cX7_fundShare 19 = .ok (.imul, 1) := by decide +kernel
theorem dX7_fundShare_20 : decode cX7_fundShare 20 = .ok (.bipush 100, 2) := by decide +kernel
theorem dX7_fundShare_22 : decode cX7_fundShare 22 = .ok (.idiv, 1) := by decide +kernel
theorem dX7_fundShare_23 : decode cX7_fundShare 23 = .ok (.ireturn, 1) := by decide +kernel
theorem dX7_piperShare_0 : decode cX7_piperShare 0 = .ok (.aload_n 1, 1) := by decide +kernel
theorem dX7_piperShare_1 : decode cX7_piperShare 1 = .ok (.iload_n 2, 1) := by decide +kernel
theorem dX7_piperShare_2 : decode cX7_piperShare 2 = .ok (.iconst 0, 1) := by decide +kernel
theorem dX7_piperShare_3 : decode cX7_piperShare 3 = .ok (.invokevirtual 133, 3) := by decide +kernel
theorem dX7_piperShare_6 : decode cX7_piperShare 6 = .ok (.istore 4, 2) := by decide +kernel
theorem dX7_piperShare_8 : decode cX7_piperShare 8 = .ok (.aload_n 1, 1) := by decide +kernel
theorem dX7_piperShare_9 : decode cX7_piperShare 9 = .ok (.iload_n 2, 1) := by decide +kernel
theorem dX7_piperShare_10 : decode cX7_piperShare 10 = .ok (.iconst 1, 1) := by decide +kernel
theorem dX7_piperShare_11 : decode cX7_piperShare 11 = .ok (.invokevirtual 133, 3) := by decide +kernel
theorem dX7_piperShare_14 : decode cX7_piperShare 14 = .ok (.istore 5, 2) := by decide +kernel
theorem dX7_piperShare_16 : decode cX7_piperShare 16 = .ok (.aload_n 0, 1) := by decide +kernel
theorem dX7_piperShare_17 : decode cX7_piperShare 17 = .ok (.getfield 31, 3) := by decide +kernel
theorem dX7_piperShare_20 : decode cX7_piperShare 20 = .ok (.iload_n 2, 1) := by decide +kernel
theorem dX7_piperShare_21 : decode cX7_piperShare 21 = .ok (.aaload, 1) := by decide +kernel
theorem dX7_piperShare_22 : decode cX7_piperShare 22 = .ok (.bipush 7, 2) := by decide +kernel
theorem dX7_piperShare_24 : decode cX7_piperShare 24 = .ok (.invokevirtual 191, 3) := by decide +kernel
theorem dX7_piperShare_27 : decode cX7_piperShare 27 = .ok (.aload_n 0, 1) := by decide +kernel
theorem dX7_piperShare_28 : decode cX7_piperShare 28 = .ok (.iload_n 2, 1) := by decide +kernel
theorem dX7_piperShare_29 : decode cX7_piperShare 29 = .ok (.invokevirtual 147, 3) := by decide +kernel
theorem dX7_piperShare_32 : decode cX7_piperShare 32 = .ok (.isub, 1) := by decide +kernel
theorem dX7_piperShare_33 : decode cX7_piperShare 33 = .ok (.istore 6, 2) := by decide +kernel
theorem dX7_piperShare_35 : decode cX7_piperShare 35 = .ok (.iload_n 3, 1) := by decide +kernel
theorem dX7_piperShare_36 : decode cX7_piperShare 36 = .ok (.iload 4, 2) := by decide +kernel
theorem dX7_piperShare_38 : decode cX7_piperShare 38 = .ok (.if_icmp .ne 24, 3) := by decide +kernel
theorem dX7_piperShare_41 : decode cX7_piperShare 41 = .ok (.iload 5, 2) := by decide +kernel
theorem dX7_piperShare_43 : decode cX7_piperShare 43 = .ok (.iconst (-1), 1) := by decide +kernel
theorem dX7_piperShare_44 : decode cX7_piperShare 44 = .ok (.if_icmp .ne 8, 3) := by decide +kernel
theorem dX7_piperShare_47 : decode cX7_piperShare 47 = .ok (.iload 6, 2) := by decide +kernel
theorem dX7_piperShare_49 : decode cX7_piperShare 49 = .ok (.goto 12, 3) := by decide +kernel
theorem dX7_piperShare_52 : decode cX7_piperShare 52 = .ok (.aload_n 0, 1) := by decide +kernel
theorem dX7_piperShare_53 : decode cX7_piperShare 53 = .ok (.iload 6, 2) := by decide +kernel
theorem dX7_piperShare_55 : decode cX7_piperShare 55 = .ok (.iload_n 3, 1) := by decide +kernel
theorem dX7_piperShare_56 : decode cX7_piperShare 56 = .ok (.iload 5, 2) := by decide +kernel
theorem dX7_piperShare_58 : decode cX7_piperShare 58 = .ok (.invokevirtual 214, 3) := by decide +kernel
theorem dX7_piperShare_61 : decode cX7_piperShare 61 = .ok (.ireturn, 1) := by decide +kernel
theorem dX7_piperShare_62 : decode cX7_piperShare 62 = .ok (.iload_n 3, 1) := by decide +kernel
theorem dX7_piperShare_63 : decode cX7_piperShare 63 = .ok (.iload 5, 2) := by decide +kernel
theorem dX7_piperShare_65 : decode cX7_piperShare 65 = .ok (.if_icmp .ne 15, 3) := by decide +kernel
theorem dX7_piperShare_68 : decode cX7_piperShare 68 = .ok (.aload_n 0, 1) := by decide +kernel
theorem dX7_piperShare_69 : decode cX7_piperShare 69 = .ok (.iload 6, 2) := by decide +kernel
theorem dX7_piperShare_71 : decode cX7_piperShare 71 = .ok (.iload_n 3, 1) := by decide +kernel
theorem dX7_piperShare_72 : decode cX7_piperShare 72 = .ok (.iload 4, 2) := by decide +kernel
theorem dX7_piperShare_74 : decode cX7_piperShare 74 = .ok (.invokevirtual 214, 3) := by decide +kernel
theorem dX7_piperShare_77 : decode cX7_piperShare 77 = .ok (.goto 4, 3) := by decide +kernel
theorem dX7_piperShare_80 : decode cX7_piperShare 80 = .ok (.iconst 0, 1) := by decide +kernel
theorem dX7_piperShare_81 : decode cX7_piperShare 81 = .ok (.ireturn, 1) := by decide +kernel
theorem dX7_partOfTwo_0 : decode cX7_partOfTwo 0 = .ok (.aload_n 0, 1) := by decide +kernel
theorem dX7_partOfTwo_1 : decode cX7_partOfTwo 1 = .ok (.iload_n 2, 1) := by decide +kernel
theorem dX7_partOfTwo_2 : decode cX7_partOfTwo 2 = .ok (.invokevirtual 102, 3) := by decide +kernel
theorem dX7_partOfTwo_5 : decode cX7_partOfTwo 5 = .ok (.ifCond .eq 11, 3) := by decide +kernel
theorem dX7_partOfTwo_8 : decode cX7_partOfTwo 8 = .ok (.aload_n 0, 1) := by decide +kernel
theorem dX7_partOfTwo_9 : decode cX7_partOfTwo 9 = .ok (.iload_n 3, 1) := by decide +kernel
theorem dX7_partOfTwo_10 : decode cX7_partOfTwo 10 = .ok (.invokevirtual 102, 3) := by decide +kernel
theorem dX7_partOfTwo_13 : decode cX7_partOfTwo 13 = .ok (.ifCond .ne 5, 3) := by decide +kernel
theorem dX7_partOfTwo_16 : decode cX7_partOfTwo 16 = .ok (.iconst 0, 1) := by decide +kernel
theorem dX7_partOfTwo_17 : decode cX7_partOfTwo 17 = .ok (.ireturn, 1) := by decide +kernel
theorem dX7_partOfTwo_18 : decode cX7_partOfTwo 18 = .ok (.iconst 1, 1) := by decide +kernel
theorem dX7_partOfTwo_19 : decode cX7_partOfTwo 19 = .ok (.aload_n 0, 1) := by decide +kernel
theorem dX7_partOfTwo_20 : decode cX7_partOfTwo 20 = .ok (.getfield 25, 3) := by decide +kernel
theorem dX7_partOfTwo_23 : decode cX7_partOfTwo 23 = .ok (.iload_n 2, 1) := by decide +kernel
theorem dX7_partOfTwo_24 : decode cX7_partOfTwo 24 = .ok (.aaload, 1) := by decide +kernel
theorem dX7_partOfTwo_25 : decode cX7_partOfTwo 25 = .ok (.getfield 179, 3) := by decide +kernel
theorem dX7_partOfTwo_28 : decode cX7_partOfTwo 28 = .ok (.aload_n 0, 1) := by decide +kernel
theorem dX7_partOfTwo_29 : decode cX7_partOfTwo 29 = .ok (.getfield 25, 3) := by decide +kernel
theorem dX7_partOfTwo_32 : decode cX7_partOfTwo 32 = .ok (.iload_n 3, 1) := by decide +kernel
theorem dX7_partOfTwo_33 : decode cX7_partOfTwo 33 = .ok (.aaload, 1) := by decide +kernel
theorem dX7_partOfTwo_34 : decode cX7_partOfTwo 34 = .ok (.getfield 179, 3) := by decide +kernel
theorem dX7_partOfTwo_37 : decode cX7_partOfTwo 37 = .ok (.iadd, 1) := by decide +kernel
theorem dX7_partOfTwo_38 : decode cX7_partOfTwo 38 = .ok (.invokestatic 218, 3) := by decide +kernel
theorem dX7_partOfTwo_41 : decode cX7_partOfTwo 41 = .ok (.istore 4, 2) := by decide +kernel
theorem dX7_partOfTwo_43 : decode cX7_partOfTwo 43 = .ok (.iload_n 1, 1) := by decide +kernel
theorem dX7_partOfTwo_44 : decode cX7_partOfTwo 44 = .ok (.aload_n 0, 1) := by decide +kernel
theorem dX7_partOfTwo_45 : decode cX7_partOfTwo 45 = .ok (.getfield 25, 3) := by decide +kernel
theorem dX7_partOfTwo_48 : decode cX7_partOfTwo 48 = .ok (.iload_n 2, 1) := by decide +kernel
theorem dX7_partOfTwo_49 : decode cX7_partOfTwo 49 = .ok (.aaload, 1) := by decide +kernel
theorem dX7_partOfTwo_50 : decode cX7_partOfTwo 50 = .ok (.getfield 179, 3) := by decide +kernel
theorem dX7_partOfTwo_53 : decode cX7_partOfTwo 53 = .ok (.imul, 1) := by decide +kernel
theorem dX7_partOfTwo_54 : decode cX7_partOfTwo 54 = .ok (.istore 5, 2) := by decide +kernel
theorem dX7_partOfTwo_56 : decode cX7_partOfTwo 56 = .ok (.iload_n 1, 1) := by decide +kernel
theorem dX7_partOfTwo_57 : decode cX7_partOfTwo 57 = .ok (.aload_n 0, 1) := by decide +kernel
theorem dX7_partOfTwo_58 : decode cX7_partOfTwo 58 = .ok (.getfield 25, 3) := by decide +kernel
theorem dX7_partOfTwo_61 : decode cX7_partOfTwo 61 = .ok (.iload_n 3, 1) := by decide +kernel
theorem dX7_partOfTwo_62 : decode cX7_partOfTwo 62 = .ok (.aaload, 1) := by decide +kernel
theorem dX7_partOfTwo_63 : decode cX7_partOfTwo 63 = .ok (.getfield 179, 3) := by decide +kernel
theorem dX7_partOfTwo_66 : decode cX7_partOfTwo 66 = .ok (.imul, 1) := by decide +kernel
theorem dX7_partOfTwo_67 : decode cX7_partOfTwo 67 = .ok (.istore 6, 2) := by decide +kernel
theorem dX7_partOfTwo_69 : decode cX7_partOfTwo 69 = .ok (.iload_n 1, 1) := by decide +kernel
theorem dX7_partOfTwo_70 : decode cX7_partOfTwo 70 = .ok (.iload 5, 2) := by decide +kernel
theorem dX7_partOfTwo_72 : decode cX7_partOfTwo 72 = .ok (.iload 4, 2) := by decide +kernel
theorem dX7_partOfTwo_74 : decode cX7_partOfTwo 74 = .ok (.idiv, 1) := by decide +kernel
theorem dX7_partOfTwo_75 : decode cX7_partOfTwo 75 = .ok (.isub, 1) := by decide +kernel
theorem dX7_partOfTwo_76 : decode cX7_partOfTwo 76 = .ok (.iload 6, 2) := by decide +kernel
theorem dX7_partOfTwo_78 : decode cX7_partOfTwo 78 = .ok (.iload 4, 2) := by decide +kernel
theorem dX7_partOfTwo_80 : decode cX7_partOfTwo 80 = .ok (.idiv, 1) := by decide +kernel
theorem dX7_partOfTwo_81 : decode cX7_partOfTwo 81 = .ok (.isub, 1) := by decide +kernel
theorem dX7_partOfTwo_82 : decode cX7_partOfTwo 82 = .ok (.istore 7, 2) := by decide +kernel
theorem dX7_partOfTwo_84 : decode cX7_partOfTwo 84 = .ok (.iload 5, 2) := by decide +kernel
theorem dX7_partOfTwo_86 : decode cX7_partOfTwo 86 = .ok (.iload 4, 2) := by decide +kernel
theorem dX7_partOfTwo_88 : decode cX7_partOfTwo 88 = .ok (.irem, 1) := by decide +kernel
theorem dX7_partOfTwo_89 : decode cX7_partOfTwo 89 = .ok (.iload 6, 2) := by decide +kernel
theorem dX7_partOfTwo_91 : decode cX7_partOfTwo 91 = .ok (.iload 4, 2) := by decide +kernel
theorem dX7_partOfTwo_93 : decode cX7_partOfTwo 93 = .ok (.irem, 1) := by decide +kernel
theorem dX7_partOfTwo_94 : decode cX7_partOfTwo 94 = .ok (.if_icmp .gt 21, 3) := by decide +kernel
theorem dX7_partOfTwo_97 : decode cX7_partOfTwo 97 = .ok (.iload 5, 2) := by decide +kernel
theorem dX7_partOfTwo_99 : decode cX7_partOfTwo 99 = .ok (.iload 4, 2) := by decide +kernel
theorem dX7_partOfTwo_101 : decode cX7_partOfTwo 101 = .ok (.irem, 1) := by decide +kernel
theorem dX7_partOfTwo_102 : decode cX7_partOfTwo 102 = .ok (.iload 6, 2) := by decide +kernel
theorem dX7_partOfTwo_104 : decode cX7_partOfTwo 104 = .ok (.iload 4, 2) := by decide +kernel
theorem dX7_partOfTwo_106 : decode cX7_partOfTwo 106 = .ok (.irem, 1) := by decide +kernel
theorem dX7_partOfTwo_107 : decode cX7_partOfTwo 107 = .ok (.if_icmp .ne 12, 3) := by decide +kernel
theorem dX7_partOfTwo_110 : decode cX7_partOfTwo 110 = .ok (.iload_n 2, 1) := by decide +kernel
theorem dX7_partOfTwo_111 : decode cX7_partOfTwo 111 = .ok (.iload_n 3, 1) := by decide +kernel
theorem dX7_partOfTwo_112 : decode cX7_partOfTwo 112 = .ok (.if_icmp .ge 7, 3) := by decide +kernel
theorem dX7_partOfTwo_115 : decode cX7_partOfTwo 115 = .ok (.iconst 1, 1) := by decide +kernel
theorem dX7_partOfTwo_116 : decode cX7_partOfTwo 116 = .ok (.goto 4, 3) := by decide +kernel
theorem dX7_partOfTwo_119 : decode cX7_partOfTwo 119 = .ok (.iconst 0, 1) := by decide +kernel
theorem dX7_partOfTwo_120 : decode cX7_partOfTwo 120 = .ok (.istore 8, 2) := by decide +kernel
theorem dX7_partOfTwo_122 : decode cX7_partOfTwo 122 = .ok (.iload 5, 2) := by decide +kernel
theorem dX7_partOfTwo_124 : decode cX7_partOfTwo 124 = .ok (.iload 4, 2) := by decide +kernel
theorem dX7_partOfTwo_126 : decode cX7_partOfTwo 126 = .ok (.idiv, 1) := by decide +kernel
theorem dX7_partOfTwo_127 : decode cX7_partOfTwo 127 = .ok (.iload 8, 2) := by decide +kernel
theorem dX7_partOfTwo_129 : decode cX7_partOfTwo 129 = .ok (.ifCond .eq 8, 3) := by decide +kernel
theorem dX7_partOfTwo_132 : decode cX7_partOfTwo 132 = .ok (.iload 7, 2) := by decide +kernel
theorem dX7_partOfTwo_134 : decode cX7_partOfTwo 134 = .ok (.goto 4, 3) := by decide +kernel
theorem dX7_partOfTwo_137 : decode cX7_partOfTwo 137 = .ok (.iconst 0, 1) := by decide +kernel
theorem dX7_partOfTwo_138 : decode cX7_partOfTwo 138 = .ok (.iadd, 1) := by decide +kernel
theorem dX7_partOfTwo_139 : decode cX7_partOfTwo 139 = .ok (.ireturn, 1) := by decide +kernel
theorem dX7_settle_0 : decode cX7_settle 0 = .ok (.iconst 0, 1) := by decide +kernel
theorem dX7_settle_1 : decode cX7_settle 1 = .ok (.istore_n 3, 1) := by decide +kernel
theorem dX7_settle_2 : decode cX7_settle 2 = .ok (.iload_n 3, 1) := by decide +kernel
theorem dX7_settle_3 : decode cX7_settle 3 = .ok (.aload_n 0, 1) := by decide +kernel
theorem dX7_settle_4 : decode cX7_settle 4 = .ok (.getfield 55, 3) := by decide +kernel
theorem dX7_settle_7 : decode cX7_settle 7 = .ok (.if_icmp .ge 30, 3) := by decide +kernel
theorem dX7_settle_10 : decode cX7_settle 10 = .ok (.aload_n 0, 1) := by decide +kernel
theorem dX7_settle_11 : decode cX7_settle 11 = .ok (.getfield 25, 3) := by decide +kernel
theorem dX7_settle_14 : decode cX7_settle 14 = .ok (.iload_n 3, 1) := by decide +kernel
theorem dX7_settle_15 : decode cX7_settle 15 = .ok (.aaload, 1) := by decide +kernel
theorem dX7_settle_16 : decode cX7_settle 16 = .ok (.dup, 1) := by decide +kernel
theorem dX7_settle_17 : decode cX7_settle 17 = .ok (.getfield 188, 3) := by decide +kernel
theorem dX7_settle_20 : decode cX7_settle 20 = .ok (.aload_n 0, 1) := by decide +kernel
theorem dX7_settle_21 : decode cX7_settle 21 = .ok (.aload_n 1, 1) := by decide +kernel
theorem dX7_settle_22 : decode cX7_settle 22 = .ok (.iload_n 2, 1) := by decide +kernel
theorem dX7_settle_23 : decode cX7_settle 23 = .ok (.iload_n 3, 1) := by decide +kernel
theorem dX7_settle_24 : decode cX7_settle 24 = .ok (.invokevirtual 150, 3) := by decide +kernel
theorem dX7_settle_27 : decode cX7_settle 27 = .ok (.iadd, 1) := by decide +kernel
theorem dX7_settle_28 : decode cX7_settle 28 = .ok (.putfield 188, 3) := by decide +kernel
theorem dX7_settle_31 : decode cX7_settle 31 = .ok (.iinc 3 1, 3) := by decide +kernel
theorem dX7_settle_34 : decode cX7_settle 34 = .ok (.goto (-32), 3) := by decide +kernel
theorem dX7_settle_37 : decode cX7_settle 37 = .ok (.aload_n 0, 1) := by decide +kernel
theorem dX7_settle_38 : decode cX7_settle 38 = .ok (.dup, 1) := by decide +kernel
theorem dX7_settle_39 : decode cX7_settle 39 = .ok (.getfield 65, 3) := by decide +kernel
theorem dX7_settle_42 : decode cX7_settle 42 = .ok (.aload_n 0, 1) := by decide +kernel
theorem dX7_settle_43 : decode cX7_settle 43 = .ok (.iload_n 2, 1) := by decide +kernel
theorem dX7_settle_44 : decode cX7_settle 44 = .ok (.invokevirtual 147, 3) := by decide +kernel
theorem dX7_settle_47 : decode cX7_settle 47 = .ok (.iadd, 1) := by decide +kernel
theorem dX7_settle_48 : decode cX7_settle 48 = .ok (.putfield 65, 3) := by decide +kernel
theorem dX7_settle_51 : decode cX7_settle 51 = .ok (.return_, 1) := by decide +kernel
theorem dX7_fineTheWell_0 : decode cX7_fineTheWell 0 = .ok (.aload_n 0, 1) := by decide +kernel
theorem dX7_fineTheWell_1 : decode cX7_fineTheWell 1 = .ok (.getfield 19, 3) := by decide +kernel
theorem dX7_fineTheWell_4 : decode cX7_fineTheWell 4 = .ok (.iconst 3, 1) := by decide +kernel
theorem dX7_fineTheWell_5 : decode cX7_fineTheWell 5 = .ok (.invokevirtual 171, 3) := by decide +kernel
theorem dX7_fineTheWell_8 : decode cX7_fineTheWell 8 = .ok (.istore_n 1, 1) := by decide +kernel
theorem dX7_fineTheWell_9 : decode cX7_fineTheWell 9 = .ok (.iconst 0, 1) := by decide +kernel
theorem dX7_fineTheWell_10 : decode cX7_fineTheWell 10 = .ok (.istore_n 2, 1) := by decide +kernel
theorem dX7_fineTheWell_11 : decode cX7_fineTheWell 11 = .ok (.iload_n 2, 1) := by decide +kernel
theorem dX7_fineTheWell_12 : decode cX7_fineTheWell 12 = .ok (.aload_n 0, 1) := by decide +kernel
theorem dX7_fineTheWell_13 : decode cX7_fineTheWell 13 = .ok (.getfield 55, 3) := by decide +kernel
theorem dX7_fineTheWell_16 : decode cX7_fineTheWell 16 = .ok (.if_icmp .ge 46, 3) := by decide +kernel
