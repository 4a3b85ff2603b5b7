theorem dX7_fineTheWell_19 : decode cX7_fineTheWell 19 = .ok (.aload_n 0, 1) := by decide +kernel
theorem dX7_fineTheWell_20 : decode cX7_fineTheWell 20 = .ok (.getfield 25, 3) := by decide +kernel
theorem dX7_fineTheWell_23 : decode cX7_fineTheWell 23 = .ok (.iload_n 2, 1) := by decide +kernel
theorem dX7_fineTheWell_24 : decode cX7_fineTheWell 24 = .ok (.aaload, 1) := by decide +kernel
theorem dX7_fineTheWell_25 : decode cX7_fineTheWell 25 = .ok (.getfield 106, 3) := by decide +kernel
theorem dX7_fineTheWell_28 : decode cX7_fineTheWell 28 = .ok (.ifCond .ne 28, 3) := by decide +kernel
theorem dX7_fineTheWell_31 : decode cX7_fineTheWell 31 = .ok (.aload_n 0, 1) := by decide +kernel
theorem dX7_fineTheWell_32 : decode cX7_fineTheWell 32 = .ok (.getfield 25, 3) := by decide +kernel
theorem dX7_fineTheWell_35 : decode cX7_fineTheWell 35 = .ok (.iload_n 2, 1) := by decide +kernel
theorem dX7_fineTheWell_36 : decode cX7_fineTheWell 36 = .ok (.aaload, 1) := by decide +kernel
theorem dX7_fineTheWell_37 : decode cX7_fineTheWell 37 = .ok (.dup, 1) := by decide +kernel
theorem dX7_fineTheWell_38 : decode cX7_fineTheWell 38 = .ok (.getfield 188, 3) := by decide +kernel
theorem dX7_fineTheWell_41 : decode cX7_fineTheWell 41 = .ok (.iload_n 1, 1) := by decide +kernel
theorem dX7_fineTheWell_42 : decode cX7_fineTheWell 42 = .ok (.isub, 1) := by decide +kernel
theorem dX7_fineTheWell_43 : decode cX7_fineTheWell 43 = .ok (.putfield 188, 3) := by decide +kernel
theorem dX7_fineTheWell_46 : decode cX7_fineTheWell 46 = .ok (.aload_n 0, 1) := by decide +kernel
theorem dX7_fineTheWell_47 : decode cX7_fineTheWell 47 = .ok (.dup, 1) := by decide +kernel
theorem dX7_fineTheWell_48 : decode cX7_fineTheWell 48 = .ok (.getfield 65, 3) := by decide +kernel
theorem dX7_fineTheWell_51 : decode cX7_fineTheWell 51 = .ok (.iload_n 1, 1) := by decide +kernel
theorem dX7_fineTheWell_52 : decode cX7_fineTheWell 52 = .ok (.iadd, 1) := by decide +kernel
theorem dX7_fineTheWell_53 : decode cX7_fineTheWell 53 = .ok (.putfield 65, 3) := by decide +kernel
theorem dX7_fineTheWell_56 : decode cX7_fineTheWell 56 = .ok (.iinc 2 1, 3) := by decide +kernel
theorem dX7_fineTheWell_59 : decode cX7_fineTheWell 59 = .ok (.goto (-48), 3) := by decide +kernel
theorem dX7_fineTheWell_62 : decode cX7_fineTheWell 62 = .ok (.return_, 1) := by decide +kernel
theorem dX7_payTheOld_0 : decode cX7_payTheOld 0 = .ok (.iconst 0, 1) := by decide +kernel
theorem dX7_payTheOld_1 : decode cX7_payTheOld 1 = .ok (.istore_n 1, 1) := by decide +kernel
theorem dX7_payTheOld_2 : decode cX7_payTheOld 2 = .ok (.iload_n 1, 1) := by decide +kernel
theorem dX7_payTheOld_3 : decode cX7_payTheOld 3 = .ok (.aload_n 0, 1) := by decide +kernel
theorem dX7_payTheOld_4 : decode cX7_payTheOld 4 = .ok (.getfield 55, 3) := by decide +kernel
theorem dX7_payTheOld_7 : decode cX7_payTheOld 7 = .ok (.if_icmp .ge 63, 3) := by decide +kernel
theorem dX7_payTheOld_10 : decode cX7_payTheOld 10 = .ok (.aload_n 0, 1) := by decide +kernel
theorem dX7_payTheOld_11 : decode cX7_payTheOld 11 = .ok (.getfield 25, 3) := by decide +kernel
theorem dX7_payTheOld_14 : decode cX7_payTheOld 14 = .ok (.iload_n 1, 1) := by decide +kernel
theorem dX7_payTheOld_15 : decode cX7_payTheOld 15 = .ok (.aaload, 1) := by decide +kernel
theorem dX7_payTheOld_16 : decode cX7_payTheOld 16 = .ok (.getfield 106, 3) := by decide +kernel
theorem dX7_payTheOld_19 : decode cX7_payTheOld 19 = .ok (.iconst 2, 1) := by decide +kernel
theorem dX7_payTheOld_20 : decode cX7_payTheOld 20 = .ok (.if_icmp .ne 44, 3) := by decide +kernel
theorem dX7_payTheOld_23 : decode cX7_payTheOld 23 = .ok (.aload_n 0, 1) := by decide +kernel
theorem dX7_payTheOld_24 : decode cX7_payTheOld 24 = .ok (.getfield 65, 3) := by decide +kernel
theorem dX7_payTheOld_27 : decode cX7_payTheOld 27 = .ok (.aload_n 0, 1) := by decide +kernel
theorem dX7_payTheOld_28 : decode cX7_payTheOld 28 = .ok (.getfield 19, 3) := by decide +kernel
theorem dX7_payTheOld_31 : decode cX7_payTheOld 31 = .ok (.iconst 2, 1) := by decide +kernel
theorem dX7_payTheOld_32 : decode cX7_payTheOld 32 = .ok (.invokevirtual 171, 3) := by decide +kernel
theorem dX7_payTheOld_35 : decode cX7_payTheOld 35 = .ok (.invokestatic 174, 3) := by decide +kernel
theorem dX7_payTheOld_38 : decode cX7_payTheOld 38 = .ok (.istore_n 2, 1) := by decide +kernel
theorem dX7_payTheOld_39 : decode cX7_payTheOld 39 = .ok (.aload_n 0, 1) := by decide +kernel
theorem dX7_payTheOld_40 : decode cX7_payTheOld 40 = .ok (.getfield 25, 3) := by decide +kernel
theorem dX7_payTheOld_43 : decode cX7_payTheOld 43 = .ok (.iload_n 1, 1) := by decide +kernel
theorem dX7_payTheOld_44 : decode cX7_payTheOld 44 = .ok (.aaload, 1) := by decide +kernel
theorem dX7_payTheOld_45 : decode cX7_payTheOld 45 = .ok (.dup, 1) := by decide +kernel
theorem dX7_payTheOld_46 : decode cX7_payTheOld 46 = .ok (.getfield 188, 3) := by decide +kernel
theorem dX7_payTheOld_49 : decode cX7_payTheOld 49 = .ok (.iload_n 2, 1) := by decide +kernel
theorem dX7_payTheOld_50 : decode cX7_payTheOld 50 = .ok (.iadd, 1) := by decide +kernel
theorem dX7_payTheOld_51 : decode cX7_payTheOld 51 = .ok (.putfield 188, 3) := by decide +kernel
theorem dX7_payTheOld_54 : decode cX7_payTheOld 54 = .ok (.aload_n 0, 1) := by decide +kernel
theorem dX7_payTheOld_55 : decode cX7_payTheOld 55 = .ok (.dup, 1) := by decide +kernel
theorem dX7_payTheOld_56 : decode cX7_payTheOld 56 = .ok (.getfield 65, 3) := by decide +kernel
theorem dX7_payTheOld_59 : decode cX7_payTheOld 59 = .ok (.iload_n 2, 1) := by decide +kernel
theorem dX7_payTheOld_60 : decode cX7_payTheOld 60 = .ok (.isub, 1) := by decide +kernel
theorem dX7_payTheOld_61 : decode cX7_payTheOld 61 = .ok (.putfield 65, 3) := by decide +kernel
theorem dX7_payTheOld_64 : decode cX7_payTheOld 64 = .ok (.iinc 1 1, 3) := by decide +kernel
theorem dX7_payTheOld_67 : decode cX7_payTheOld 67 = .ok (.goto (-65), 3) := by decide +kernel
theorem dX7_payTheOld_70 : decode cX7_payTheOld 70 = .ok (.return_, 1) := by decide +kernel
theorem dX8_init_0 : decode cX8_init 0 = .ok (.aload_n 0, 1) := by decide +kernel
theorem dX8_init_1 : decode cX8_init 1 = .ok (.invokespecial 1, 3) := by decide +kernel
theorem dX8_init_4 : decode cX8_init 4 = .ok (.aload_n 0, 1) := by decide +kernel
theorem dX8_init_5 : decode cX8_init 5 = .ok (.bipush 40, 2) := by decide +kernel
theorem dX8_init_7 : decode cX8_init 7 = .ok (.newarray .byte, 2) := by decide +kernel
theorem dX8_init_9 : decode cX8_init 9 = .ok (.putfield 7, 3) := by decide +kernel
theorem dX8_init_12 : decode cX8_init 12 = .ok (.aload_n 0, 1) := by decide +kernel
theorem dX8_init_13 : decode cX8_init 13 = .ok (.iconst 4, 1) := by decide +kernel
theorem dX8_init_14 : decode cX8_init 14 = .ok (.newarray .int, 2) := by decide +kernel
theorem dX8_init_16 : decode cX8_init 16 = .ok (.putfield 13, 3) := by decide +kernel
theorem dX8_init_19 : decode cX8_init 19 = .ok (.aload_n 0, 1) := by decide +kernel
theorem dX8_init_20 : decode cX8_init 20 = .ok (.iconst 4, 1) := by decide +kernel
theorem dX8_init_21 : decode cX8_init 21 = .ok (.newarray .int, 2) := by decide +kernel
theorem dX8_init_23 : decode cX8_init 23 = .ok (.putfield 17, 3) := by decide +kernel
theorem dX8_init_26 : decode cX8_init 26 = .ok (.aload_n 0, 1) := by decide +kernel
theorem dX8_init_27 : decode cX8_init 27 = .ok (.bipush 6, 2) := by decide +kernel
theorem dX8_init_29 : decode cX8_init 29 = .ok (.newarray .int, 2) := by decide +kernel
theorem dX8_init_31 : decode cX8_init 31 = .ok (.putfield 20, 3) := by decide +kernel
theorem dX8_init_34 : decode cX8_init 34 = .ok (.aload_n 0, 1) := by decide +kernel
theorem dX8_init_35 : decode cX8_init 35 = .ok (.bipush 6, 2) := by decide +kernel
theorem dX8_init_37 : decode cX8_init 37 = .ok (.newarray .int, 2) := by decide +kernel
theorem dX8_init_39 : decode cX8_init 39 = .ok (.putfield 23, 3) := by decide +kernel
theorem dX8_init_42 : decode cX8_init 42 = .ok (.aload_n 0, 1) := by decide +kernel
theorem dX8_init_43 : decode cX8_init 43 = .ok (.bipush 6, 2) := by decide +kernel
theorem dX8_init_45 : decode cX8_init 45 = .ok (.newarray .int, 2) := by decide +kernel
theorem dX8_init_47 : decode cX8_init 47 = .ok (.putfield 26, 3) := by decide +kernel
theorem dX8_init_50 : decode cX8_init 50 = .ok (.aload_n 0, 1) := by decide +kernel
theorem dX8_init_51 : decode cX8_init 51 = .ok (.bipush 6, 2) := by decide +kernel
theorem dX8_init_53 : decode cX8_init 53 = .ok (.newarray .int, 2) := by decide +kernel
theorem dX8_init_55 : decode cX8_init 55 = .ok (.putfield 29, 3) := by decide +kernel
theorem dX8_init_58 : decode cX8_init 58 = .ok (.aload_n 0, 1) := by decide +kernel
theorem dX8_init_59 : decode cX8_init 59 = .ok (.iconst 5, 1) := by decide +kernel
theorem dX8_init_60 : decode cX8_init 60 = .ok (.newarray .int, 2) := by decide +kernel
theorem dX8_init_62 : decode cX8_init 62 = .ok (.putfield 32, 3) := by decide +kernel
theorem dX8_init_65 : decode cX8_init 65 = .ok (.aload_n 0, 1) := by decide +kernel
theorem dX8_init_66 : decode cX8_init 66 = .ok (.bipush 48, 2) := by decide +kernel
theorem dX8_init_68 : decode cX8_init 68 = .ok (.newarray .int, 2) := by decide +kernel
theorem dX8_init_70 : decode cX8_init 70 = .ok (.putfield 35, 3) := by decide +kernel
theorem dX8_init_73 : decode cX8_init 73 = .ok (.aload_n 0, 1) := by decide +kernel
theorem dX8_init_74 : decode cX8_init 74 = .ok (.bipush 10, 2) := by decide +kernel
theorem dX8_init_76 : decode cX8_init 76 = .ok (.newarray .int, 2) := by decide +kernel
theorem dX8_init_78 : decode cX8_init 78 = .ok (.putfield 38, 3) := by decide +kernel
theorem dX8_init_81 : decode cX8_init 81 = .ok (.aload_n 0, 1) := by decide +kernel
theorem dX8_init_82 : decode cX8_init 82 = .ok (.bipush 10, 2) := by decide +kernel
theorem dX8_init_84 : decode cX8_init 84 = .ok (.newarray .int, 2) := by decide +kernel
theorem dX8_init_86 : decode cX8_init 86 = .ok (.putfield 41, 3) := by decide +kernel
theorem dX8_init_89 : decode cX8_init 89 = .ok (.aload_n 0, 1) := by decide +kernel
theorem dX8_init_90 : decode cX8_init 90 = .ok (.bipush 10, 2) := by decide +kernel
theorem dX8_init_92 : decode cX8_init 92 = .ok (.newarray .int, 2) := by decide +kernel
theorem dX8_init_94 : decode cX8_init 94 = .ok (.putfield 44, 3) := by decide +kernel
theorem dX8_init_97 : decode cX8_init 97 = .ok (.aload_n 0, 1) := by decide +kernel
theorem dX8_init_98 : decode cX8_init 98 = .ok (.bipush 10, 2) := by decide +kernel
theorem dX8_init_100 : decode cX8_init 100 = .ok (.newarray .int, 2) := by decide +kernel
theorem dX8_init_102 : decode cX8_init 102 = .ok (.putfield 47, 3) := by decide +kernel
theorem dX8_init_105 : decode cX8_init 105 = .ok (.aload_n 0, 1) := by decide +kernel
theorem dX8_init_106 : decode cX8_init 106 = .ok (.bipush 6, 2) := by decide +kernel
theorem dX8_init_108 : decode cX8_init 108 = .ok (.newarray .int, 2) := by decide +kernel
theorem dX8_init_110 : decode cX8_init 110 = .ok (.putfield 50, 3) := by decide +kernel
theorem dX8_init_113 : decode cX8_init 113 = .ok (.aload_n 0, 1) := by decide +kernel
theorem dX8_init_114 : decode cX8_init 114 = .ok (.bipush 12, 2) := by decide +kernel
theorem dX8_init_116 : decode cX8_init 116 = .ok (.newarray .int, 2) := by decide +kernel
theorem dX8_init_118 : decode cX8_init 118 = .ok (.putfield 53, 3) := by decide +kernel
theorem dX8_init_121 : decode cX8_init 121 = .ok (.aload_n 0, 1) := by decide +kernel
theorem dX8_init_122 : decode cX8_init 122 = .ok (.bipush 12, 2) := by decide +kernel
theorem dX8_init_124 : decode cX8_init 124 = .ok (.newarray .int, 2) := by decide +kernel
theorem dX8_init_126 : decode cX8_init 126 = .ok (.putfield 56, 3) := by decide +kernel
theorem dX8_init_129 : decode cX8_init 129 = .ok (.aload_n 0, 1) := by decide +kernel
theorem dX8_init_130 : decode cX8_init 130 = .ok (.bipush 12, 2) := by decide +kernel
theorem dX8_init_132 : decode cX8_init 132 = .ok (.newarray .int, 2) := by decide +kernel
theorem dX8_init_134 : decode cX8_init 134 = .ok (.putfield 59, 3) := by decide +kernel
theorem dX8_init_137 : decode cX8_init 137 = .ok (.aload_n 0, 1) := by decide +kernel
theorem dX8_init_138 : decode cX8_init 138 = .ok (.bipush 12, 2) := by decide +kernel
theorem dX8_init_140 : decode cX8_init 140 = .ok (.newarray .int, 2) := by decide +kernel
theorem dX8_init_142 : decode cX8_init 142 = .ok (.putfield 62, 3) := by decide +kernel
theorem dX8_init_145 : decode cX8_init 145 = .ok (.aload_n 0, 1) := by decide +kernel
theorem dX8_init_146 : decode cX8_init 146 = .ok (.bipush 6, 2) := by decide +kernel
theorem dX8_init_148 : decode cX8_init 148 = .ok (.newarray .int, 2) := by decide +kernel
theorem dX8_init_150 : decode cX8_init 150 = .ok (.putfield 65, 3) := by decide +kernel
theorem dX8_init_153 : decode cX8_init 153 = .ok (.aload_n 0, 1) := by decide +kernel
theorem dX8_init_154 : decode cX8_init 154 = .ok (.bipush 10, 2) := by decide +kernel
theorem dX8_init_156 : decode cX8_init 156 = .ok (.newarray .int, 2) := by decide +kernel
theorem dX8_init_158 : decode cX8_init 158 = .ok (.putfield 68, 3) := by decide +kernel
theorem dX8_init_161 : decode cX8_init 161 = .ok (.aload_n 0, 1) := by decide +kernel
theorem dX8_init_162 : decode cX8_init 162 = .ok (.getfield 13, 3) := by decide +kernel
theorem dX8_init_165 : decode cX8_init 165 = .ok (.invokestatic 71, 3) := by decide +kernel
theorem dX8_init_168 : decode cX8_init 168 = .ok (.iconst 0, 1) := by decide +kernel
theorem dX8_init_169 : decode cX8_init 169 = .ok (.istore_n 1, 1) := by decide +kernel
theorem dX8_init_170 : decode cX8_init 170 = .ok (.iload_n 1, 1) := by decide +kernel
theorem dX8_init_171 : decode cX8_init 171 = .ok (.iconst 5, 1) := by decide +kernel
theorem dX8_init_172 : decode cX8_init 172 = .ok (.if_icmp .ge 16, 3) := by decide +kernel
theorem dX8_init_175 : decode cX8_init 175 = .ok (.aload_n 0, 1) := by decide +kernel
theorem dX8_init_176 : decode cX8_init 176 = .ok (.getfield 32, 3) := by decide +kernel
theorem dX8_init_179 : decode cX8_init 179 = .ok (.iload_n 1, 1) := by decide +kernel
theorem dX8_init_180 : decode cX8_init 180 = .ok (.iconst 1, 1) := by decide +kernel
theorem dX8_init_181 : decode cX8_init 181 = .ok (.iastore, 1) := by decide +kernel
theorem dX8_init_182 : decode cX8_init 182 = .ok (.iinc 1 1, 3) := by decide +kernel
theorem dX8_init_185 : decode cX8_init 185 = .ok (.goto (-15), 3) := by decide +kernel
theorem dX8_init_188 : decode cX8_init 188 = .ok (.iconst 0, 1) := by decide +kernel
theorem dX8_init_189 : decode cX8_init 189 = .ok (.istore_n 1, 1) := by decide +kernel
theorem dX8_init_190 : decode cX8_init 190 = .ok (.iload_n 1, 1) := by decide +kernel
theorem dX8_init_191 : decode cX8_init 191 = .ok (.bipush 6, 2) := by decide +kernel
theorem dX8_init_193 : decode cX8_init 193 = .ok (.if_icmp .ge 19, 3) := by decide +kernel
theorem dX8_init_196 : decode cX8_init 196 = .ok (.aload_n 0, 1) := by decide +kernel
theorem dX8_init_197 : decode cX8_init 197 = .ok (.getfield 35, 3) := by decide +kernel
theorem dX8_init_200 : decode cX8_init 200 = .ok (.bipush 8, 2) := by decide +kernel
theorem dX8_init_202 : decode cX8_init 202 = .ok (.iload_n 1, 1) := by decide +kernel
theorem dX8_init_203 : decode cX8_init 203 = .ok (.imul, 1) := by decide +kernel
theorem dX8_init_204 : decode cX8_init 204 = .ok (.iconst (-1), 1) := by decide +kernel
theorem dX8_init_205 : decode cX8_init 205 = .ok (.iastore, 1) := by decide +kernel
theorem dX8_init_206 : decode cX8_init 206 = .ok (.iinc 1 1, 3) := by decide +kernel
theorem dX8_init_209 : decode cX8_init 209 = .ok (.goto (-19), 3) := by decide +kernel
theorem dX8_init_212 : decode cX8_init 212 = .ok (.return_, 1) := by decide +kernel
theorem dX8_lies_0 : decode cX8_lies 0 = .ok (.iload_n 0, 1) := by decide +kernel
theorem dX8_lies_1 : decode cX8_lies 1 = .ok (.iload_n 1, 1) := by decide +kernel
theorem dX8_lies_2 : decode cX8_lies 2 = .ok (.if_icmp .lt 12, 3) := by decide +kernel
theorem dX8_lies_5 : decode cX8_lies 5 = .ok (.iload_n 0, 1) := by decide +kernel
theorem dX8_lies_6 : decode cX8_lies 6 = .ok (.iload_n 2, 1) := by decide +kernel
theorem dX8_lies_7 : decode cX8_lies 7 = .ok (.if_icmp .gt 7, 3) := by decide +kernel
theorem dX8_lies_10 : decode cX8_lies 10 = .ok (.iconst 1, 1) := by decide +kernel
theorem dX8_lies_11 : decode cX8_lies 11 = .ok (.goto 4, 3) := by decide +kernel
theorem dX8_lies_14 : decode cX8_lies 14 = .ok (.iconst 0, 1) := by decide +kernel
theorem dX8_lies_15 : decode cX8_lies 15 = .ok (.ireturn, 1) := by decide +kernel
theorem dX8_has_0 : decode cX8_has 0 = .ok (.iload_n 0, 1) := by decide +kernel
theorem dX8_has_1 : decode cX8_has 1 = .ok (.iload_n 1, 1) := by decide +kernel
theorem dX8_has_2 : decode cX8_has 2 = .ok (.ishr, 1) := by decide +kernel
theorem dX8_has_3 : decode cX8_has 3 = .ok (.iconst 1, 1) := by decide +kernel
theorem dX8_has_4 : decode cX8_has 4 = .ok (.iand, 1) := by decide +kernel
theorem dX8_has_5 : decode cX8_has 5 = .ok (.iconst 1, 1) := by decide +kernel
theorem dX8_has_6 : decode cX8_has 6 = .ok (.if_icmp .ne 7, 3) := by decide +kernel
theorem dX8_has_9 : decode cX8_has 9 = .ok (.iconst 1, 1) := by decide +kernel
theorem dX8_has_10 : decode cX8_has 10 = .ok (.goto 4, 3) := by decide +kernel
theorem dX8_has_13 : decode cX8_has 13 = .ok (.iconst 0, 1) := by decide +kernel
theorem dX8_has_14 : decode cX8_has 14 = .ok (.ireturn, 1) := by decide +kernel
theorem dX8_push_0 : decode cX8_push 0 = .ok (.bipush 24, 2) := by decide +kernel
theorem dX8_push_2 : decode cX8_push 2 = .ok (.istore_n 2, 1) := by decide +kernel
theorem dX8_push_3 : decode cX8_push 3 = .ok (.iload_n 2, 1) := by decide +kernel
theorem dX8_push_4 : decode cX8_push 4 = .ok (.ifCond .lt 32, 3) := by decide +kernel
theorem dX8_push_7 : decode cX8_push 7 = .ok (.aload_n 0, 1) := by decide +kernel
theorem dX8_push_8 : decode cX8_push 8 = .ok (.getfield 7, 3) := by decide +kernel
theorem dX8_push_11 : decode cX8_push 11 = .ok (.aload_n 0, 1) := by decide +kernel
theorem dX8_push_12 : decode cX8_push 12 = .ok (.getfield 75, 3) := by decide +kernel
theorem dX8_push_15 : decode cX8_push 15 = .ok (.iload_n 1, 1) := by decide +kernel
theorem dX8_push_16 : decode cX8_push 16 = .ok (.iload_n 2, 1) := by decide +kernel
theorem dX8_push_17 : decode cX8_push 17 = .ok (.ishr, 1) := by decide +kernel
theorem dX8_push_18 : decode cX8_push 18 = .ok (.i2b, 1) := by decide +kernel
theorem dX8_push_19 : decode cX8_push 19 = .ok (.bastore, 1) := by decide +kernel
theorem dX8_push_20 : decode cX8_push 20 = .ok (.aload_n 0, 1) := by decide +kernel
theorem dX8_push_21 : decode cX8_push 21 = .ok (.dup, 1) := by decide +kernel
theorem dX8_push_22 : decode cX8_push 22 = .ok (.getfield 75, 3) := by decide +kernel
theorem dX8_push_25 : decode cX8_push 25 = .ok (.iconst 1, 1) := by decide +kernel
theorem dX8_push_26 : decode cX8_push 26 = .ok (.iadd, 1) := by decide +kernel
theorem dX8_push_27 : decode cX8_push 27 = .ok (.putfield 75, 3) := by decide +kernel
theorem dX8_push_30 : decode cX8_push 30 = .ok (.iinc 2 (-8), 3) := by decide +kernel
theorem dX8_push_33 : decode cX8_push 33 = .ok (.goto (-30), 3) := by decide +kernel
theorem dX8_push_36 : decode cX8_push 36 = .ok (.return_, 1) := by decide +kernel
theorem dX8_feed_0 : decode cX8_feed 0 = .ok (.aload_n 0, 1) := by decide +kernel
theorem dX8_feed_1 : decode cX8_feed 1 = .ok (.getfield 75, 3) := by decide +kernel
theorem dX8_feed_4 : decode cX8_feed 4 = .ok (.bipush 20, 2) := by decide +kernel
theorem dX8_feed_6 : decode cX8_feed 6 = .ok (.iadd, 1) := by decide +kernel
theorem dX8_feed_7 : decode cX8_feed 7 = .ok (.bipush 40, 2) := by decide +kernel
theorem dX8_feed_9 : decode cX8_feed 9 = .ok (.if_icmp .le 5, 3) := by decide +kernel
theorem dX8_feed_12 : decode cX8_feed 12 = .ok (.iconst (-1), 1) := by decide +kernel
theorem dX8_feed_13 : decode cX8_feed 13 = .ok (.ireturn, 1) := by decide +kernel
theorem dX8_feed_14 : decode cX8_feed 14 = .ok (.aload_n 0, 1) := by decide +kernel
theorem dX8_feed_15 : decode cX8_feed 15 = .ok (.iload_n 1, 1) := by decide +kernel
theorem dX8_feed_16 : decode cX8_feed 16 = .ok (.invokevirtual 79, 3) := by decide +kernel
theorem dX8_feed_19 : decode cX8_feed 19 = .ok (.aload_n 0, 1) := by decide +kernel
theorem dX8_feed_20 : decode cX8_feed 20 = .ok (.iload_n 2, 1) := by decide +kernel
theorem dX8_feed_21 : decode cX8_feed 21 = .ok (.invokevirtual 79, 3) := by decide +kernel
theorem dX8_feed_24 : decode cX8_feed 24 = .ok (.aload_n 0, 1) := by decide +kernel
theorem dX8_feed_25 : decode cX8_feed 25 = .ok (.iload_n 3, 1) := by decide +kernel
theorem dX8_feed_26 : decode cX8_feed 26 = .ok (.invokevirtual 79, 3) := by decide +kernel
theorem dX8_feed_29 : decode cX8_feed 29 = .ok (.aload_n 0, 1) := by decide +kernel
theorem dX8_feed_30 : decode cX8_feed 30 = .ok (.iload 4, 2) := by decide +kernel
theorem dX8_feed_32 : decode cX8_feed 32 = .ok (.invokevirtual 79, 3) := by decide +kernel
theorem dX8_feed_35 : decode cX8_feed 35 = .ok (.aload_n 0, 1) := by decide +kernel
theorem dX8_feed_36 : decode cX8_feed 36 = .ok (.iload 5, 2) := by decide +kernel
theorem dX8_feed_38 : decode cX8_feed 38 = .ok (.invokevirtual 79, 3) := by decide +kernel
theorem dX8_feed_41 : decode cX8_feed 41 = .ok (.aload_n 0, 1) := by decide +kernel
theorem dX8_feed_42 : decode cX8_feed 42 = .ok (.getfield 75, 3) := by decide +kernel
theorem dX8_feed_45 : decode cX8_feed 45 = .ok (.ireturn, 1) := by decide +kernel
theorem dX8_asAtFirst_0 : decode cX8_asAtFirst 0 = .ok (.aload_n 0, 1) := by decide +kernel
theorem dX8_asAtFirst_1 : decode cX8_asAtFirst 1 = .ok (.iconst 0, 1) := by decide +kernel
theorem dX8_asAtFirst_2 : decode cX8_asAtFirst 2 = .ok (.iconst 1, 1) := by decide +kernel
theorem dX8_asAtFirst_3 : decode cX8_asAtFirst 3 = .ok (.iastore, 1) := by decide +kernel
theorem dX8_asAtFirst_4 : decode cX8_asAtFirst 4 = .ok (.aload_n 0, 1) := by decide +kernel
theorem dX8_asAtFirst_5 : decode cX8_asAtFirst 5 = .ok (.iconst 1, 1) := by decide +kernel
theorem dX8_asAtFirst_6 : decode cX8_asAtFirst 6 = .ok (.bipush 10, 2) := by decide +kernel
theorem dX8_asAtFirst_8 : decode cX8_asAtFirst 8 = .ok (.iastore, 1) := by decide +kernel
theorem dX8_asAtFirst_9 : decode cX8_asAtFirst 9 = .ok (.aload_n 0, 1) := by decide +kernel
theorem dX8_asAtFirst_10 : decode cX8_asAtFirst 10 = .ok (.iconst 2, 1) := by decide +kernel
theorem dX8_asAtFirst_11 : decode cX8_asAtFirst 11 = .ok (.bipush 100, 2) := by decide +kernel
theorem dX8_asAtFirst_13 : decode cX8_asAtFirst 13 = .ok (.iastore, 1) := by decide +kernel
theorem dX8_asAtFirst_14 : decode cX8_asAtFirst 14 = .ok (.aload_n 0, 1) := by decide +kernel
theorem dX8_asAtFirst_15 : decode cX8_asAtFirst 15 = .ok (.iconst 3, 1) := by decide +kernel
theorem dX8_asAtFirst_16 : decode cX8_asAtFirst 16 = .ok (.bipush 50, 2) := by decide +kernel
theorem dX8_asAtFirst_18 : decode cX8_asAtFirst 18 = .ok (.iastore, 1) := by decide +kernel
theorem dX8_asAtFirst_19 : decode cX8_asAtFirst 19 = .ok (.return_, 1) := by decide +kernel
theorem dX8_letter_0 : decode cX8_letter 0 = .ok (.iload_n 0, 1) := by decide +kernel
theorem dX8_letter_1 : decode cX8_letter 1 = .ok (.bipush 119, 2) := by decide +kernel
theorem dX8_letter_3 : decode cX8_letter 3 = .ok (.if_icmp .ne 7, 3) := by decide +kernel
theorem dX8_letter_6 : decode cX8_letter 6 = .ok (.iconst 0, 1) := by decide +kernel
theorem dX8_letter_7 : decode cX8_letter 7 = .ok (.goto 34, 3) := by decide +kernel
theorem dX8_letter_10 : decode cX8_letter 10 = .ok (.iload_n 0, 1) := by decide +kernel
theorem dX8_letter_11 : decode cX8_letter 11 = .ok (.bipush 102, 2) := by decide +kernel
theorem dX8_letter_13 : decode cX8_letter 13 = .ok (.if_icmp .ne 7, 3) := by decide +kernel
theorem dX8_letter_16 : decode cX8_letter 16 = .ok (.iconst 1, 1) := by decide +kernel
theorem dX8_letter_17 : decode cX8_letter 17 = .ok (.goto 24, 3) := by decide +kernel
theorem dX8_letter_20 : decode cX8_letter 20 = .ok (.iload_n 0, 1) := by decide +kernel
theorem dX8_letter_21 : decode cX8_letter 21 = .ok (.bipush 112, 2) := by decide +kernel
theorem dX8_letter_23 : decode cX8_letter 23 = .ok (.if_icmp .ne 7, 3) := by decide +kernel
theorem dX8_letter_26 : decode cX8_letter 26 = .ok (.iconst 2, 1) := by decide +kernel
theorem dX8_letter_27 : decode cX8_letter 27 = .ok (.goto 14, 3) := by decide +kernel
theorem dX8_letter_30 : decode cX8_letter 30 = .ok (.iload_n 0, 1) := by decide +kernel
theorem dX8_letter_31 : decode cX8_letter 31 = .ok (.bipush 103, 2) := by decide +kernel
theorem dX8_letter_33 : decode cX8_letter 33 = .ok (.if_icmp .ne 7, 3) := by decide +kernel
theorem dX8_letter_36 : decode cX8_letter 36 = .ok (.iconst 3, 1) := by decide +kernel
theorem dX8_letter_37 : decode cX8_letter 37 = .ok (.goto 4, 3) := by decide +kernel
theorem dX8_letter_40 : decode cX8_letter 40 = .ok (.iconst (-1), 1) := by decide +kernel
theorem dX8_letter_41 : decode cX8_letter 41 = .ok (.ireturn, 1) := by decide +kernel
theorem dX8_canBe_0 : decode cX8_canBe 0 = .ok (.iload_n 0, 1) := by decide +kernel
theorem dX8_canBe_1 : decode cX8_canBe 1 = .ok (.ifCond .ne 17, 3) := by decide +kernel
theorem dX8_canBe_4 : decode cX8_canBe 4 = .ok (.iload_n 1, 1) := by decide +kernel
theorem dX8_canBe_5 : decode cX8_canBe 5 = .ok (.bipush 20, 2) := by decide +kernel
theorem dX8_canBe_7 : decode cX8_canBe 7 = .ok (.if_icmp .gt 7, 3) := by decide +kernel
theorem dX8_canBe_10 : decode cX8_canBe 10 = .ok (.iconst 1, 1) := by decide +kernel
theorem dX8_canBe_11 : decode cX8_canBe 11 = .ok (.goto 23, 3) := by decide +kernel
theorem dX8_canBe_14 : decode cX8_canBe 14 = .ok (.iconst 0, 1) := by decide +kernel
theorem dX8_canBe_15 : decode cX8_canBe 15 = .ok (.goto 19, 3) := by decide +kernel
theorem dX8_canBe_18 : decode cX8_canBe 18 = .ok (.iload_n 0, 1) := by decide +kernel
theorem dX8_canBe_19 : decode cX8_canBe 19 = .ok (.iconst 1, 1) := by decide +kernel
theorem dX8_canBe_20 : decode cX8_canBe 20 = .ok (.if_icmp .ne 9, 3) := by decide +kernel
theorem dX8_canBe_23 : decode cX8_canBe 23 = .ok (.iload_n 1, 1) := by decide +kernel
theorem dX8_canBe_24 : decode cX8_canBe 24 = .ok (.bipush 100, 2) := by decide +kernel
theorem dX8_canBe_26 : decode cX8_canBe 26 = .ok (.if_icmp .gt 7, 3) := by decide +kernel
theorem dX8_canBe_29 : decode cX8_canBe 29 = .ok (.iconst 1, 1) := by decide +kernel
theorem dX8_canBe_30 : decode cX8_canBe 30 = .ok (.goto 4, 3) := by decide +kernel
theorem dX8_canBe_33 : decode cX8_canBe 33 = .ok (.iconst 0, 1) := by decide +kernel
theorem dX8_canBe_34 : decode cX8_canBe 34 = .ok (.ireturn, 1) := by decide +kernel
theorem dX8_at_0 : decode cX8_at 0 = .ok (.iload_n 1, 1) := by decide +kernel
theorem dX8_at_1 : decode cX8_at 1 = .ok (.iload_n 2, 1) := by decide +kernel
theorem dX8_at_2 : decode cX8_at 2 = .ok (.if_icmp .ge 16, 3) := by decide +kernel
theorem dX8_at_5 : decode cX8_at 5 = .ok (.aload_n 0, 1) := by decide +kernel
theorem dX8_at_6 : decode cX8_at 6 = .ok (.getfield 7, 3) := by decide +kernel
theorem dX8_at_9 : decode cX8_at 9 = .ok (.iload_n 1, 1) := by decide +kernel
theorem dX8_at_10 : decode cX8_at 10 = .ok (.baload, 1) := by decide +kernel
theorem dX8_at_11 : decode cX8_at 11 = .ok (.sipush 255, 3) := by decide +kernel
theorem dX8_at_14 : decode cX8_at 14 = .ok (.iand, 1) := by decide +kernel
theorem dX8_at_15 : decode cX8_at 15 = .ok (.goto 4, 3) := by decide +kernel
theorem dX8_at_18 : decode cX8_at 18 = .ok (.iconst 0, 1) := by decide +kernel
theorem dX8_at_19 : decode cX8_at 19 = .ok (.ireturn, 1) := by decide +kernel
theorem dX8_reads_0 : decode cX8_reads 0 = .ok (.aload_n 0, 1) := by decide +kernel
theorem dX8_reads_1 : decode cX8_reads 1 = .ok (.getfield 17, 3) := by decide +kernel
theorem dX8_reads_4 : decode cX8_reads 4 = .ok (.invokestatic 71, 3) := by decide +kernel
theorem dX8_reads_7 : decode cX8_reads 7 = .ok (.iconst 0, 1) := by decide +kernel
theorem dX8_reads_8 : decode cX8_reads 8 = .ok (.istore_n 2, 1) := by decide +kernel
theorem dX8_reads_9 : decode cX8_reads 9 = .ok (.iconst 0, 1) := by decide +kernel
theorem dX8_reads_10 : decode cX8_reads 10 = .ok (.istore_n 3, 1) := by decide +kernel
theorem dX8_reads_11 : decode cX8_reads 11 = .ok (.iload_n 3, 1) := by decide +kernel
theorem dX8_reads_12 : decode cX8_reads 12 = .ok (.iload_n 1, 1) := by decide +kernel
theorem dX8_reads_13 : decode cX8_reads 13 = .ok (.if_icmp .gt 168, 3) := by decide +kernel
theorem dX8_reads_16 : decode cX8_reads 16 = .ok (.aload_n 0, 1) := by decide +kernel
theorem dX8_reads_17 : decode cX8_reads 17 = .ok (.iload_n 2, 1) := by decide +kernel
theorem dX8_reads_18 : decode cX8_reads 18 = .ok (.iload_n 1, 1) := by decide +kernel
theorem dX8_reads_19 : decode cX8_reads 19 = .ok (.invokevirtual 83, 3) := by decide +kernel
theorem dX8_reads_22 : decode cX8_reads 22 = .ok (.invokestatic 87, 3) := by decide +kernel
theorem dX8_reads_25 : decode cX8_reads 25 = .ok (.istore 4, 2) := by decide +kernel
theorem dX8_reads_27 : decode cX8_reads 27 = .ok (.iload 4, 2) := by decide +kernel
theorem dX8_reads_29 : decode cX8_reads 29 = .ok (.iconst (-1), 1) := by decide +kernel
theorem dX8_reads_30 : decode cX8_reads 30 = .ok (.if_icmp .ne 8, 3) := by decide +kernel
theorem dX8_reads_33 : decode cX8_reads 33 = .ok (.bipush 100, 2) := by decide +kernel
theorem dX8_reads_35 : decode cX8_reads 35 = .ok (.iload_n 2, 1) := by decide +kernel
theorem dX8_reads_36 : decode cX8_reads 36 = .ok (.iadd, 1) := by decide +kernel
theorem dX8_reads_37 : decode cX8_reads 37 = .ok (.ireturn, 1) := by decide +kernel
theorem dX8_reads_38 : decode cX8_reads 38 = .ok (.iinc 2 1, 3) := by decide +kernel
theorem dX8_reads_41 : decode cX8_reads 41 = .ok (.aload_n 0, 1) := by decide +kernel
theorem dX8_reads_42 : decode cX8_reads 42 = .ok (.iload_n 2, 1) := by decide +kernel
theorem dX8_reads_43 : decode cX8_reads 43 = .ok (.iload_n 1, 1) := by decide +kernel
theorem dX8_reads_44 : decode cX8_reads 44 = .ok (.invokevirtual 83, 3) := by decide +kernel
theorem dX8_reads_47 : decode cX8_reads 47 = .ok (.bipush 48, 2) := by decide +kernel
theorem dX8_reads_49 : decode cX8_reads 49 = .ok (.bipush 57, 2) := by decide +kernel
theorem dX8_reads_51 : decode cX8_reads 51 = .ok (.invokestatic 91, 3) := by decide +kernel
theorem dX8_reads_54 : decode cX8_reads 54 = .ok (.ifCond .ne 9, 3) := by decide +kernel
theorem dX8_reads_57 : decode cX8_reads 57 = .ok (.sipush 200, 3) := by decide +kernel
theorem dX8_reads_60 : decode cX8_reads 60 = .ok (.iload_n 2, 1) := by decide +kernel
theorem dX8_reads_61 : decode cX8_reads 61 = .ok (.iadd, 1) := by decide +kernel
theorem dX8_reads_62 : decode cX8_reads 62 = .ok (.ireturn, 1) := by decide +kernel
theorem dX8_reads_63 : decode cX8_reads 63 = .ok (.iload_n 2, 1) := by decide +kernel
theorem dX8_reads_64 : decode cX8_reads 64 = .ok (.istore 5, 2) := by decide +kernel
theorem dX8_reads_66 : decode cX8_reads 66 = .ok (.iconst 0, 1) := by decide +kernel
theorem dX8_reads_67 : decode cX8_reads 67 = .ok (.istore 6, 2) := by decide +kernel
theorem dX8_reads_69 : decode cX8_reads 69 = .ok (.aload_n 0, 1) := by decide +kernel
theorem dX8_reads_70 : decode cX8_reads 70 = .ok (.iload_n 2, 1) := by decide +kernel
theorem dX8_reads_71 : decode cX8_reads 71 = .ok (.iload_n 1, 1) := by decide +kernel
theorem dX8_reads_72 : decode cX8_reads 72 = .ok (.invokevirtual 83, 3) := by decide +kernel
theorem dX8_reads_75 : decode cX8_reads 75 = .ok (.bipush 48, 2) := by decide +kernel
theorem dX8_reads_77 : decode cX8_reads 77 = .ok (.bipush 57, 2) := by decide +kernel
theorem dX8_reads_79 : decode cX8_reads 79 = .ok (.invokestatic 91, 3) := by decide +kernel
theorem dX8_reads_82 : decode cX8_reads 82 = .ok (.ifCond .eq 40, 3) := by decide +kernel
theorem dX8_reads_85 : decode cX8_reads 85 = .ok (.iload_n 2, 1) := by decide +kernel
theorem dX8_reads_86 : decode cX8_reads 86 = .ok (.iload 5, 2) := by decide +kernel
theorem dX8_reads_88 : decode cX8_reads 88 = .ok (.iconst 4, 1) := by decide +kernel
theorem dX8_reads_89 : decode cX8_reads 89 = .ok (.iadd, 1) := by decide +kernel
theorem dX8_reads_90 : decode cX8_reads 90 = .ok (.if_icmp .ne 9, 3) := by decide +kernel
theorem dX8_reads_93 : decode cX8_reads 93 = .ok (.sipush 300, 3) := by decide +kernel
theorem dX8_reads_96 : decode cX8_reads 96 = .ok (.iload_n 2, 1) := by decide +kernel
theorem dX8_reads_97 : decode cX8_reads 97 = .ok (.iadd, 1) := by decide +kernel
theorem dX8_reads_98 : decode cX8_reads 98 = .ok (.ireturn, 1) := by decide +kernel
theorem dX8_reads_99 : decode cX8_reads 99 = .ok (.bipush 10, 2) := by decide +kernel
theorem dX8_reads_101 : decode cX8_reads 101 = .ok (.iload 6, 2) := by decide +kernel
theorem dX8_reads_103 : decode cX8_reads 103 = .ok (.imul, 1) := by decide +kernel
theorem dX8_reads_104 : decode cX8_reads 104 = .ok (.aload_n 0, 1) := by decide +kernel
theorem dX8_reads_105 : decode cX8_reads 105 = .ok (.iload_n 2, 1) := by decide +kernel
theorem dX8_reads_106 : decode cX8_reads 106 = .ok (.iload_n 1, 1) := by decide +kernel
theorem dX8_reads_107 : decode cX8_reads 107 = .ok (.invokevirtual 83, 3) := by decide +kernel
theorem dX8_reads_110 : decode cX8_reads 110 = .ok (.iadd, 1) := by decide +kernel
theorem dX8_reads_111 : decode cX8_reads 111 = .ok (.bipush 48, 2) := by decide +kernel
theorem dX8_reads_113 : decode cX8_reads 113 = .ok (.isub, 1) := by decide +kernel
theorem dX8_reads_114 : decode cX8_reads 114 = .ok (.istore 6, 2) := by decide +kernel
theorem dX8_reads_116 : decode cX8_reads 116 = .ok (.iinc 2 1, 3) := by decide +kernel
theorem dX8_reads_119 : decode cX8_reads 119 = .ok (.goto (-50), 3) := by decide +kernel
theorem dX8_reads_122 : decode cX8_reads 122 = .ok (.iload 4, 2) := by decide +kernel
theorem dX8_reads_124 : decode cX8_reads 124 = .ok (.iload 6, 2) := by decide +kernel
theorem dX8_reads_126 : decode cX8_reads 126 = .ok (.invokestatic 95, 3) := by decide +kernel
theorem dX8_reads_129 : decode cX8_reads 129 = .ok (.ifCond .ne 10, 3) := by decide +kernel
theorem dX8_reads_132 : decode cX8_reads 132 = .ok (.sipush 400, 3) := by decide +kernel
theorem dX8_reads_135 : decode cX8_reads 135 = .ok (.iload 5, 2) := by decide +kernel
theorem dX8_reads_137 : decode cX8_reads 137 = .ok (.iadd, 1) := by decide +kernel
theorem dX8_reads_138 : decode cX8_reads 138 = .ok (.ireturn, 1) := by decide +kernel
theorem dX8_reads_139 : decode cX8_reads 139 = .ok (.aload_n 0, 1) := by decide +kernel
theorem dX8_reads_140 : decode cX8_reads 140 = .ok (.getfield 17, 3) := by decide +kernel
theorem dX8_reads_143 : decode cX8_reads 143 = .ok (.iload 4, 2) := by decide +kernel
theorem dX8_reads_145 : decode cX8_reads 145 = .ok (.iload 6, 2) := by decide +kernel
theorem dX8_reads_147 : decode cX8_reads 147 = .ok (.iastore, 1) := by decide +kernel
theorem dX8_reads_148 : decode cX8_reads 148 = .ok (.iload_n 2, 1) := by decide +kernel
theorem dX8_reads_149 : decode cX8_reads 149 = .ok (.iload_n 1, 1) := by decide +kernel
theorem dX8_reads_150 : decode cX8_reads 150 = .ok (.if_icmp .ne 5, 3) := by decide +kernel
theorem dX8_reads_153 : decode cX8_reads 153 = .ok (.iconst 0, 1) := by decide +kernel
theorem dX8_reads_154 : decode cX8_reads 154 = .ok (.ireturn, 1) := by decide +kernel
theorem dX8_reads_155 : decode cX8_reads 155 = .ok (.aload_n 0, 1) := by decide +kernel
theorem dX8_reads_156 : decode cX8_reads 156 = .ok (.iload_n 2, 1) := by decide +kernel
theorem dX8_reads_157 : decode cX8_reads 157 = .ok (.iload_n 1, 1) := by decide +kernel
theorem dX8_reads_158 : decode cX8_reads 158 = .ok (.invokevirtual 83, 3) := by decide +kernel
theorem dX8_reads_161 : decode cX8_reads 161 = .ok (.bipush 59, 2) := by decide +kernel
theorem dX8_reads_163 : decode cX8_reads 163 = .ok (.if_icmp .eq 9, 3) := by decide +kernel
theorem dX8_reads_166 : decode cX8_reads 166 = .ok (.sipush 500, 3) := by decide +kernel
theorem dX8_reads_169 : decode cX8_reads 169 = .ok (.iload_n 2, 1) := by decide +kernel
theorem dX8_reads_170 : decode cX8_reads 170 = .ok (.iadd, 1) := by decide +kernel
theorem dX8_reads_171 : decode cX8_reads 171 = .ok (.ireturn, 1) := by decide +kernel
theorem dX8_reads_172 : decode cX8_reads 172 = .ok (.iinc 2 1, 3) := by decide +kernel
theorem dX8_reads_175 : decode cX8_reads 175 = .ok (.iinc 3 1, 3) := by decide +kernel
theorem dX8_reads_178 : decode cX8_reads 178 = .ok (.goto (-167), 3) := by decide +kernel
theorem dX8_reads_181 : decode cX8_reads 181 = .ok (.bipush 100, 2) := by decide +kernel
theorem dX8_reads_183 : decode cX8_reads 183 = .ok (.iload_n 2, 1) := by decide +kernel
theorem dX8_reads_184 : decode cX8_reads 184 = .ok (.iadd, 1) := by decide +kernel
theorem dX8_reads_185 : decode cX8_reads 185 = .ok (.ireturn, 1) := by decide +kernel
theorem dX8_word_0 : decode cX8_word 0 = .ok (.iload_n 1, 1) := by decide +kernel
theorem dX8_word_1 : decode cX8_word 1 = .ok (.ifCond .lt 11, 3) := by decide +kernel
theorem dX8_word_4 : decode cX8_word 4 = .ok (.iload_n 1, 1) := by decide +kernel
theorem dX8_word_5 : decode cX8_word 5 = .ok (.aload_n 0, 1) := by decide +kernel
theorem dX8_word_6 : decode cX8_word 6 = .ok (.getfield 75, 3) := by decide +kernel
theorem dX8_word_9 : decode cX8_word 9 = .ok (.if_icmp .le 5, 3) := by decide +kernel
theorem dX8_word_12 : decode cX8_word 12 = .ok (.iconst (-1), 1) := by decide +kernel
theorem dX8_word_13 : decode cX8_word 13 = .ok (.ireturn, 1) := by decide +kernel
theorem dX8_word_14 : decode cX8_word 14 = .ok (.aload_n 0, 1) := by decide +kernel
theorem dX8_word_15 : decode cX8_word 15 = .ok (.iconst 0, 1) := by decide +kernel
theorem dX8_word_16 : decode cX8_word 16 = .ok (.putfield 75, 3) := by decide +kernel
theorem dX8_word_19 : decode cX8_word 19 = .ok (.aload_n 0, 1) := by decide +kernel
theorem dX8_word_20 : decode cX8_word 20 = .ok (.iload_n 1, 1) := by decide +kernel
theorem dX8_word_21 : decode cX8_word 21 = .ok (.invokevirtual 99, 3) := by decide +kernel
theorem dX8_word_24 : decode cX8_word 24 = .ok (.istore_n 2, 1) := by decide +kernel
theorem dX8_word_25 : decode cX8_word 25 = .ok (.iconst 0, 1) := by decide +kernel
theorem dX8_word_26 : decode cX8_word 26 = .ok (.istore_n 3, 1) := by decide +kernel
theorem dX8_word_27 : decode cX8_word 27 = .ok (.iload_n 3, 1) := by decide +kernel
theorem dX8_word_28 : decode cX8_word 28 = .ok (.iconst 4, 1) := by decide +kernel
theorem dX8_word_29 : decode cX8_word 29 = .ok (.if_icmp .ge 25, 3) := by decide +kernel
theorem dX8_word_32 : decode cX8_word 32 = .ok (.iload_n 2, 1) := by decide +kernel
theorem dX8_word_33 : decode cX8_word 33 = .ok (.ifCond .ne 21, 3) := by decide +kernel
theorem dX8_word_36 : decode cX8_word 36 = .ok (.aload_n 0, 1) := by decide +kernel
theorem dX8_word_37 : decode cX8_word 37 = .ok (.getfield 13, 3) := by decide +kernel
theorem dX8_word_40 : decode cX8_word 40 = .ok (.iload_n 3, 1) := by decide +kernel
theorem dX8_word_41 : decode cX8_word 41 = .ok (.aload_n 0, 1) := by decide +kernel
theorem dX8_word_42 : decode cX8_word 42 = .ok (.getfield 17, 3) := by decide +kernel
theorem dX8_word_45 : decode cX8_word 45 = .ok (.iload_n 3, 1) := by decide +kernel
theorem dX8_word_46 : decode cX8_word 46 = .ok (.iaload, 1) := by decide +kernel
theorem dX8_word_47 : decode cX8_word 47 = .ok (.iastore, 1) := by decide +kernel
theorem dX8_word_48 : decode cX8_word 48 = .ok (.iinc 3 1, 3) := by decide +kernel
theorem dX8_word_51 : decode cX8_word 51 = .ok (.goto (-24), 3) := by decide +kernel
theorem dX8_word_54 : decode cX8_word 54 = .ok (.iload_n 2, 1) := by decide +kernel
theorem dX8_word_55 : decode cX8_word 55 = .ok (.ireturn, 1) := by decide +kernel
theorem dX8_isPiper_0 : decode cX8_isPiper 0 = .ok (.iload_n 1, 1) := by decide +kernel
theorem dX8_isPiper_1 : decode cX8_isPiper 1 = .ok (.iconst 0, 1) := by decide +kernel
theorem dX8_isPiper_2 : decode cX8_isPiper 2 = .ok (.aload_n 0, 1) := by decide +kernel
theorem dX8_isPiper_3 : decode cX8_isPiper 3 = .ok (.getfield 102, 3) := by decide +kernel
theorem dX8_isPiper_6 : decode cX8_isPiper 6 = .ok (.iconst 1, 1) := by decide +kernel
theorem dX8_isPiper_7 : decode cX8_isPiper 7 = .ok (.isub, 1) := by decide +kernel
theorem dX8_isPiper_8 : decode cX8_isPiper 8 = .ok (.invokestatic 91, 3) := by decide +kernel
theorem dX8_isPiper_11 : decode cX8_isPiper 11 = .ok (.ireturn, 1) := by decide +kernel
theorem dX8_piper_0 : decode cX8_piper 0 = .ok (.aload_n 0, 1) := by decide +kernel
theorem dX8_piper_1 : decode cX8_piper 1 = .ok (.getfield 102, 3) := by decide +kernel
theorem dX8_piper_4 : decode cX8_piper 4 = .ok (.bipush 6, 2) := by decide +kernel
theorem dX8_piper_6 : decode cX8_piper 6 = .ok (.if_icmp .eq 23, 3) := by decide +kernel
theorem dX8_piper_9 : decode cX8_piper 9 = .ok (.iload_n 1, 1) := by decide +kernel
theorem dX8_piper_10 : decode cX8_piper 10 = .ok (.iconst 1, 1) := by decide +kernel
theorem dX8_piper_11 : decode cX8_piper 11 = .ok (.bipush 9, 2) := by decide +kernel
theorem dX8_piper_13 : decode cX8_piper 13 = .ok (.invokestatic 91, 3) := by decide +kernel
theorem dX8_piper_16 : decode cX8_piper 16 = .ok (.ifCond .eq 13, 3) := by decide +kernel
theorem dX8_piper_19 : decode cX8_piper 19 = .ok (.iload_n 2, 1) := by decide +kernel
theorem dX8_piper_20 : decode cX8_piper 20 = .ok (.iconst 1, 1) := by decide +kernel
theorem dX8_piper_21 : decode cX8_piper 21 = .ok (.bipush 31, 2) := by decide +kernel
theorem dX8_piper_23 : decode cX8_piper 23 = .ok (.invokestatic 91, 3) := by decide +kernel
theorem dX8_piper_26 : decode cX8_piper 26 = .ok (.ifCond .ne 5, 3) := by decide +kernel
theorem dX8_piper_29 : decode cX8_piper 29 = .ok (.iconst (-1), 1) := by decide +kernel
theorem dX8_piper_30 : decode cX8_piper 30 = .ok (.ireturn, 1) := by decide +kernel
theorem dX8_piper_31 : decode cX8_piper 31 = .ok (.aload_n 0, 1) := by decide +kernel
theorem dX8_piper_32 : decode cX8_piper 32 = .ok (.getfield 20, 3) := by decide +kernel
theorem dX8_piper_35 : decode cX8_piper 35 = .ok (.aload_n 0, 1) := by decide +kernel
theorem dX8_piper_36 : decode cX8_piper 36 = .ok (.getfield 102, 3) := by decide +kernel
theorem dX8_piper_39 : decode cX8_piper 39 = .ok (.iload_n 1, 1) := by decide +kernel
theorem dX8_piper_40 : decode cX8_piper 40 = .ok (.iastore, 1) := by decide +kernel
theorem dX8_piper_41 : decode cX8_piper 41 = .ok (.aload_n 0, 1) := by decide +kernel
theorem dX8_piper_42 : decode cX8_piper 42 = .ok (.getfield 23, 3) := by decide +kernel
theorem dX8_piper_45 : decode cX8_piper 45 = .ok (.aload_n 0, 1) := by decide +kernel
theorem dX8_piper_46 : decode cX8_piper 46 = .ok (.getfield 102, 3) := by decide +kernel
theorem dX8_piper_49 : decode cX8_piper 49 = .ok (.iload_n 2, 1) := by decide +kernel
theorem dX8_piper_50 : decode cX8_piper 50 = .ok (.iastore, 1) := by decide +kernel
theorem dX8_piper_51 : decode cX8_piper 51 = .ok (.aload_n 0, 1) := by decide +kernel
theorem dX8_piper_52 : decode cX8_piper 52 = .ok (.dup, 1) := by decide +kernel
theorem dX8_piper_53 : decode cX8_piper 53 = .ok (.getfield 102, 3) := by decide +kernel
theorem dX8_piper_56 : decode cX8_piper 56 = .ok (.iconst 1, 1) := by decide +kernel
theorem dX8_piper_57 : decode cX8_piper 57 = .ok (.iadd, 1) := by decide +kernel
theorem dX8_piper_58 : decode cX8_piper 58 = .ok (.putfield 102, 3) := by decide +kernel
theorem dX8_piper_61 : decode cX8_piper 61 = .ok (.aload_n 0, 1) := by decide +kernel
theorem dX8_piper_62 : decode cX8_piper 62 = .ok (.getfield 102, 3) := by decide +kernel
theorem dX8_piper_65 : decode cX8_piper 65 = .ok (.iconst 1, 1) := by decide +kernel
theorem dX8_piper_66 : decode cX8_piper 66 = .ok (.isub, 1) := by decide +kernel
theorem dX8_piper_67 : decode cX8_piper 67 = .ok (.ireturn, 1) := by decide +kernel
theorem dX8_ill_0 : decode cX8_ill 0 = .ok (.aload_n 0, 1) := by decide +kernel
theorem dX8_ill_1 : decode cX8_ill 1 = .ok (.iload_n 1, 1) := by decide +kernel
theorem dX8_ill_2 : decode cX8_ill 2 = .ok (.invokevirtual 105, 3) := by decide +kernel
theorem dX8_ill_5 : decode cX8_ill 5 = .ok (.ifCond .eq 32, 3) := by decide +kernel
theorem dX8_ill_8 : decode cX8_ill 8 = .ok (.aload_n 0, 1) := by decide +kernel
theorem dX8_ill_9 : decode cX8_ill 9 = .ok (.getfield 26, 3) := by decide +kernel
theorem dX8_ill_12 : decode cX8_ill 12 = .ok (.iload_n 1, 1) := by decide +kernel
theorem dX8_ill_13 : decode cX8_ill 13 = .ok (.iaload, 1) := by decide +kernel
theorem dX8_ill_14 : decode cX8_ill 14 = .ok (.iconst 2, 1) := by decide +kernel
theorem dX8_ill_15 : decode cX8_ill 15 = .ok (.if_icmp .eq 22, 3) := by decide +kernel
theorem dX8_ill_18 : decode cX8_ill 18 = .ok (.aload_n 0, 1) := by decide +kernel
theorem dX8_ill_19 : decode cX8_ill 19 = .ok (.getfield 26, 3) := by decide +kernel
theorem dX8_ill_22 : decode cX8_ill 22 = .ok (.iload_n 1, 1) := by decide +kernel
theorem dX8_ill_23 : decode cX8_ill 23 = .ok (.iaload, 1) := by decide +kernel
theorem dX8_ill_24 : decode cX8_ill 24 = .ok (.iconst 1, 1) := by decide +kernel
theorem dX8_ill_25 : decode cX8_ill 25 = .ok (.if_icmp .ne 7, 3) := by decide +kernel
theorem dX8_ill_28 : decode cX8_ill 28 = .ok (.iconst 1, 1) := by decide +kernel
theorem dX8_ill_29 : decode cX8_ill 29 = .ok (.goto 4, 3) := by decide +kernel
theorem dX8_ill_32 : decode cX8_ill 32 = .ok (.iconst 0, 1) := by decide +kernel
theorem dX8_ill_33 : decode cX8_ill 33 = .ok (.iload_n 2, 1) := by decide +kernel
theorem dX8_ill_34 : decode cX8_ill 34 = .ok (.if_icmp .ne 5, 3) := by decide +kernel
theorem dX8_ill_37 : decode cX8_ill 37 = .ok (.iconst 0, 1) := by decide +kernel
theorem dX8_ill_38 : decode cX8_ill 38 = .ok (.ireturn, 1) := by decide +kernel
theorem dX8_ill_39 : decode cX8_ill 39 = .ok (.aload_n 0, 1) := by decide +kernel
theorem dX8_ill_40 : decode cX8_ill 40 = .ok (.getfield 26, 3) := by decide +kernel
theorem dX8_ill_43 : decode cX8_ill 43 = .ok (.iload_n 1, 1) := by decide +kernel
theorem dX8_ill_44 : decode cX8_ill 44 = .ok (.iload_n 2, 1) := by decide +kernel
theorem dX8_ill_45 : decode cX8_ill 45 = .ok (.ifCond .eq 7, 3) := by decide +kernel
theorem dX8_ill_48 : decode cX8_ill 48 = .ok (.iconst 1, 1) := by decide +kernel
theorem dX8_ill_49 : decode cX8_ill 49 = .ok (.goto 4, 3) := by decide +kernel
theorem dX8_ill_52 : decode cX8_ill 52 = .ok (.iconst 0, 1) := by decide +kernel
theorem dX8_ill_53 : decode cX8_ill 53 = .ok (.iastore, 1) := by decide +kernel
theorem dX8_ill_54 : decode cX8_ill 54 = .ok (.iconst 1, 1) := by decide +kernel
theorem dX8_ill_55 : decode cX8_ill 55 = .ok (.ireturn, 1) := by decide +kernel
theorem dX8_old_0 : decode cX8_old 0 = .ok (.aload_n 0, 1) := by decide +kernel
theorem dX8_old_1 : decode cX8_old 1 = .ok (.iload_n 1, 1) := by decide +kernel
theorem dX8_old_2 : decode cX8_old 2 = .ok (.invokevirtual 105, 3) := by decide +kernel
theorem dX8_old_5 : decode cX8_old 5 = .ok (.ifCond .eq 13, 3) := by decide +kernel
theorem dX8_old_8 : decode cX8_old 8 = .ok (.aload_n 0, 1) := by decide +kernel
theorem dX8_old_9 : decode cX8_old 9 = .ok (.getfield 26, 3) := by decide +kernel
theorem dX8_old_12 : decode cX8_old 12 = .ok (.iload_n 1, 1) := by decide +kernel
theorem dX8_old_13 : decode cX8_old 13 = .ok (.iaload, 1) := by decide +kernel
theorem dX8_old_14 : decode cX8_old 14 = .ok (.iconst 2, 1) := by decide +kernel
theorem dX8_old_15 : decode cX8_old 15 = .ok (.if_icmp .ne 5, 3) := by decide +kernel
theorem dX8_old_18 : decode cX8_old 18 = .ok (.iconst 0, 1) := by decide +kernel
theorem dX8_old_19 : decode cX8_old 19 = .ok (.ireturn, 1) := by decide +kernel
theorem dX8_old_20 : decode cX8_old 20 = .ok (.aload_n 0, 1) := by decide +kernel
theorem dX8_old_21 : decode cX8_old 21 = .ok (.getfield 26, 3) := by decide +kernel
theorem dX8_old_24 : decode cX8_old 24 = .ok (.iload_n 1, 1) := by decide +kernel
theorem dX8_old_25 : decode cX8_old 25 = .ok (.iconst 2, 1) := by decide +kernel
theorem dX8_old_26 : decode cX8_old 26 = .ok (.iastore, 1) := by decide +kernel
theorem dX8_old_27 : decode cX8_old 27 = .ok (.iconst 1, 1) := by decide +kernel
theorem dX8_old_28 : decode cX8_old 28 = .ok (.ireturn, 1) := by decide +kernel
theorem dX8_pieces_0 : decode cX8_pieces 0 = .ok (.iload_n 1, 1) := by decide +kernel
theorem dX8_pieces_1 : decode cX8_pieces 1 = .ok (.iconst 0, 1) := by decide +kernel
theorem dX8_pieces_2 : decode cX8_pieces 2 = .ok (.iconst 4, 1) := by decide +kernel
theorem dX8_pieces_3 : decode cX8_pieces 3 = .ok (.invokestatic 91, 3) := by decide +kernel
theorem dX8_pieces_6 : decode cX8_pieces 6 = .ok (.ifCond .eq 12, 3) := by decide +kernel
theorem dX8_pieces_9 : decode cX8_pieces 9 = .ok (.iload_n 2, 1) := by decide +kernel
theorem dX8_pieces_10 : decode cX8_pieces 10 = .ok (.iconst 0, 1) := by decide +kernel
theorem dX8_pieces_11 : decode cX8_pieces 11 = .ok (.iconst 3, 1) := by decide +kernel
theorem dX8_pieces_12 : decode cX8_pieces 12 = .ok (.invokestatic 91, 3) := by decide +kernel
theorem dX8_pieces_15 : decode cX8_pieces 15 = .ok (.ifCond .ne 5, 3) := by decide +kernel
theorem dX8_pieces_18 : decode cX8_pieces 18 = .ok (.iconst 0, 1) := by decide +kernel
theorem dX8_pieces_19 : decode cX8_pieces 19 = .ok (.ireturn, 1) := by decide +kernel
theorem dX8_pieces_20 : decode cX8_pieces 20 = .ok (.aload_n 0, 1) := by decide +kernel
theorem dX8_pieces_21 : decode cX8_pieces 21 = .ok (.getfield 32, 3) := by decide +kernel
theorem dX8_pieces_24 : decode cX8_pieces 24 = .ok (.iload_n 1, 1) := by decide +kernel
theorem dX8_pieces_25 : decode cX8_pieces 25 = .ok (.iload_n 2, 1) := by decide +kernel
theorem dX8_pieces_26 : decode cX8_pieces 26 = .ok (.iastore, 1) := by decide +kernel
theorem dX8_pieces_27 : decode cX8_pieces 27 = .ok (.iconst 1, 1) := by decide +kernel
theorem dX8_pieces_28 : decode cX8_pieces 28 = .ok (.ireturn, 1) := by decide +kernel
theorem dX8_isInstrument_0 : decode cX8_isInstrument 0 = .ok (.iload_n 0, 1) := by decide +kernel
theorem dX8_isInstrument_1 : decode cX8_isInstrument 1 = .ok (.iconst 0, 1) := by decide +kernel
theorem dX8_isInstrument_2 : decode cX8_isInstrument 2 = .ok (.iconst 4, 1) := by decide +kernel
theorem dX8_isInstrument_3 : decode cX8_isInstrument 3 = .ok (.invokestatic 91, 3) := by decide +kernel
theorem dX8_isInstrument_6 : decode cX8_isInstrument 6 = .ok (.ireturn, 1) := by decide +kernel
theorem dX8_isCall_0 : decode cX8_isCall 0 = .ok (.iload_n 1, 1) := by decide +kernel
theorem dX8_isCall_1 : decode cX8_isCall 1 = .ok (.iconst 0, 1) := by decide +kernel
theorem dX8_isCall_2 : decode cX8_isCall 2 = .ok (.iconst 5, 1) := by decide +kernel
theorem dX8_isCall_3 : decode cX8_isCall 3 = .ok (.invokestatic 91, 3) := by decide +kernel
theorem dX8_isCall_6 : decode cX8_isCall 6 = .ok (.ifCond .eq 20, 3) := by decide +kernel
theorem dX8_isCall_9 : decode cX8_isCall 9 = .ok (.aload_n 0, 1) := by decide +kernel
theorem dX8_isCall_10 : decode cX8_isCall 10 = .ok (.getfield 35, 3) := by decide +kernel
theorem dX8_isCall_13 : decode cX8_isCall 13 = .ok (.bipush 8, 2) := by decide +kernel
theorem dX8_isCall_15 : decode cX8_isCall 15 = .ok (.iload_n 1, 1) := by decide +kernel
theorem dX8_isCall_16 : decode cX8_isCall 16 = .ok (.imul, 1) := by decide +kernel
theorem dX8_isCall_17 : decode cX8_isCall 17 = .ok (.iaload, 1) := by decide +kernel
theorem dX8_isCall_18 : decode cX8_isCall 18 = .ok (.iconst (-1), 1) := by decide +kernel
theorem dX8_isCall_19 : decode cX8_isCall 19 = .ok (.if_icmp .eq 7, 3) := by decide +kernel
theorem dX8_isCall_22 : decode cX8_isCall 22 = .ok (.iconst 1, 1) := by decide +kernel
theorem dX8_isCall_23 : decode cX8_isCall 23 = .ok (.goto 4, 3) := by decide +kernel
theorem dX8_isCall_26 : decode cX8_isCall 26 = .ok (.iconst 0, 1) := by decide +kernel
theorem dX8_isCall_27 : decode cX8_isCall 27 = .ok (.ireturn, 1) := by decide +kernel
theorem dX8_of_0 : decode cX8_of 0 = .ok (.aload_n 0, 1) := by decide +kernel
theorem dX8_of_1 : decode cX8_of 1 = .ok (.getfield 35, 3) := by decide +kernel
theorem dX8_of_4 : decode cX8_of 4 = .ok (.bipush 8, 2) := by decide +kernel
theorem dX8_of_6 : decode cX8_of 6 = .ok (.iload_n 1, 1) := by decide +kernel
theorem dX8_of_7 : decode cX8_of 7 = .ok (.imul, 1) := by decide +kernel
theorem dX8_of_8 : decode cX8_of 8 = .ok (.iload_n 2, 1) := by decide +kernel
