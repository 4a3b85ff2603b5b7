theorem dX8_of_9 : decode cX8_of 9 = .ok (.iadd, 1) := by decide +kernel
theorem dX8_of_10 : decode cX8_of 10 = .ok (.iaload, 1) := by decide +kernel
theorem dX8_of_11 : decode cX8_of 11 = .ok (.ireturn, 1) := by decide +kernel
theorem dX8_call_0 : decode cX8_call 0 = .ok (.iload_n 1, 1) := by decide +kernel
theorem dX8_call_1 : decode cX8_call 1 = .ok (.iconst 0, 1) := by decide +kernel
theorem dX8_call_2 : decode cX8_call 2 = .ok (.iconst 3, 1) := by decide +kernel
theorem dX8_call_3 : decode cX8_call 3 = .ok (.invokestatic 91, 3) := by decide +kernel
theorem dX8_call_6 : decode cX8_call 6 = .ok (.ifCond .eq 86, 3) := by decide +kernel
theorem dX8_call_9 : decode cX8_call 9 = .ok (.iload_n 2, 1) := by decide +kernel
theorem dX8_call_10 : decode cX8_call 10 = .ok (.iconst 0, 1) := by decide +kernel
theorem dX8_call_11 : decode cX8_call 11 = .ok (.bipush 95, 2) := by decide +kernel
theorem dX8_call_13 : decode cX8_call 13 = .ok (.invokestatic 91, 3) := by decide +kernel
theorem dX8_call_16 : decode cX8_call 16 = .ok (.ifCond .eq 76, 3) := by decide +kernel
theorem dX8_call_19 : decode cX8_call 19 = .ok (.iload_n 3, 1) := by decide +kernel
theorem dX8_call_20 : decode cX8_call 20 = .ok (.iconst 1, 1) := by decide +kernel
theorem dX8_call_21 : decode cX8_call 21 = .ok (.bipush 24, 2) := by decide +kernel
theorem dX8_call_23 : decode cX8_call 23 = .ok (.invokestatic 91, 3) := by decide +kernel
theorem dX8_call_26 : decode cX8_call 26 = .ok (.ifCond .eq 66, 3) := by decide +kernel
theorem dX8_call_29 : decode cX8_call 29 = .ok (.iload_n 2, 1) := by decide +kernel
theorem dX8_call_30 : decode cX8_call 30 = .ok (.iload_n 3, 1) := by decide +kernel
theorem dX8_call_31 : decode cX8_call 31 = .ok (.iadd, 1) := by decide +kernel
theorem dX8_call_32 : decode cX8_call 32 = .ok (.bipush 96, 2) := by decide +kernel
theorem dX8_call_34 : decode cX8_call 34 = .ok (.if_icmp .gt 58, 3) := by decide +kernel
theorem dX8_call_37 : decode cX8_call 37 = .ok (.iload 4, 2) := by decide +kernel
theorem dX8_call_39 : decode cX8_call 39 = .ok (.iconst 0, 1) := by decide +kernel
theorem dX8_call_40 : decode cX8_call 40 = .ok (.bipush 9, 2) := by decide +kernel
theorem dX8_call_42 : decode cX8_call 42 = .ok (.invokestatic 91, 3) := by decide +kernel
theorem dX8_call_45 : decode cX8_call 45 = .ok (.ifCond .eq 47, 3) := by decide +kernel
theorem dX8_call_48 : decode cX8_call 48 = .ok (.iload 5, 2) := by decide +kernel
theorem dX8_call_50 : decode cX8_call 50 = .ok (.iconst 0, 1) := by decide +kernel
theorem dX8_call_51 : decode cX8_call 51 = .ok (.iconst 5, 1) := by decide +kernel
theorem dX8_call_52 : decode cX8_call 52 = .ok (.invokestatic 91, 3) := by decide +kernel
theorem dX8_call_55 : decode cX8_call 55 = .ok (.ifCond .eq 37, 3) := by decide +kernel
theorem dX8_call_58 : decode cX8_call 58 = .ok (.iload 6, 2) := by decide +kernel
theorem dX8_call_60 : decode cX8_call 60 = .ok (.invokestatic 109, 3) := by decide +kernel
theorem dX8_call_63 : decode cX8_call 63 = .ok (.ifCond .eq 29, 3) := by decide +kernel
theorem dX8_call_66 : decode cX8_call 66 = .ok (.iload 7, 2) := by decide +kernel
theorem dX8_call_68 : decode cX8_call 68 = .ok (.iconst (-1), 1) := by decide +kernel
theorem dX8_call_69 : decode cX8_call 69 = .ok (.if_icmp .eq 11, 3) := by decide +kernel
theorem dX8_call_72 : decode cX8_call 72 = .ok (.iload 7, 2) := by decide +kernel
theorem dX8_call_74 : decode cX8_call 74 = .ok (.invokestatic 109, 3) := by decide +kernel
theorem dX8_call_77 : decode cX8_call 77 = .ok (.ifCond .eq 15, 3) := by decide +kernel
theorem dX8_call_80 : decode cX8_call 80 = .ok (.iload 8, 2) := by decide +kernel
theorem dX8_call_82 : decode cX8_call 82 = .ok (.iconst 0, 1) := by decide +kernel
theorem dX8_call_83 : decode cX8_call 83 = .ok (.sipush 9999, 3) := by decide +kernel
theorem dX8_call_86 : decode cX8_call 86 = .ok (.invokestatic 91, 3) := by decide +kernel
theorem dX8_call_89 : decode cX8_call 89 = .ok (.ifCond .ne 5, 3) := by decide +kernel
theorem dX8_call_92 : decode cX8_call 92 = .ok (.iconst (-1), 1) := by decide +kernel
theorem dX8_call_93 : decode cX8_call 93 = .ok (.ireturn, 1) := by decide +kernel
theorem dX8_call_94 : decode cX8_call 94 = .ok (.iconst 0, 1) := by decide +kernel
theorem dX8_call_95 : decode cX8_call 95 = .ok (.istore 9, 2) := by decide +kernel
theorem dX8_call_97 : decode cX8_call 97 = .ok (.iload 9, 2) := by decide +kernel
theorem dX8_call_99 : decode cX8_call 99 = .ok (.bipush 6, 2) := by decide +kernel
theorem dX8_call_101 : decode cX8_call 101 = .ok (.if_icmp .ge 133, 3) := by decide +kernel
theorem dX8_call_104 : decode cX8_call 104 = .ok (.aload_n 0, 1) := by decide +kernel
theorem dX8_call_105 : decode cX8_call 105 = .ok (.iload 9, 2) := by decide +kernel
theorem dX8_call_107 : decode cX8_call 107 = .ok (.invokevirtual 112, 3) := by decide +kernel
theorem dX8_call_110 : decode cX8_call 110 = .ok (.ifCond .eq 6, 3) := by decide +kernel
theorem dX8_call_113 : decode cX8_call 113 = .ok (.goto 115, 3) := by decide +kernel
theorem dX8_call_116 : decode cX8_call 116 = .ok (.aload_n 0, 1) := by decide +kernel
theorem dX8_call_117 : decode cX8_call 117 = .ok (.getfield 35, 3) := by decide +kernel
theorem dX8_call_120 : decode cX8_call 120 = .ok (.bipush 8, 2) := by decide +kernel
theorem dX8_call_122 : decode cX8_call 122 = .ok (.iload 9, 2) := by decide +kernel
theorem dX8_call_124 : decode cX8_call 124 = .ok (.imul, 1) := by decide +kernel
theorem dX8_call_125 : decode cX8_call 125 = .ok (.iload_n 1, 1) := by decide +kernel
theorem dX8_call_126 : decode cX8_call 126 = .ok (.iastore, 1) := by decide +kernel
theorem dX8_call_127 : decode cX8_call 127 = .ok (.aload_n 0, 1) := by decide +kernel
theorem dX8_call_128 : decode cX8_call 128 = .ok (.getfield 35, 3) := by decide +kernel
theorem dX8_call_131 : decode cX8_call 131 = .ok (.bipush 8, 2) := by decide +kernel
theorem dX8_call_133 : decode cX8_call 133 = .ok (.iload 9, 2) := by decide +kernel
theorem dX8_call_135 : decode cX8_call 135 = .ok (.imul, 1) := by decide +kernel
theorem dX8_call_136 : decode cX8_call 136 = .ok (.iconst 1, 1) := by decide +kernel
theorem dX8_call_137 : decode cX8_call 137 = .ok (.iadd, 1) := by decide +kernel
theorem dX8_call_138 : decode cX8_call 138 = .ok (.iload_n 2, 1) := by decide +kernel
theorem dX8_call_139 : decode cX8_call 139 = .ok (.iastore, 1) := by decide +kernel
theorem dX8_call_140 : decode cX8_call 140 = .ok (.aload_n 0, 1) := by decide +kernel
theorem dX8_call_141 : decode cX8_call 141 = .ok (.getfield 35, 3) := by decide +kernel
theorem dX8_call_144 : decode cX8_call 144 = .ok (.bipush 8, 2) := by decide +kernel
theorem dX8_call_146 : decode cX8_call 146 = .ok (.iload 9, 2) := by decide +kernel
theorem dX8_call_148 : decode cX8_call 148 = .ok (.imul, 1) := by decide +kernel
theorem dX8_call_149 : decode cX8_call 149 = .ok (.iconst 2, 1) := by decide +kernel
theorem dX8_call_150 : decode cX8_call 150 = .ok (.iadd, 1) := by decide +kernel
theorem dX8_call_151 : decode cX8_call 151 = .ok (.iload_n 3, 1) := by decide +kernel
theorem dX8_call_152 : decode cX8_call 152 = .ok (.iastore, 1) := by decide +kernel
theorem dX8_call_153 : decode cX8_call 153 = .ok (.aload_n 0, 1) := by decide +kernel
theorem dX8_call_154 : decode cX8_call 154 = .ok (.getfield 35, 3) := by decide +kernel
theorem dX8_call_157 : decode cX8_call 157 = .ok (.bipush 8, 2) := by decide +kernel
theorem dX8_call_159 : decode cX8_call 159 = .ok (.iload 9, 2) := by decide +kernel
theorem dX8_call_161 : decode cX8_call 161 = .ok (.imul, 1) := by decide +kernel
theorem dX8_call_162 : decode cX8_call 162 = .ok (.iconst 3, 1) := by decide +kernel
theorem dX8_call_163 : decode cX8_call 163 = .ok (.iadd, 1) := by decide +kernel
theorem dX8_call_164 : decode cX8_call 164 = .ok (.iload 4, 2) := by decide +kernel
theorem dX8_call_166 : decode cX8_call 166 = .ok (.iastore, 1) := by decide +kernel
theorem dX8_call_167 : decode cX8_call 167 = .ok (.aload_n 0, 1) := by decide +kernel
theorem dX8_call_168 : decode cX8_call 168 = .ok (.getfield 35, 3) := by decide +kernel
theorem dX8_call_171 : decode cX8_call 171 = .ok (.bipush 8, 2) := by decide +kernel
theorem dX8_call_173 : decode cX8_call 173 = .ok (.iload 9, 2) := by decide +kernel
theorem dX8_call_175 : decode cX8_call 175 = .ok (.imul, 1) := by decide +kernel
theorem dX8_call_176 : decode cX8_call 176 = .ok (.iconst 4, 1) := by decide +kernel
theorem dX8_call_177 : decode cX8_call 177 = .ok (.iadd, 1) := by decide +kernel
theorem dX8_call_178 : decode cX8_call 178 = .ok (.iload 5, 2) := by decide +kernel
theorem dX8_call_180 : decode cX8_call 180 = .ok (.iastore, 1) := by decide +kernel
theorem dX8_call_181 : decode cX8_call 181 = .ok (.aload_n 0, 1) := by decide +kernel
theorem dX8_call_182 : decode cX8_call 182 = .ok (.getfield 35, 3) := by decide +kernel
theorem dX8_call_185 : decode cX8_call 185 = .ok (.bipush 8, 2) := by decide +kernel
theorem dX8_call_187 : decode cX8_call 187 = .ok (.iload 9, 2) := by decide +kernel
theorem dX8_call_189 : decode cX8_call 189 = .ok (.imul, 1) := by decide +kernel
theorem dX8_call_190 : decode cX8_call 190 = .ok (.iconst 5, 1) := by decide +kernel
theorem dX8_call_191 : decode cX8_call 191 = .ok (.iadd, 1) := by decide +kernel
theorem dX8_call_192 : decode cX8_call 192 = .ok (.iload 6, 2) := by decide +kernel
theorem dX8_call_194 : decode cX8_call 194 = .ok (.iastore, 1) := by decide +kernel
theorem dX8_call_195 : decode cX8_call 195 = .ok (.aload_n 0, 1) := by decide +kernel
theorem dX8_call_196 : decode cX8_call 196 = .ok (.getfield 35, 3) := by decide +kernel
theorem dX8_call_199 : decode cX8_call 199 = .ok (.bipush 8, 2) := by decide +kernel
theorem dX8_call_201 : decode cX8_call 201 = .ok (.iload 9, 2) := by decide +kernel
theorem dX8_call_203 : decode cX8_call 203 = .ok (.imul, 1) := by decide +kernel
theorem dX8_call_204 : decode cX8_call 204 = .ok (.bipush 6, 2) := by decide +kernel
theorem dX8_call_206 : decode cX8_call 206 = .ok (.iadd, 1) := by decide +kernel
theorem dX8_call_207 : decode cX8_call 207 = .ok (.iload 7, 2) := by decide +kernel
theorem dX8_call_209 : decode cX8_call 209 = .ok (.iastore, 1) := by decide +kernel
theorem dX8_call_210 : decode cX8_call 210 = .ok (.aload_n 0, 1) := by decide +kernel
theorem dX8_call_211 : decode cX8_call 211 = .ok (.getfield 35, 3) := by decide +kernel
theorem dX8_call_214 : decode cX8_call 214 = .ok (.bipush 8, 2) := by decide +kernel
theorem dX8_call_216 : decode cX8_call 216 = .ok (.iload 9, 2) := by decide +kernel
theorem dX8_call_218 : decode cX8_call 218 = .ok (.imul, 1) := by decide +kernel
theorem dX8_call_219 : decode cX8_call 219 = .ok (.bipush 7, 2) := by decide +kernel
theorem dX8_call_221 : decode cX8_call 221 = .ok (.iadd, 1) := by decide +kernel
theorem dX8_call_222 : decode cX8_call 222 = .ok (.iload 8, 2) := by decide +kernel
theorem dX8_call_224 : decode cX8_call 224 = .ok (.iastore, 1) := by decide +kernel
theorem dX8_call_225 : decode cX8_call 225 = .ok (.iload 9, 2) := by decide +kernel
theorem dX8_call_227 : decode cX8_call 227 = .ok (.ireturn, 1) := by decide +kernel
theorem dX8_call_228 : decode cX8_call 228 = .ok (.iinc 9 1, 3) := by decide +kernel
theorem dX8_call_231 : decode cX8_call 231 = .ok (.goto (-134), 3) := by decide +kernel
theorem dX8_call_234 : decode cX8_call 234 = .ok (.iconst (-1), 1) := by decide +kernel
theorem dX8_call_235 : decode cX8_call 235 = .ok (.ireturn, 1) := by decide +kernel
theorem dX8_off_0 : decode cX8_off 0 = .ok (.aload_n 0, 1) := by decide +kernel
theorem dX8_off_1 : decode cX8_off 1 = .ok (.iload_n 1, 1) := by decide +kernel
theorem dX8_off_2 : decode cX8_off 2 = .ok (.invokevirtual 112, 3) := by decide +kernel
theorem dX8_off_5 : decode cX8_off 5 = .ok (.ifCond .ne 5, 3) := by decide +kernel
theorem dX8_off_8 : decode cX8_off 8 = .ok (.iconst 0, 1) := by decide +kernel
theorem dX8_off_9 : decode cX8_off 9 = .ok (.ireturn, 1) := by decide +kernel
theorem dX8_off_10 : decode cX8_off 10 = .ok (.aload_n 0, 1) := by decide +kernel
theorem dX8_off_11 : decode cX8_off 11 = .ok (.getfield 35, 3) := by decide +kernel
theorem dX8_off_14 : decode cX8_off 14 = .ok (.bipush 8, 2) := by decide +kernel
theorem dX8_off_16 : decode cX8_off 16 = .ok (.iload_n 1, 1) := by decide +kernel
theorem dX8_off_17 : decode cX8_off 17 = .ok (.imul, 1) := by decide +kernel
theorem dX8_off_18 : decode cX8_off 18 = .ok (.iconst (-1), 1) := by decide +kernel
theorem dX8_off_19 : decode cX8_off 19 = .ok (.iastore, 1) := by decide +kernel
theorem dX8_off_20 : decode cX8_off 20 = .ok (.iconst 1, 1) := by decide +kernel
theorem dX8_off_21 : decode cX8_off 21 = .ok (.ireturn, 1) := by decide +kernel
theorem dX8_sorts_0 : decode cX8_sorts 0 = .ok (.aload_n 0, 1) := by decide +kernel
theorem dX8_sorts_1 : decode cX8_sorts 1 = .ok (.iconst 0, 1) := by decide +kernel
theorem dX8_sorts_2 : decode cX8_sorts 2 = .ok (.putfield 115, 3) := by decide +kernel
theorem dX8_sorts_5 : decode cX8_sorts 5 = .ok (.iconst 0, 1) := by decide +kernel
theorem dX8_sorts_6 : decode cX8_sorts 6 = .ok (.istore_n 1, 1) := by decide +kernel
theorem dX8_sorts_7 : decode cX8_sorts 7 = .ok (.iload_n 1, 1) := by decide +kernel
theorem dX8_sorts_8 : decode cX8_sorts 8 = .ok (.iconst 4, 1) := by decide +kernel
theorem dX8_sorts_9 : decode cX8_sorts 9 = .ok (.if_icmp .ge 64, 3) := by decide +kernel
theorem dX8_sorts_12 : decode cX8_sorts 12 = .ok (.iconst 0, 1) := by decide +kernel
theorem dX8_sorts_13 : decode cX8_sorts 13 = .ok (.istore_n 2, 1) := by decide +kernel
theorem dX8_sorts_14 : decode cX8_sorts 14 = .ok (.iload_n 2, 1) := by decide +kernel
theorem dX8_sorts_15 : decode cX8_sorts 15 = .ok (.bipush 6, 2) := by decide +kernel
theorem dX8_sorts_17 : decode cX8_sorts 17 = .ok (.if_icmp .ge 50, 3) := by decide +kernel
theorem dX8_sorts_20 : decode cX8_sorts 20 = .ok (.aload_n 0, 1) := by decide +kernel
theorem dX8_sorts_21 : decode cX8_sorts 21 = .ok (.iload_n 2, 1) := by decide +kernel
theorem dX8_sorts_22 : decode cX8_sorts 22 = .ok (.invokevirtual 112, 3) := by decide +kernel
theorem dX8_sorts_25 : decode cX8_sorts 25 = .ok (.ifCond .eq 36, 3) := by decide +kernel
theorem dX8_sorts_28 : decode cX8_sorts 28 = .ok (.aload_n 0, 1) := by decide +kernel
theorem dX8_sorts_29 : decode cX8_sorts 29 = .ok (.iload_n 2, 1) := by decide +kernel
theorem dX8_sorts_30 : decode cX8_sorts 30 = .ok (.iconst 0, 1) := by decide +kernel
theorem dX8_sorts_31 : decode cX8_sorts 31 = .ok (.invokevirtual 118, 3) := by decide +kernel
theorem dX8_sorts_34 : decode cX8_sorts 34 = .ok (.iload_n 1, 1) := by decide +kernel
theorem dX8_sorts_35 : decode cX8_sorts 35 = .ok (.if_icmp .eq 6, 3) := by decide +kernel
theorem dX8_sorts_38 : decode cX8_sorts 38 = .ok (.goto 23, 3) := by decide +kernel
theorem dX8_sorts_41 : decode cX8_sorts 41 = .ok (.aload_n 0, 1) := by decide +kernel
theorem dX8_sorts_42 : decode cX8_sorts 42 = .ok (.getfield 50, 3) := by decide +kernel
theorem dX8_sorts_45 : decode cX8_sorts 45 = .ok (.aload_n 0, 1) := by decide +kernel
theorem dX8_sorts_46 : decode cX8_sorts 46 = .ok (.getfield 115, 3) := by decide +kernel
theorem dX8_sorts_49 : decode cX8_sorts 49 = .ok (.iload_n 2, 1) := by decide +kernel
theorem dX8_sorts_50 : decode cX8_sorts 50 = .ok (.iastore, 1) := by decide +kernel
theorem dX8_sorts_51 : decode cX8_sorts 51 = .ok (.aload_n 0, 1) := by decide +kernel
theorem dX8_sorts_52 : decode cX8_sorts 52 = .ok (.dup, 1) := by decide +kernel
theorem dX8_sorts_53 : decode cX8_sorts 53 = .ok (.getfield 115, 3) := by decide +kernel
theorem dX8_sorts_56 : decode cX8_sorts 56 = .ok (.iconst 1, 1) := by decide +kernel
theorem dX8_sorts_57 : decode cX8_sorts 57 = .ok (.iadd, 1) := by decide +kernel
theorem dX8_sorts_58 : decode cX8_sorts 58 = .ok (.putfield 115, 3) := by decide +kernel
theorem dX8_sorts_61 : decode cX8_sorts 61 = .ok (.iinc 2 1, 3) := by decide +kernel
theorem dX8_sorts_64 : decode cX8_sorts 64 = .ok (.goto (-50), 3) := by decide +kernel
theorem dX8_sorts_67 : decode cX8_sorts 67 = .ok (.iinc 1 1, 3) := by decide +kernel
theorem dX8_sorts_70 : decode cX8_sorts 70 = .ok (.goto (-63), 3) := by decide +kernel
theorem dX8_sorts_73 : decode cX8_sorts 73 = .ok (.return_, 1) := by decide +kernel
theorem dX8_apart_0 : decode cX8_apart 0 = .ok (.iload_n 0, 1) := by decide +kernel
theorem dX8_apart_1 : decode cX8_apart 1 = .ok (.iload_n 1, 1) := by decide +kernel
theorem dX8_apart_2 : decode cX8_apart 2 = .ok (.if_icmp .ge 9, 3) := by decide +kernel
theorem dX8_apart_5 : decode cX8_apart 5 = .ok (.iload_n 1, 1) := by decide +kernel
theorem dX8_apart_6 : decode cX8_apart 6 = .ok (.iload_n 0, 1) := by decide +kernel
theorem dX8_apart_7 : decode cX8_apart 7 = .ok (.isub, 1) := by decide +kernel
theorem dX8_apart_8 : decode cX8_apart 8 = .ok (.goto 6, 3) := by decide +kernel
theorem dX8_apart_11 : decode cX8_apart 11 = .ok (.iload_n 0, 1) := by decide +kernel
theorem dX8_apart_12 : decode cX8_apart 12 = .ok (.iload_n 1, 1) := by decide +kernel
theorem dX8_apart_13 : decode cX8_apart 13 = .ok (.isub, 1) := by decide +kernel
theorem dX8_apart_14 : decode cX8_apart 14 = .ok (.ireturn, 1) := by decide +kernel
theorem dX8_goes_0 : decode cX8_goes 0 = .ok (.aload_n 0, 1) := by decide +kernel
theorem dX8_goes_1 : decode cX8_goes 1 = .ok (.iload_n 1, 1) := by decide +kernel
theorem dX8_goes_2 : decode cX8_goes 2 = .ok (.iconst 1, 1) := by decide +kernel
theorem dX8_goes_3 : decode cX8_goes 3 = .ok (.invokevirtual 118, 3) := by decide +kernel
theorem dX8_goes_6 : decode cX8_goes 6 = .ok (.aload_n 0, 1) := by decide +kernel
theorem dX8_goes_7 : decode cX8_goes 7 = .ok (.iload_n 2, 1) := by decide +kernel
theorem dX8_goes_8 : decode cX8_goes 8 = .ok (.iconst 1, 1) := by decide +kernel
theorem dX8_goes_9 : decode cX8_goes 9 = .ok (.invokevirtual 118, 3) := by decide +kernel
theorem dX8_goes_12 : decode cX8_goes 12 = .ok (.if_icmp .lt 23, 3) := by decide +kernel
theorem dX8_goes_15 : decode cX8_goes 15 = .ok (.aload_n 0, 1) := by decide +kernel
theorem dX8_goes_16 : decode cX8_goes 16 = .ok (.iload_n 1, 1) := by decide +kernel
theorem dX8_goes_17 : decode cX8_goes 17 = .ok (.iconst 1, 1) := by decide +kernel
theorem dX8_goes_18 : decode cX8_goes 18 = .ok (.invokevirtual 118, 3) := by decide +kernel
theorem dX8_goes_21 : decode cX8_goes 21 = .ok (.aload_n 0, 1) := by decide +kernel
theorem dX8_goes_22 : decode cX8_goes 22 = .ok (.iload_n 2, 1) := by decide +kernel
theorem dX8_goes_23 : decode cX8_goes 23 = .ok (.iconst 1, 1) := by decide +kernel
theorem dX8_goes_24 : decode cX8_goes 24 = .ok (.invokevirtual 118, 3) := by decide +kernel
theorem dX8_goes_27 : decode cX8_goes 27 = .ok (.if_icmp .ne 12, 3) := by decide +kernel
theorem dX8_goes_30 : decode cX8_goes 30 = .ok (.iload_n 1, 1) := by decide +kernel
theorem dX8_goes_31 : decode cX8_goes 31 = .ok (.iload_n 2, 1) := by decide +kernel
theorem dX8_goes_32 : decode cX8_goes 32 = .ok (.if_icmp .ge 7, 3) := by decide +kernel
theorem dX8_goes_35 : decode cX8_goes 35 = .ok (.iconst 1, 1) := by decide +kernel
theorem dX8_goes_36 : decode cX8_goes 36 = .ok (.goto 4, 3) := by decide +kernel
theorem dX8_goes_39 : decode cX8_goes 39 = .ok (.iconst 0, 1) := by decide +kernel
theorem dX8_goes_40 : decode cX8_goes 40 = .ok (.istore_n 3, 1) := by decide +kernel
theorem dX8_goes_41 : decode cX8_goes 41 = .ok (.iload_n 3, 1) := by decide +kernel
theorem dX8_goes_42 : decode cX8_goes 42 = .ok (.ifCond .eq 7, 3) := by decide +kernel
theorem dX8_goes_45 : decode cX8_goes 45 = .ok (.iload_n 1, 1) := by decide +kernel
theorem dX8_goes_46 : decode cX8_goes 46 = .ok (.goto 4, 3) := by decide +kernel
theorem dX8_goes_49 : decode cX8_goes 49 = .ok (.iload_n 2, 1) := by decide +kernel
theorem dX8_goes_50 : decode cX8_goes 50 = .ok (.istore 4, 2) := by decide +kernel
theorem dX8_goes_52 : decode cX8_goes 52 = .ok (.iload_n 3, 1) := by decide +kernel
theorem dX8_goes_53 : decode cX8_goes 53 = .ok (.ifCond .eq 7, 3) := by decide +kernel
theorem dX8_goes_56 : decode cX8_goes 56 = .ok (.iload_n 2, 1) := by decide +kernel
theorem dX8_goes_57 : decode cX8_goes 57 = .ok (.goto 4, 3) := by decide +kernel
theorem dX8_goes_60 : decode cX8_goes 60 = .ok (.iload_n 1, 1) := by decide +kernel
theorem dX8_goes_61 : decode cX8_goes 61 = .ok (.istore 5, 2) := by decide +kernel
theorem dX8_goes_63 : decode cX8_goes 63 = .ok (.aload_n 0, 1) := by decide +kernel
theorem dX8_goes_64 : decode cX8_goes 64 = .ok (.iload 5, 2) := by decide +kernel
theorem dX8_goes_66 : decode cX8_goes 66 = .ok (.iconst 1, 1) := by decide +kernel
theorem dX8_goes_67 : decode cX8_goes 67 = .ok (.invokevirtual 118, 3) := by decide +kernel
theorem dX8_goes_70 : decode cX8_goes 70 = .ok (.aload_n 0, 1) := by decide +kernel
theorem dX8_goes_71 : decode cX8_goes 71 = .ok (.iload 4, 2) := by decide +kernel
theorem dX8_goes_73 : decode cX8_goes 73 = .ok (.iconst 1, 1) := by decide +kernel
theorem dX8_goes_74 : decode cX8_goes 74 = .ok (.invokevirtual 118, 3) := by decide +kernel
theorem dX8_goes_77 : decode cX8_goes 77 = .ok (.aload_n 0, 1) := by decide +kernel
theorem dX8_goes_78 : decode cX8_goes 78 = .ok (.iload 4, 2) := by decide +kernel
theorem dX8_goes_80 : decode cX8_goes 80 = .ok (.iconst 2, 1) := by decide +kernel
theorem dX8_goes_81 : decode cX8_goes 81 = .ok (.invokevirtual 118, 3) := by decide +kernel
theorem dX8_goes_84 : decode cX8_goes 84 = .ok (.iadd, 1) := by decide +kernel
theorem dX8_goes_85 : decode cX8_goes 85 = .ok (.aload_n 0, 1) := by decide +kernel
theorem dX8_goes_86 : decode cX8_goes 86 = .ok (.getfield 13, 3) := by decide +kernel
theorem dX8_goes_89 : decode cX8_goes 89 = .ok (.iconst 0, 1) := by decide +kernel
theorem dX8_goes_90 : decode cX8_goes 90 = .ok (.iaload, 1) := by decide +kernel
theorem dX8_goes_91 : decode cX8_goes 91 = .ok (.aload_n 0, 1) := by decide +kernel
theorem dX8_goes_92 : decode cX8_goes 92 = .ok (.iload 4, 2) := by decide +kernel
theorem dX8_goes_94 : decode cX8_goes 94 = .ok (.iconst 3, 1) := by decide +kernel
theorem dX8_goes_95 : decode cX8_goes 95 = .ok (.invokevirtual 118, 3) := by decide +kernel
theorem dX8_goes_98 : decode cX8_goes 98 = .ok (.aload_n 0, 1) := by decide +kernel
theorem dX8_goes_99 : decode cX8_goes 99 = .ok (.iload 5, 2) := by decide +kernel
theorem dX8_goes_101 : decode cX8_goes 101 = .ok (.iconst 3, 1) := by decide +kernel
theorem dX8_goes_102 : decode cX8_goes 102 = .ok (.invokevirtual 118, 3) := by decide +kernel
theorem dX8_goes_105 : decode cX8_goes 105 = .ok (.invokestatic 121, 3) := by decide +kernel
theorem dX8_goes_108 : decode cX8_goes 108 = .ok (.imul, 1) := by decide +kernel
theorem dX8_goes_109 : decode cX8_goes 109 = .ok (.iadd, 1) := by decide +kernel
theorem dX8_goes_110 : decode cX8_goes 110 = .ok (.if_icmp .lt 7, 3) := by decide +kernel
theorem dX8_goes_113 : decode cX8_goes 113 = .ok (.iconst 1, 1) := by decide +kernel
theorem dX8_goes_114 : decode cX8_goes 114 = .ok (.goto 4, 3) := by decide +kernel
theorem dX8_goes_117 : decode cX8_goes 117 = .ok (.iconst 0, 1) := by decide +kernel
theorem dX8_goes_118 : decode cX8_goes 118 = .ok (.ireturn, 1) := by decide +kernel
theorem dX8_hasPieces_0 : decode cX8_hasPieces 0 = .ok (.iconst 0, 1) := by decide +kernel
theorem dX8_hasPieces_1 : decode cX8_hasPieces 1 = .ok (.istore_n 1, 1) := by decide +kernel
theorem dX8_hasPieces_2 : decode cX8_hasPieces 2 = .ok (.iload_n 1, 1) := by decide +kernel
theorem dX8_hasPieces_3 : decode cX8_hasPieces 3 = .ok (.iconst 5, 1) := by decide +kernel
theorem dX8_hasPieces_4 : decode cX8_hasPieces 4 = .ok (.if_icmp .ge 114, 3) := by decide +kernel
theorem dX8_hasPieces_7 : decode cX8_hasPieces 7 = .ok (.iconst 0, 1) := by decide +kernel
theorem dX8_hasPieces_8 : decode cX8_hasPieces 8 = .ok (.istore_n 2, 1) := by decide +kernel
theorem dX8_hasPieces_9 : decode cX8_hasPieces 9 = .ok (.iload_n 2, 1) := by decide +kernel
theorem dX8_hasPieces_10 : decode cX8_hasPieces 10 = .ok (.bipush 96, 2) := by decide +kernel
theorem dX8_hasPieces_12 : decode cX8_hasPieces 12 = .ok (.if_icmp .ge 100, 3) := by decide +kernel
theorem dX8_hasPieces_15 : decode cX8_hasPieces 15 = .ok (.iconst 0, 1) := by decide +kernel
theorem dX8_hasPieces_16 : decode cX8_hasPieces 16 = .ok (.istore_n 3, 1) := by decide +kernel
theorem dX8_hasPieces_17 : decode cX8_hasPieces 17 = .ok (.iconst 0, 1) := by decide +kernel
theorem dX8_hasPieces_18 : decode cX8_hasPieces 18 = .ok (.istore 4, 2) := by decide +kernel
theorem dX8_hasPieces_20 : decode cX8_hasPieces 20 = .ok (.iload 4, 2) := by decide +kernel
theorem dX8_hasPieces_22 : decode cX8_hasPieces 22 = .ok (.aload_n 0, 1) := by decide +kernel
theorem dX8_hasPieces_23 : decode cX8_hasPieces 23 = .ok (.getfield 124, 3) := by decide +kernel
theorem dX8_hasPieces_26 : decode cX8_hasPieces 26 = .ok (.if_icmp .ge 68, 3) := by decide +kernel
theorem dX8_hasPieces_29 : decode cX8_hasPieces 29 = .ok (.aload_n 0, 1) := by decide +kernel
theorem dX8_hasPieces_30 : decode cX8_hasPieces 30 = .ok (.getfield 53, 3) := by decide +kernel
theorem dX8_hasPieces_33 : decode cX8_hasPieces 33 = .ok (.iload 4, 2) := by decide +kernel
theorem dX8_hasPieces_35 : decode cX8_hasPieces 35 = .ok (.iaload, 1) := by decide +kernel
theorem dX8_hasPieces_36 : decode cX8_hasPieces 36 = .ok (.istore 5, 2) := by decide +kernel
theorem dX8_hasPieces_38 : decode cX8_hasPieces 38 = .ok (.iload_n 3, 1) := by decide +kernel
theorem dX8_hasPieces_39 : decode cX8_hasPieces 39 = .ok (.aload_n 0, 1) := by decide +kernel
theorem dX8_hasPieces_40 : decode cX8_hasPieces 40 = .ok (.getfield 56, 3) := by decide +kernel
theorem dX8_hasPieces_43 : decode cX8_hasPieces 43 = .ok (.iload 4, 2) := by decide +kernel
theorem dX8_hasPieces_45 : decode cX8_hasPieces 45 = .ok (.iaload, 1) := by decide +kernel
theorem dX8_hasPieces_46 : decode cX8_hasPieces 46 = .ok (.iload_n 1, 1) := by decide +kernel
theorem dX8_hasPieces_47 : decode cX8_hasPieces 47 = .ok (.if_icmp .ne 38, 3) := by decide +kernel
theorem dX8_hasPieces_50 : decode cX8_hasPieces 50 = .ok (.iload_n 2, 1) := by decide +kernel
theorem dX8_hasPieces_51 : decode cX8_hasPieces 51 = .ok (.aload_n 0, 1) := by decide +kernel
theorem dX8_hasPieces_52 : decode cX8_hasPieces 52 = .ok (.iload 5, 2) := by decide +kernel
theorem dX8_hasPieces_54 : decode cX8_hasPieces 54 = .ok (.iconst 1, 1) := by decide +kernel
theorem dX8_hasPieces_55 : decode cX8_hasPieces 55 = .ok (.invokevirtual 118, 3) := by decide +kernel
theorem dX8_hasPieces_58 : decode cX8_hasPieces 58 = .ok (.aload_n 0, 1) := by decide +kernel
theorem dX8_hasPieces_59 : decode cX8_hasPieces 59 = .ok (.iload 5, 2) := by decide +kernel
theorem dX8_hasPieces_61 : decode cX8_hasPieces 61 = .ok (.iconst 1, 1) := by decide +kernel
theorem dX8_hasPieces_62 : decode cX8_hasPieces 62 = .ok (.invokevirtual 118, 3) := by decide +kernel
theorem dX8_hasPieces_65 : decode cX8_hasPieces 65 = .ok (.aload_n 0, 1) := by decide +kernel
theorem dX8_hasPieces_66 : decode cX8_hasPieces 66 = .ok (.iload 5, 2) := by decide +kernel
theorem dX8_hasPieces_68 : decode cX8_hasPieces 68 = .ok (.iconst 2, 1) := by decide +kernel
theorem dX8_hasPieces_69 : decode cX8_hasPieces 69 = .ok (.invokevirtual 118, 3) := by decide +kernel
theorem dX8_hasPieces_72 : decode cX8_hasPieces 72 = .ok (.iadd, 1) := by decide +kernel
theorem dX8_hasPieces_73 : decode cX8_hasPieces 73 = .ok (.iconst 1, 1) := by decide +kernel
theorem dX8_hasPieces_74 : decode cX8_hasPieces 74 = .ok (.isub, 1) := by decide +kernel
theorem dX8_hasPieces_75 : decode cX8_hasPieces 75 = .ok (.invokestatic 91, 3) := by decide +kernel
theorem dX8_hasPieces_78 : decode cX8_hasPieces 78 = .ok (.ifCond .eq 7, 3) := by decide +kernel
theorem dX8_hasPieces_81 : decode cX8_hasPieces 81 = .ok (.iconst 1, 1) := by decide +kernel
theorem dX8_hasPieces_82 : decode cX8_hasPieces 82 = .ok (.goto 4, 3) := by decide +kernel
theorem dX8_hasPieces_85 : decode cX8_hasPieces 85 = .ok (.iconst 0, 1) := by decide +kernel
theorem dX8_hasPieces_86 : decode cX8_hasPieces 86 = .ok (.iadd, 1) := by decide +kernel
theorem dX8_hasPieces_87 : decode cX8_hasPieces 87 = .ok (.istore_n 3, 1) := by decide +kernel
theorem dX8_hasPieces_88 : decode cX8_hasPieces 88 = .ok (.iinc 4 1, 3) := by decide +kernel
theorem dX8_hasPieces_91 : decode cX8_hasPieces 91 = .ok (.goto (-71), 3) := by decide +kernel
theorem dX8_hasPieces_94 : decode cX8_hasPieces 94 = .ok (.iload_n 3, 1) := by decide +kernel
theorem dX8_hasPieces_95 : decode cX8_hasPieces 95 = .ok (.aload_n 0, 1) := by decide +kernel
theorem dX8_hasPieces_96 : decode cX8_hasPieces 96 = .ok (.getfield 32, 3) := by decide +kernel
theorem dX8_hasPieces_99 : decode cX8_hasPieces 99 = .ok (.iload_n 1, 1) := by decide +kernel
theorem dX8_hasPieces_100 : decode cX8_hasPieces 100 = .ok (.iaload, 1) := by decide +kernel
theorem dX8_hasPieces_101 : decode cX8_hasPieces 101 = .ok (.if_icmp .le 5, 3) := by decide +kernel
theorem dX8_hasPieces_104 : decode cX8_hasPieces 104 = .ok (.iconst 0, 1) := by decide +kernel
theorem dX8_hasPieces_105 : decode cX8_hasPieces 105 = .ok (.ireturn, 1) := by decide +kernel
theorem dX8_hasPieces_106 : decode cX8_hasPieces 106 = .ok (.iinc 2 1, 3) := by decide +kernel
theorem dX8_hasPieces_109 : decode cX8_hasPieces 109 = .ok (.goto (-100), 3) := by decide +kernel
theorem dX8_hasPieces_112 : decode cX8_hasPieces 112 = .ok (.iinc 1 1, 3) := by decide +kernel
theorem dX8_hasPieces_115 : decode cX8_hasPieces 115 = .ok (.goto (-113), 3) := by decide +kernel
theorem dX8_hasPieces_118 : decode cX8_hasPieces 118 = .ok (.iconst 1, 1) := by decide +kernel
theorem dX8_hasPieces_119 : decode cX8_hasPieces 119 = .ok (.ireturn, 1) := by decide +kernel
theorem dX8_lists_0 : decode cX8_lists 0 = .ok (.aload_n 0, 1) := by decide +kernel
theorem dX8_lists_1 : decode cX8_lists 1 = .ok (.iconst 0, 1) := by decide +kernel
theorem dX8_lists_2 : decode cX8_lists 2 = .ok (.putfield 124, 3) := by decide +kernel
theorem dX8_lists_5 : decode cX8_lists 5 = .ok (.iconst 0, 1) := by decide +kernel
theorem dX8_lists_6 : decode cX8_lists 6 = .ok (.istore_n 1, 1) := by decide +kernel
theorem dX8_lists_7 : decode cX8_lists 7 = .ok (.iload_n 1, 1) := by decide +kernel
theorem dX8_lists_8 : decode cX8_lists 8 = .ok (.aload_n 0, 1) := by decide +kernel
theorem dX8_lists_9 : decode cX8_lists 9 = .ok (.getfield 115, 3) := by decide +kernel
theorem dX8_lists_12 : decode cX8_lists 12 = .ok (.if_icmp .ge 92, 3) := by decide +kernel
theorem dX8_lists_15 : decode cX8_lists 15 = .ok (.aload_n 0, 1) := by decide +kernel
theorem dX8_lists_16 : decode cX8_lists 16 = .ok (.getfield 50, 3) := by decide +kernel
theorem dX8_lists_19 : decode cX8_lists 19 = .ok (.iload_n 1, 1) := by decide +kernel
theorem dX8_lists_20 : decode cX8_lists 20 = .ok (.iaload, 1) := by decide +kernel
theorem dX8_lists_21 : decode cX8_lists 21 = .ok (.istore_n 2, 1) := by decide +kernel
theorem dX8_lists_22 : decode cX8_lists 22 = .ok (.iconst 0, 1) := by decide +kernel
theorem dX8_lists_23 : decode cX8_lists 23 = .ok (.istore_n 3, 1) := by decide +kernel
theorem dX8_lists_24 : decode cX8_lists 24 = .ok (.iload_n 3, 1) := by decide +kernel
theorem dX8_lists_25 : decode cX8_lists 25 = .ok (.iconst 2, 1) := by decide +kernel
theorem dX8_lists_26 : decode cX8_lists 26 = .ok (.if_icmp .ge 72, 3) := by decide +kernel
theorem dX8_lists_29 : decode cX8_lists 29 = .ok (.aload_n 0, 1) := by decide +kernel
theorem dX8_lists_30 : decode cX8_lists 30 = .ok (.getfield 127, 3) := by decide +kernel
theorem dX8_lists_33 : decode cX8_lists 33 = .ok (.iload_n 2, 1) := by decide +kernel
theorem dX8_lists_34 : decode cX8_lists 34 = .ok (.invokestatic 130, 3) := by decide +kernel
theorem dX8_lists_37 : decode cX8_lists 37 = .ok (.ifCond .eq 61, 3) := by decide +kernel
theorem dX8_lists_40 : decode cX8_lists 40 = .ok (.aload_n 0, 1) := by decide +kernel
theorem dX8_lists_41 : decode cX8_lists 41 = .ok (.iload_n 2, 1) := by decide +kernel
theorem dX8_lists_42 : decode cX8_lists 42 = .ok (.iconst 5, 1) := by decide +kernel
theorem dX8_lists_43 : decode cX8_lists 43 = .ok (.iload_n 3, 1) := by decide +kernel
theorem dX8_lists_44 : decode cX8_lists 44 = .ok (.iadd, 1) := by decide +kernel
theorem dX8_lists_45 : decode cX8_lists 45 = .ok (.invokevirtual 118, 3) := by decide +kernel
theorem dX8_lists_48 : decode cX8_lists 48 = .ok (.iconst (-1), 1) := by decide +kernel
theorem dX8_lists_49 : decode cX8_lists 49 = .ok (.if_icmp .ne 6, 3) := by decide +kernel
theorem dX8_lists_52 : decode cX8_lists 52 = .ok (.goto 40, 3) := by decide +kernel
theorem dX8_lists_55 : decode cX8_lists 55 = .ok (.aload_n 0, 1) := by decide +kernel
theorem dX8_lists_56 : decode cX8_lists 56 = .ok (.getfield 53, 3) := by decide +kernel
theorem dX8_lists_59 : decode cX8_lists 59 = .ok (.aload_n 0, 1) := by decide +kernel
theorem dX8_lists_60 : decode cX8_lists 60 = .ok (.getfield 124, 3) := by decide +kernel
theorem dX8_lists_63 : decode cX8_lists 63 = .ok (.iload_n 2, 1) := by decide +kernel
theorem dX8_lists_64 : decode cX8_lists 64 = .ok (.iastore, 1) := by decide +kernel
theorem dX8_lists_65 : decode cX8_lists 65 = .ok (.aload_n 0, 1) := by decide +kernel
theorem dX8_lists_66 : decode cX8_lists 66 = .ok (.getfield 56, 3) := by decide +kernel
theorem dX8_lists_69 : decode cX8_lists 69 = .ok (.aload_n 0, 1) := by decide +kernel
theorem dX8_lists_70 : decode cX8_lists 70 = .ok (.getfield 124, 3) := by decide +kernel
theorem dX8_lists_73 : decode cX8_lists 73 = .ok (.aload_n 0, 1) := by decide +kernel
theorem dX8_lists_74 : decode cX8_lists 74 = .ok (.iload_n 2, 1) := by decide +kernel
theorem dX8_lists_75 : decode cX8_lists 75 = .ok (.iconst 5, 1) := by decide +kernel
theorem dX8_lists_76 : decode cX8_lists 76 = .ok (.iload_n 3, 1) := by decide +kernel
theorem dX8_lists_77 : decode cX8_lists 77 = .ok (.iadd, 1) := by decide +kernel
theorem dX8_lists_78 : decode cX8_lists 78 = .ok (.invokevirtual 118, 3) := by decide +kernel
theorem dX8_lists_81 : decode cX8_lists 81 = .ok (.iastore, 1) := by decide +kernel
theorem dX8_lists_82 : decode cX8_lists 82 = .ok (.aload_n 0, 1) := by decide +kernel
theorem dX8_lists_83 : decode cX8_lists 83 = .ok (.dup, 1) := by decide +kernel
theorem dX8_lists_84 : decode cX8_lists 84 = .ok (.getfield 124, 3) := by decide +kernel
theorem dX8_lists_87 : decode cX8_lists 87 = .ok (.iconst 1, 1) := by decide +kernel
theorem dX8_lists_88 : decode cX8_lists 88 = .ok (.iadd, 1) := by decide +kernel
theorem dX8_lists_89 : decode cX8_lists 89 = .ok (.putfield 124, 3) := by decide +kernel
theorem dX8_lists_92 : decode cX8_lists 92 = .ok (.iinc 3 1, 3) := by decide +kernel
theorem dX8_lists_95 : decode cX8_lists 95 = .ok (.goto (-71), 3) := by decide +kernel
theorem dX8_lists_98 : decode cX8_lists 98 = .ok (.iinc 1 1, 3) := by decide +kernel
theorem dX8_lists_101 : decode cX8_lists 101 = .ok (.goto (-94), 3) := by decide +kernel
theorem dX8_lists_104 : decode cX8_lists 104 = .ok (.return_, 1) := by decide +kernel
theorem dX8_hinders_0 : decode cX8_hinders 0 = .ok (.aload_n 0, 1) := by decide +kernel
theorem dX8_hinders_1 : decode cX8_hinders 1 = .ok (.getfield 26, 3) := by decide +kernel
theorem dX8_hinders_4 : decode cX8_hinders 4 = .ok (.iload_n 2, 1) := by decide +kernel
theorem dX8_hinders_5 : decode cX8_hinders 5 = .ok (.iaload, 1) := by decide +kernel
theorem dX8_hinders_6 : decode cX8_hinders 6 = .ok (.ifCond .ne 21, 3) := by decide +kernel
theorem dX8_hinders_9 : decode cX8_hinders 9 = .ok (.aload_n 0, 1) := by decide +kernel
theorem dX8_hinders_10 : decode cX8_hinders 10 = .ok (.getfield 23, 3) := by decide +kernel
theorem dX8_hinders_13 : decode cX8_hinders 13 = .ok (.iload_n 2, 1) := by decide +kernel
theorem dX8_hinders_14 : decode cX8_hinders 14 = .ok (.iaload, 1) := by decide +kernel
theorem dX8_hinders_15 : decode cX8_hinders 15 = .ok (.aload_n 0, 1) := by decide +kernel
theorem dX8_hinders_16 : decode cX8_hinders 16 = .ok (.getfield 56, 3) := by decide +kernel
theorem dX8_hinders_19 : decode cX8_hinders 19 = .ok (.iload_n 1, 1) := by decide +kernel
theorem dX8_hinders_20 : decode cX8_hinders 20 = .ok (.iaload, 1) := by decide +kernel
theorem dX8_hinders_21 : decode cX8_hinders 21 = .ok (.invokestatic 130, 3) := by decide +kernel
theorem dX8_hinders_24 : decode cX8_hinders 24 = .ok (.ifCond .ne 5, 3) := by decide +kernel
theorem dX8_hinders_27 : decode cX8_hinders 27 = .ok (.iload_n 1, 1) := by decide +kernel
theorem dX8_hinders_28 : decode cX8_hinders 28 = .ok (.ireturn, 1) := by decide +kernel
theorem dX8_hinders_29 : decode cX8_hinders 29 = .ok (.iconst 0, 1) := by decide +kernel
theorem dX8_hinders_30 : decode cX8_hinders 30 = .ok (.istore_n 3, 1) := by decide +kernel
theorem dX8_hinders_31 : decode cX8_hinders 31 = .ok (.iload_n 3, 1) := by decide +kernel
theorem dX8_hinders_32 : decode cX8_hinders 32 = .ok (.iload_n 1, 1) := by decide +kernel
theorem dX8_hinders_33 : decode cX8_hinders 33 = .ok (.if_icmp .ge 55, 3) := by decide +kernel
theorem dX8_hinders_36 : decode cX8_hinders 36 = .ok (.aload_n 0, 1) := by decide +kernel
theorem dX8_hinders_37 : decode cX8_hinders 37 = .ok (.getfield 59, 3) := by decide +kernel
theorem dX8_hinders_40 : decode cX8_hinders 40 = .ok (.iload_n 3, 1) := by decide +kernel
theorem dX8_hinders_41 : decode cX8_hinders 41 = .ok (.iaload, 1) := by decide +kernel
theorem dX8_hinders_42 : decode cX8_hinders 42 = .ok (.iload_n 2, 1) := by decide +kernel
theorem dX8_hinders_43 : decode cX8_hinders 43 = .ok (.if_icmp .ne 39, 3) := by decide +kernel
theorem dX8_hinders_46 : decode cX8_hinders 46 = .ok (.aload_n 0, 1) := by decide +kernel
theorem dX8_hinders_47 : decode cX8_hinders 47 = .ok (.getfield 53, 3) := by decide +kernel
theorem dX8_hinders_50 : decode cX8_hinders 50 = .ok (.iload_n 3, 1) := by decide +kernel
theorem dX8_hinders_51 : decode cX8_hinders 51 = .ok (.iaload, 1) := by decide +kernel
theorem dX8_hinders_52 : decode cX8_hinders 52 = .ok (.aload_n 0, 1) := by decide +kernel
theorem dX8_hinders_53 : decode cX8_hinders 53 = .ok (.getfield 53, 3) := by decide +kernel
theorem dX8_hinders_56 : decode cX8_hinders 56 = .ok (.iload_n 1, 1) := by decide +kernel
theorem dX8_hinders_57 : decode cX8_hinders 57 = .ok (.iaload, 1) := by decide +kernel
theorem dX8_hinders_58 : decode cX8_hinders 58 = .ok (.if_icmp .eq 22, 3) := by decide +kernel
theorem dX8_hinders_61 : decode cX8_hinders 61 = .ok (.aload_n 0, 1) := by decide +kernel
theorem dX8_hinders_62 : decode cX8_hinders 62 = .ok (.aload_n 0, 1) := by decide +kernel
theorem dX8_hinders_63 : decode cX8_hinders 63 = .ok (.getfield 53, 3) := by decide +kernel
theorem dX8_hinders_66 : decode cX8_hinders 66 = .ok (.iload_n 3, 1) := by decide +kernel
theorem dX8_hinders_67 : decode cX8_hinders 67 = .ok (.iaload, 1) := by decide +kernel
theorem dX8_hinders_68 : decode cX8_hinders 68 = .ok (.aload_n 0, 1) := by decide +kernel
theorem dX8_hinders_69 : decode cX8_hinders 69 = .ok (.getfield 53, 3) := by decide +kernel
theorem dX8_hinders_72 : decode cX8_hinders 72 = .ok (.iload_n 1, 1) := by decide +kernel
theorem dX8_hinders_73 : decode cX8_hinders 73 = .ok (.iaload, 1) := by decide +kernel
theorem dX8_hinders_74 : decode cX8_hinders 74 = .ok (.invokevirtual 132, 3) := by decide +kernel
theorem dX8_hinders_77 : decode cX8_hinders 77 = .ok (.ifCond .ne 5, 3) := by decide +kernel
theorem dX8_hinders_80 : decode cX8_hinders 80 = .ok (.iload_n 3, 1) := by decide +kernel
theorem dX8_hinders_81 : decode cX8_hinders 81 = .ok (.ireturn, 1) := by decide +kernel
theorem dX8_hinders_82 : decode cX8_hinders 82 = .ok (.iinc 3 1, 3) := by decide +kernel
theorem dX8_hinders_85 : decode cX8_hinders 85 = .ok (.goto (-54), 3) := by decide +kernel
theorem dX8_hinders_88 : decode cX8_hinders 88 = .ok (.iconst (-1), 1) := by decide +kernel
theorem dX8_hinders_89 : decode cX8_hinders 89 = .ok (.ireturn, 1) := by decide +kernel
theorem dX8_takes_0 : decode cX8_takes 0 = .ok (.aload_n 0, 1) := by decide +kernel
theorem dX8_takes_1 : decode cX8_takes 1 = .ok (.getfield 59, 3) := by decide +kernel
theorem dX8_takes_4 : decode cX8_takes 4 = .ok (.iload_n 1, 1) := by decide +kernel
theorem dX8_takes_5 : decode cX8_takes 5 = .ok (.iaload, 1) := by decide +kernel
theorem dX8_takes_6 : decode cX8_takes 6 = .ok (.aload_n 0, 1) := by decide +kernel
theorem dX8_takes_7 : decode cX8_takes 7 = .ok (.getfield 102, 3) := by decide +kernel
theorem dX8_takes_10 : decode cX8_takes 10 = .ok (.iconst 1, 1) := by decide +kernel
theorem dX8_takes_11 : decode cX8_takes 11 = .ok (.isub, 1) := by decide +kernel
theorem dX8_takes_12 : decode cX8_takes 12 = .ok (.if_icmp .ge 52, 3) := by decide +kernel
theorem dX8_takes_15 : decode cX8_takes 15 = .ok (.aload_n 0, 1) := by decide +kernel
theorem dX8_takes_16 : decode cX8_takes 16 = .ok (.getfield 59, 3) := by decide +kernel
theorem dX8_takes_19 : decode cX8_takes 19 = .ok (.iload_n 1, 1) := by decide +kernel
theorem dX8_takes_20 : decode cX8_takes 20 = .ok (.dup2, 1) := by decide +kernel
theorem dX8_takes_21 : decode cX8_takes 21 = .ok (.iaload, 1) := by decide +kernel
theorem dX8_takes_22 : decode cX8_takes 22 = .ok (.iconst 1, 1) := by decide +kernel
theorem dX8_takes_23 : decode cX8_takes 23 = .ok (.iadd, 1) := by decide +kernel
theorem dX8_takes_24 : decode cX8_takes 24 = .ok (.iastore, 1) := by decide +kernel
theorem dX8_takes_25 : decode cX8_takes 25 = .ok (.aload_n 0, 1) := by decide +kernel
theorem dX8_takes_26 : decode cX8_takes 26 = .ok (.iload_n 1, 1) := by decide +kernel
theorem dX8_takes_27 : decode cX8_takes 27 = .ok (.aload_n 0, 1) := by decide +kernel
theorem dX8_takes_28 : decode cX8_takes 28 = .ok (.getfield 59, 3) := by decide +kernel
theorem dX8_takes_31 : decode cX8_takes 31 = .ok (.iload_n 1, 1) := by decide +kernel
theorem dX8_takes_32 : decode cX8_takes 32 = .ok (.iaload, 1) := by decide +kernel
theorem dX8_takes_33 : decode cX8_takes 33 = .ok (.invokevirtual 135, 3) := by decide +kernel
theorem dX8_takes_36 : decode cX8_takes 36 = .ok (.istore_n 2, 1) := by decide +kernel
theorem dX8_takes_37 : decode cX8_takes 37 = .ok (.iload_n 2, 1) := by decide +kernel
theorem dX8_takes_38 : decode cX8_takes 38 = .ok (.iconst (-1), 1) := by decide +kernel
theorem dX8_takes_39 : decode cX8_takes 39 = .ok (.if_icmp .ne 5, 3) := by decide +kernel
theorem dX8_takes_42 : decode cX8_takes 42 = .ok (.iconst 1, 1) := by decide +kernel
theorem dX8_takes_43 : decode cX8_takes 43 = .ok (.ireturn, 1) := by decide +kernel
theorem dX8_takes_44 : decode cX8_takes 44 = .ok (.iload_n 2, 1) := by decide +kernel
theorem dX8_takes_45 : decode cX8_takes 45 = .ok (.iload_n 1, 1) := by decide +kernel
theorem dX8_takes_46 : decode cX8_takes 46 = .ok (.if_icmp .ge 15, 3) := by decide +kernel
theorem dX8_takes_49 : decode cX8_takes 49 = .ok (.aload_n 0, 1) := by decide +kernel
theorem dX8_takes_50 : decode cX8_takes 50 = .ok (.getfield 62, 3) := by decide +kernel
theorem dX8_takes_53 : decode cX8_takes 53 = .ok (.iload_n 1, 1) := by decide +kernel
theorem dX8_takes_54 : decode cX8_takes 54 = .ok (.dup2, 1) := by decide +kernel
theorem dX8_takes_55 : decode cX8_takes 55 = .ok (.iaload, 1) := by decide +kernel
theorem dX8_takes_56 : decode cX8_takes 56 = .ok (.iconst 1, 1) := by decide +kernel
theorem dX8_takes_57 : decode cX8_takes 57 = .ok (.iload_n 2, 1) := by decide +kernel
theorem dX8_takes_58 : decode cX8_takes 58 = .ok (.ishl, 1) := by decide +kernel
theorem dX8_takes_59 : decode cX8_takes 59 = .ok (.ior, 1) := by decide +kernel
theorem dX8_takes_60 : decode cX8_takes 60 = .ok (.iastore, 1) := by decide +kernel
theorem dX8_takes_61 : decode cX8_takes 61 = .ok (.goto (-61), 3) := by decide +kernel
theorem dX8_takes_64 : decode cX8_takes 64 = .ok (.iconst 0, 1) := by decide +kernel
theorem dX8_takes_65 : decode cX8_takes 65 = .ok (.ireturn, 1) := by decide +kernel
theorem dX8_canBePlayed_0 : decode cX8_canBePlayed 0 = .ok (.aload_n 0, 1) := by decide +kernel
theorem dX8_canBePlayed_1 : decode cX8_canBePlayed 1 = .ok (.invokevirtual 138, 3) := by decide +kernel
theorem dX8_canBePlayed_4 : decode cX8_canBePlayed 4 = .ok (.aload_n 0, 1) := by decide +kernel
theorem dX8_canBePlayed_5 : decode cX8_canBePlayed 5 = .ok (.invokevirtual 141, 3) := by decide +kernel
theorem dX8_canBePlayed_8 : decode cX8_canBePlayed 8 = .ok (.ifCond .ne 5, 3) := by decide +kernel
theorem dX8_canBePlayed_11 : decode cX8_canBePlayed 11 = .ok (.iconst 0, 1) := by decide +kernel
theorem dX8_canBePlayed_12 : decode cX8_canBePlayed 12 = .ok (.ireturn, 1) := by decide +kernel
theorem dX8_canBePlayed_13 : decode cX8_canBePlayed 13 = .ok (.iconst 0, 1) := by decide +kernel
theorem dX8_canBePlayed_14 : decode cX8_canBePlayed 14 = .ok (.istore_n 1, 1) := by decide +kernel
theorem dX8_canBePlayed_15 : decode cX8_canBePlayed 15 = .ok (.aload_n 0, 1) := by decide +kernel
theorem dX8_canBePlayed_16 : decode cX8_canBePlayed 16 = .ok (.getfield 59, 3) := by decide +kernel
theorem dX8_canBePlayed_19 : decode cX8_canBePlayed 19 = .ok (.iconst 0, 1) := by decide +kernel
theorem dX8_canBePlayed_20 : decode cX8_canBePlayed 20 = .ok (.iconst (-1), 1) := by decide +kernel
theorem dX8_canBePlayed_21 : decode cX8_canBePlayed 21 = .ok (.iastore, 1) := by decide +kernel
theorem dX8_canBePlayed_22 : decode cX8_canBePlayed 22 = .ok (.aload_n 0, 1) := by decide +kernel
theorem dX8_canBePlayed_23 : decode cX8_canBePlayed 23 = .ok (.getfield 62, 3) := by decide +kernel
theorem dX8_canBePlayed_26 : decode cX8_canBePlayed 26 = .ok (.iconst 0, 1) := by decide +kernel
theorem dX8_canBePlayed_27 : decode cX8_canBePlayed 27 = .ok (.iconst 0, 1) := by decide +kernel
theorem dX8_canBePlayed_28 : decode cX8_canBePlayed 28 = .ok (.iastore, 1) := by decide +kernel
theorem dX8_canBePlayed_29 : decode cX8_canBePlayed 29 = .ok (.iload_n 1, 1) := by decide +kernel
theorem dX8_canBePlayed_30 : decode cX8_canBePlayed 30 = .ok (.aload_n 0, 1) := by decide +kernel
theorem dX8_canBePlayed_31 : decode cX8_canBePlayed 31 = .ok (.getfield 124, 3) := by decide +kernel
theorem dX8_canBePlayed_34 : decode cX8_canBePlayed 34 = .ok (.if_icmp .ge 110, 3) := by decide +kernel
theorem dX8_canBePlayed_37 : decode cX8_canBePlayed 37 = .ok (.aload_n 0, 1) := by decide +kernel
theorem dX8_canBePlayed_38 : decode cX8_canBePlayed 38 = .ok (.iload_n 1, 1) := by decide +kernel
theorem dX8_canBePlayed_39 : decode cX8_canBePlayed 39 = .ok (.invokevirtual 145, 3) := by decide +kernel
theorem dX8_canBePlayed_42 : decode cX8_canBePlayed 42 = .ok (.ifCond .eq 31, 3) := by decide +kernel
theorem dX8_canBePlayed_45 : decode cX8_canBePlayed 45 = .ok (.iinc 1 1, 3) := by decide +kernel
theorem dX8_canBePlayed_48 : decode cX8_canBePlayed 48 = .ok (.iload_n 1, 1) := by decide +kernel
theorem dX8_canBePlayed_49 : decode cX8_canBePlayed 49 = .ok (.aload_n 0, 1) := by decide +kernel
theorem dX8_canBePlayed_50 : decode cX8_canBePlayed 50 = .ok (.getfield 124, 3) := by decide +kernel
theorem dX8_canBePlayed_53 : decode cX8_canBePlayed 53 = .ok (.if_icmp .ge (-24), 3) := by decide +kernel
theorem dX8_canBePlayed_56 : decode cX8_canBePlayed 56 = .ok (.aload_n 0, 1) := by decide +kernel
theorem dX8_canBePlayed_57 : decode cX8_canBePlayed 57 = .ok (.getfield 59, 3) := by decide +kernel
theorem dX8_canBePlayed_60 : decode cX8_canBePlayed 60 = .ok (.iload_n 1, 1) := by decide +kernel
theorem dX8_canBePlayed_61 : decode cX8_canBePlayed 61 = .ok (.iconst (-1), 1) := by decide +kernel
theorem dX8_canBePlayed_62 : decode cX8_canBePlayed 62 = .ok (.iastore, 1) := by decide +kernel
theorem dX8_canBePlayed_63 : decode cX8_canBePlayed 63 = .ok (.aload_n 0, 1) := by decide +kernel
theorem dX8_canBePlayed_64 : decode cX8_canBePlayed 64 = .ok (.getfield 62, 3) := by decide +kernel
theorem dX8_canBePlayed_67 : decode cX8_canBePlayed 67 = .ok (.iload_n 1, 1) := by decide +kernel
theorem dX8_canBePlayed_68 : decode cX8_canBePlayed 68 = .ok (.iconst 0, 1) := by decide +kernel
theorem dX8_canBePlayed_69 : decode cX8_canBePlayed 69 = .ok (.iastore, 1) := by decide +kernel
theorem dX8_canBePlayed_70 : decode cX8_canBePlayed 70 = .ok (.goto (-41), 3) := by decide +kernel
theorem dX8_canBePlayed_73 : decode cX8_canBePlayed 73 = .ok (.aload_n 0, 1) := by decide +kernel
theorem dX8_canBePlayed_74 : decode cX8_canBePlayed 74 = .ok (.getfield 62, 3) := by decide +kernel
theorem dX8_canBePlayed_77 : decode cX8_canBePlayed 77 = .ok (.iload_n 1, 1) := by decide +kernel
theorem dX8_canBePlayed_78 : decode cX8_canBePlayed 78 = .ok (.iaload, 1) := by decide +kernel
theorem dX8_canBePlayed_79 : decode cX8_canBePlayed 79 = .ok (.ifCond .ne 5, 3) := by decide +kernel
theorem dX8_canBePlayed_82 : decode cX8_canBePlayed 82 = .ok (.iconst 0, 1) := by decide +kernel
theorem dX8_canBePlayed_83 : decode cX8_canBePlayed 83 = .ok (.ireturn, 1) := by decide +kernel
theorem dX8_canBePlayed_84 : decode cX8_canBePlayed 84 = .ok (.iconst 0, 1) := by decide +kernel
theorem dX8_canBePlayed_85 : decode cX8_canBePlayed 85 = .ok (.istore_n 2, 1) := by decide +kernel
theorem dX8_canBePlayed_86 : decode cX8_canBePlayed 86 = .ok (.iconst 0, 1) := by decide +kernel
theorem dX8_canBePlayed_87 : decode cX8_canBePlayed 87 = .ok (.istore_n 3, 1) := by decide +kernel
theorem dX8_canBePlayed_88 : decode cX8_canBePlayed 88 = .ok (.iload_n 3, 1) := by decide +kernel
theorem dX8_canBePlayed_89 : decode cX8_canBePlayed 89 = .ok (.iload_n 1, 1) := by decide +kernel
theorem dX8_canBePlayed_90 : decode cX8_canBePlayed 90 = .ok (.if_icmp .ge 28, 3) := by decide +kernel
theorem dX8_canBePlayed_93 : decode cX8_canBePlayed 93 = .ok (.aload_n 0, 1) := by decide +kernel
theorem dX8_canBePlayed_94 : decode cX8_canBePlayed 94 = .ok (.getfield 62, 3) := by decide +kernel
theorem dX8_canBePlayed_97 : decode cX8_canBePlayed 97 = .ok (.iload_n 1, 1) := by decide +kernel
theorem dX8_canBePlayed_98 : decode cX8_canBePlayed 98 = .ok (.iaload, 1) := by decide +kernel
theorem dX8_canBePlayed_99 : decode cX8_canBePlayed 99 = .ok (.iload_n 3, 1) := by decide +kernel
theorem dX8_canBePlayed_100 : decode cX8_canBePlayed 100 = .ok (.invokestatic 130, 3) := by decide +kernel
theorem dX8_canBePlayed_103 : decode cX8_canBePlayed 103 = .ok (.ifCond .eq 7, 3) := by decide +kernel
theorem dX8_canBePlayed_106 : decode cX8_canBePlayed 106 = .ok (.iload_n 3, 1) := by decide +kernel
theorem dX8_canBePlayed_107 : decode cX8_canBePlayed 107 = .ok (.goto 4, 3) := by decide +kernel
theorem dX8_canBePlayed_110 : decode cX8_canBePlayed 110 = .ok (.iload_n 2, 1) := by decide +kernel
theorem dX8_canBePlayed_111 : decode cX8_canBePlayed 111 = .ok (.istore_n 2, 1) := by decide +kernel
theorem dX8_canBePlayed_112 : decode cX8_canBePlayed 112 = .ok (.iinc 3 1, 3) := by decide +kernel
theorem dX8_canBePlayed_115 : decode cX8_canBePlayed 115 = .ok (.goto (-27), 3) := by decide +kernel
theorem dX8_canBePlayed_118 : decode cX8_canBePlayed 118 = .ok (.aload_n 0, 1) := by decide +kernel
theorem dX8_canBePlayed_119 : decode cX8_canBePlayed 119 = .ok (.getfield 62, 3) := by decide +kernel
theorem dX8_canBePlayed_122 : decode cX8_canBePlayed 122 = .ok (.iload_n 2, 1) := by decide +kernel
theorem dX8_canBePlayed_123 : decode cX8_canBePlayed 123 = .ok (.dup2, 1) := by decide +kernel
theorem dX8_canBePlayed_124 : decode cX8_canBePlayed 124 = .ok (.iaload, 1) := by decide +kernel
theorem dX8_canBePlayed_125 : decode cX8_canBePlayed 125 = .ok (.aload_n 0, 1) := by decide +kernel
theorem dX8_canBePlayed_126 : decode cX8_canBePlayed 126 = .ok (.getfield 62, 3) := by decide +kernel
theorem dX8_canBePlayed_129 : decode cX8_canBePlayed 129 = .ok (.iload_n 1, 1) := by decide +kernel
theorem dX8_canBePlayed_130 : decode cX8_canBePlayed 130 = .ok (.iaload, 1) := by decide +kernel
theorem dX8_canBePlayed_131 : decode cX8_canBePlayed 131 = .ok (.iconst 1, 1) := by decide +kernel
theorem dX8_canBePlayed_132 : decode cX8_canBePlayed 132 = .ok (.iload_n 2, 1) := by decide +kernel
theorem dX8_canBePlayed_133 : decode cX8_canBePlayed 133 = .ok (.ishl, 1) := by decide +kernel
theorem dX8_canBePlayed_134 : decode cX8_canBePlayed 134 = .ok (.iconst (-1), 1) := by decide +kernel
theorem dX8_canBePlayed_135 : decode cX8_canBePlayed 135 = .ok (.ixor, 1) := by decide +kernel
theorem dX8_canBePlayed_136 : decode cX8_canBePlayed 136 = .ok (.iand, 1) := by decide +kernel
theorem dX8_canBePlayed_137 : decode cX8_canBePlayed 137 = .ok (.ior, 1) := by decide +kernel
theorem dX8_canBePlayed_138 : decode cX8_canBePlayed 138 = .ok (.iastore, 1) := by decide +kernel
theorem dX8_canBePlayed_139 : decode cX8_canBePlayed 139 = .ok (.iload_n 2, 1) := by decide +kernel
theorem dX8_canBePlayed_140 : decode cX8_canBePlayed 140 = .ok (.istore_n 1, 1) := by decide +kernel
theorem dX8_canBePlayed_141 : decode cX8_canBePlayed 141 = .ok (.goto (-112), 3) := by decide +kernel
theorem dX8_canBePlayed_144 : decode cX8_canBePlayed 144 = .ok (.iconst 1, 1) := by decide +kernel
theorem dX8_canBePlayed_145 : decode cX8_canBePlayed 145 = .ok (.ireturn, 1) := by decide +kernel
theorem dX8_works_0 : decode cX8_works 0 = .ok (.aload_n 0, 1) := by decide +kernel
theorem dX8_works_1 : decode cX8_works 1 = .ok (.invokevirtual 148, 3) := by decide +kernel
theorem dX8_works_4 : decode cX8_works 4 = .ok (.aload_n 0, 1) := by decide +kernel
theorem dX8_works_5 : decode cX8_works 5 = .ok (.iconst 0, 1) := by decide +kernel
theorem dX8_works_6 : decode cX8_works 6 = .ok (.putfield 127, 3) := by decide +kernel
theorem dX8_works_9 : decode cX8_works 9 = .ok (.iconst 0, 1) := by decide +kernel
