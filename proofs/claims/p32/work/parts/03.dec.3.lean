theorem dL_cell_0 : decode cL_cell 0 = .ok (.iload_n 1, 1) := by decide +kernel
theorem dL_cell_1 : decode cL_cell 1 = .ok (.aload_n 0, 1) := by decide +kernel
theorem dL_cell_2 : decode cL_cell 2 = .ok (.arraylength, 1) := by decide +kernel
theorem dL_cell_3 : decode cL_cell 3 = .ok (.if_icmp .ge 9, 3) := by decide +kernel
theorem dL_cell_6 : decode cL_cell 6 = .ok (.aload_n 0, 1) := by decide +kernel
theorem dL_cell_7 : decode cL_cell 7 = .ok (.iload_n 1, 1) := by decide +kernel
theorem dL_cell_8 : decode cL_cell 8 = .ok (.iaload, 1) := by decide +kernel
theorem dL_cell_9 : decode cL_cell 9 = .ok (.goto 13, 3) := by decide +kernel
theorem dL_cell_12 : decode cL_cell 12 = .ok (.ldc 7, 2) := by decide +kernel
theorem dL_cell_14 : decode cL_cell 14 = .ok (.iload_n 1, 1) := by decide +kernel
theorem dL_cell_15 : decode cL_cell 15 = .ok (.bipush 59, 2) := by decide +kernel
theorem dL_cell_17 : decode cL_cell 17 = .ok (.iadd, 1) := by decide +kernel
theorem dL_cell_18 : decode cL_cell 18 = .ok (.imul, 1) := by decide +kernel
theorem dL_cell_19 : decode cL_cell 19 = .ok (.ldc 8, 2) := by decide +kernel
theorem dL_cell_21 : decode cL_cell 21 = .ok (.iadd, 1) := by decide +kernel
theorem dL_cell_22 : decode cL_cell 22 = .ok (.ireturn, 1) := by decide +kernel
theorem dL_low_0 : decode cL_low 0 = .ok (.iload_n 0, 1) := by decide +kernel
theorem dL_low_1 : decode cL_low 1 = .ok (.ldc 9, 2) := by decide +kernel
theorem dL_low_3 : decode cL_low 3 = .ok (.iand, 1) := by decide +kernel
theorem dL_low_4 : decode cL_low 4 = .ok (.iload_n 1, 1) := by decide +kernel
theorem dL_low_5 : decode cL_low 5 = .ok (.irem, 1) := by decide +kernel
theorem dL_low_6 : decode cL_low 6 = .ok (.ireturn, 1) := by decide +kernel
theorem dL_calls_0 : decode cL_calls 0 = .ok (.iload_n 1, 1) := by decide +kernel
theorem dL_calls_1 : decode cL_calls 1 = .ok (.ifCond .ne 20, 3) := by decide +kernel
theorem dL_calls_4 : decode cL_calls 4 = .ok (.aload_n 0, 1) := by decide +kernel
theorem dL_calls_5 : decode cL_calls 5 = .ok (.iload_n 2, 1) := by decide +kernel
theorem dL_calls_6 : decode cL_calls 6 = .ok (.iload_n 3, 1) := by decide +kernel
theorem dL_calls_7 : decode cL_calls 7 = .ok (.iload 4, 2) := by decide +kernel
theorem dL_calls_9 : decode cL_calls 9 = .ok (.iload 5, 2) := by decide +kernel
theorem dL_calls_11 : decode cL_calls 11 = .ok (.iload 6, 2) := by decide +kernel
theorem dL_calls_13 : decode cL_calls 13 = .ok (.iload 7, 2) := by decide +kernel
theorem dL_calls_15 : decode cL_calls 15 = .ok (.invokevirtual 10, 3) := by decide +kernel
theorem dL_calls_18 : decode cL_calls 18 = .ok (.goto 228, 3) := by decide +kernel
theorem dL_calls_21 : decode cL_calls 21 = .ok (.iload_n 1, 1) := by decide +kernel
theorem dL_calls_22 : decode cL_calls 22 = .ok (.iconst 1, 1) := by decide +kernel
theorem dL_calls_23 : decode cL_calls 23 = .ok (.if_icmp .ne 27, 3) := by decide +kernel
theorem dL_calls_26 : decode cL_calls 26 = .ok (.aload_n 0, 1) := by decide +kernel
theorem dL_calls_27 : decode cL_calls 27 = .ok (.iload_n 2, 1) := by decide +kernel
theorem dL_calls_28 : decode cL_calls 28 = .ok (.iload_n 3, 1) := by decide +kernel
theorem dL_calls_29 : decode cL_calls 29 = .ok (.iload 4, 2) := by decide +kernel
theorem dL_calls_31 : decode cL_calls 31 = .ok (.iload 5, 2) := by decide +kernel
theorem dL_calls_33 : decode cL_calls 33 = .ok (.iload 6, 2) := by decide +kernel
theorem dL_calls_35 : decode cL_calls 35 = .ok (.iconst 1, 1) := by decide +kernel
theorem dL_calls_36 : decode cL_calls 36 = .ok (.if_icmp .ne 7, 3) := by decide +kernel
theorem dL_calls_39 : decode cL_calls 39 = .ok (.iconst 1, 1) := by decide +kernel
theorem dL_calls_40 : decode cL_calls 40 = .ok (.goto 4, 3) := by decide +kernel
theorem dL_calls_43 : decode cL_calls 43 = .ok (.iconst 0, 1) := by decide +kernel
theorem dL_calls_44 : decode cL_calls 44 = .ok (.invokevirtual 16, 3) := by decide +kernel
theorem dL_calls_47 : decode cL_calls 47 = .ok (.goto 199, 3) := by decide +kernel
theorem dL_calls_50 : decode cL_calls 50 = .ok (.iload_n 1, 1) := by decide +kernel
theorem dL_calls_51 : decode cL_calls 51 = .ok (.iconst 2, 1) := by decide +kernel
theorem dL_calls_52 : decode cL_calls 52 = .ok (.if_icmp .ne 16, 3) := by decide +kernel
theorem dL_calls_55 : decode cL_calls 55 = .ok (.aload_n 0, 1) := by decide +kernel
theorem dL_calls_56 : decode cL_calls 56 = .ok (.iload_n 2, 1) := by decide +kernel
theorem dL_calls_57 : decode cL_calls 57 = .ok (.iload_n 3, 1) := by decide +kernel
theorem dL_calls_58 : decode cL_calls 58 = .ok (.iload 4, 2) := by decide +kernel
theorem dL_calls_60 : decode cL_calls 60 = .ok (.iload 5, 2) := by decide +kernel
theorem dL_calls_62 : decode cL_calls 62 = .ok (.invokevirtual 20, 3) := by decide +kernel
theorem dL_calls_65 : decode cL_calls 65 = .ok (.goto 181, 3) := by decide +kernel
theorem dL_calls_68 : decode cL_calls 68 = .ok (.iload_n 1, 1) := by decide +kernel
theorem dL_calls_69 : decode cL_calls 69 = .ok (.iconst 3, 1) := by decide +kernel
theorem dL_calls_70 : decode cL_calls 70 = .ok (.if_icmp .ne 25, 3) := by decide +kernel
theorem dL_calls_73 : decode cL_calls 73 = .ok (.aload_n 0, 1) := by decide +kernel
theorem dL_calls_74 : decode cL_calls 74 = .ok (.iload_n 2, 1) := by decide +kernel
theorem dL_calls_75 : decode cL_calls 75 = .ok (.iload_n 3, 1) := by decide +kernel
theorem dL_calls_76 : decode cL_calls 76 = .ok (.iload 4, 2) := by decide +kernel
theorem dL_calls_78 : decode cL_calls 78 = .ok (.iconst 1, 1) := by decide +kernel
theorem dL_calls_79 : decode cL_calls 79 = .ok (.if_icmp .ne 7, 3) := by decide +kernel
theorem dL_calls_82 : decode cL_calls 82 = .ok (.iconst 1, 1) := by decide +kernel
theorem dL_calls_83 : decode cL_calls 83 = .ok (.goto 4, 3) := by decide +kernel
theorem dL_calls_86 : decode cL_calls 86 = .ok (.iconst 0, 1) := by decide +kernel
theorem dL_calls_87 : decode cL_calls 87 = .ok (.iload 5, 2) := by decide +kernel
theorem dL_calls_89 : decode cL_calls 89 = .ok (.invokevirtual 24, 3) := by decide +kernel
theorem dL_calls_92 : decode cL_calls 92 = .ok (.goto 154, 3) := by decide +kernel
theorem dL_calls_95 : decode cL_calls 95 = .ok (.iload_n 1, 1) := by decide +kernel
theorem dL_calls_96 : decode cL_calls 96 = .ok (.iconst 4, 1) := by decide +kernel
theorem dL_calls_97 : decode cL_calls 97 = .ok (.if_icmp .ne 12, 3) := by decide +kernel
theorem dL_calls_100 : decode cL_calls 100 = .ok (.aload_n 0, 1) := by decide +kernel
theorem dL_calls_101 : decode cL_calls 101 = .ok (.iload_n 2, 1) := by decide +kernel
theorem dL_calls_102 : decode cL_calls 102 = .ok (.iload_n 3, 1) := by decide +kernel
theorem dL_calls_103 : decode cL_calls 103 = .ok (.invokevirtual 28, 3) := by decide +kernel
theorem dL_calls_106 : decode cL_calls 106 = .ok (.goto 140, 3) := by decide +kernel
theorem dL_calls_109 : decode cL_calls 109 = .ok (.iload_n 1, 1) := by decide +kernel
theorem dL_calls_110 : decode cL_calls 110 = .ok (.iconst 5, 1) := by decide +kernel
theorem dL_calls_111 : decode cL_calls 111 = .ok (.if_icmp .ne 12, 3) := by decide +kernel
theorem dL_calls_114 : decode cL_calls 114 = .ok (.aload_n 0, 1) := by decide +kernel
theorem dL_calls_115 : decode cL_calls 115 = .ok (.iload_n 2, 1) := by decide +kernel
theorem dL_calls_116 : decode cL_calls 116 = .ok (.iload_n 3, 1) := by decide +kernel
theorem dL_calls_117 : decode cL_calls 117 = .ok (.invokevirtual 32, 3) := by decide +kernel
theorem dL_calls_120 : decode cL_calls 120 = .ok (.goto 126, 3) := by decide +kernel
theorem dL_calls_123 : decode cL_calls 123 = .ok (.iload_n 1, 1) := by decide +kernel
theorem dL_calls_124 : decode cL_calls 124 = .ok (.bipush 6, 2) := by decide +kernel
theorem dL_calls_126 : decode cL_calls 126 = .ok (.if_icmp .ne 11, 3) := by decide +kernel
theorem dL_calls_129 : decode cL_calls 129 = .ok (.aload_n 0, 1) := by decide +kernel
theorem dL_calls_130 : decode cL_calls 130 = .ok (.iload_n 2, 1) := by decide +kernel
theorem dL_calls_131 : decode cL_calls 131 = .ok (.invokevirtual 35, 3) := by decide +kernel
theorem dL_calls_134 : decode cL_calls 134 = .ok (.goto 112, 3) := by decide +kernel
theorem dL_calls_137 : decode cL_calls 137 = .ok (.iload_n 1, 1) := by decide +kernel
theorem dL_calls_138 : decode cL_calls 138 = .ok (.bipush 7, 2) := by decide +kernel
theorem dL_calls_140 : decode cL_calls 140 = .ok (.if_icmp .ne 29, 3) := by decide +kernel
theorem dL_calls_143 : decode cL_calls 143 = .ok (.aload_n 0, 1) := by decide +kernel
theorem dL_calls_144 : decode cL_calls 144 = .ok (.iload_n 2, 1) := by decide +kernel
theorem dL_calls_145 : decode cL_calls 145 = .ok (.iload_n 3, 1) := by decide +kernel
theorem dL_calls_146 : decode cL_calls 146 = .ok (.iconst 1, 1) := by decide +kernel
theorem dL_calls_147 : decode cL_calls 147 = .ok (.if_icmp .ne 7, 3) := by decide +kernel
theorem dL_calls_150 : decode cL_calls 150 = .ok (.iconst 1, 1) := by decide +kernel
theorem dL_calls_151 : decode cL_calls 151 = .ok (.goto 4, 3) := by decide +kernel
theorem dL_calls_154 : decode cL_calls 154 = .ok (.iconst 0, 1) := by decide +kernel
theorem dL_calls_155 : decode cL_calls 155 = .ok (.invokevirtual 39, 3) := by decide +kernel
theorem dL_calls_158 : decode cL_calls 158 = .ok (.ifCond .eq 7, 3) := by decide +kernel
theorem dL_calls_161 : decode cL_calls 161 = .ok (.iconst 1, 1) := by decide +kernel
theorem dL_calls_162 : decode cL_calls 162 = .ok (.goto 84, 3) := by decide +kernel
theorem dL_calls_165 : decode cL_calls 165 = .ok (.iconst 0, 1) := by decide +kernel
theorem dL_calls_166 : decode cL_calls 166 = .ok (.goto 80, 3) := by decide +kernel
theorem dL_calls_169 : decode cL_calls 169 = .ok (.iload_n 1, 1) := by decide +kernel
theorem dL_calls_170 : decode cL_calls 170 = .ok (.bipush 8, 2) := by decide +kernel
theorem dL_calls_172 : decode cL_calls 172 = .ok (.if_icmp .ne 11, 3) := by decide +kernel
theorem dL_calls_175 : decode cL_calls 175 = .ok (.aload_n 0, 1) := by decide +kernel
theorem dL_calls_176 : decode cL_calls 176 = .ok (.iload_n 2, 1) := by decide +kernel
theorem dL_calls_177 : decode cL_calls 177 = .ok (.invokevirtual 43, 3) := by decide +kernel
theorem dL_calls_180 : decode cL_calls 180 = .ok (.goto 66, 3) := by decide +kernel
theorem dL_calls_183 : decode cL_calls 183 = .ok (.iload_n 1, 1) := by decide +kernel
theorem dL_calls_184 : decode cL_calls 184 = .ok (.bipush 9, 2) := by decide +kernel
theorem dL_calls_186 : decode cL_calls 186 = .ok (.if_icmp .ne 11, 3) := by decide +kernel
theorem dL_calls_189 : decode cL_calls 189 = .ok (.aload_n 0, 1) := by decide +kernel
theorem dL_calls_190 : decode cL_calls 190 = .ok (.iload_n 2, 1) := by decide +kernel
theorem dL_calls_191 : decode cL_calls 191 = .ok (.invokevirtual 46, 3) := by decide +kernel
theorem dL_calls_194 : decode cL_calls 194 = .ok (.goto 52, 3) := by decide +kernel
theorem dL_calls_197 : decode cL_calls 197 = .ok (.iload_n 1, 1) := by decide +kernel
theorem dL_calls_198 : decode cL_calls 198 = .ok (.bipush 10, 2) := by decide +kernel
theorem dL_calls_200 : decode cL_calls 200 = .ok (.if_icmp .ne 11, 3) := by decide +kernel
theorem dL_calls_203 : decode cL_calls 203 = .ok (.aload_n 0, 1) := by decide +kernel
theorem dL_calls_204 : decode cL_calls 204 = .ok (.iload_n 2, 1) := by decide +kernel
theorem dL_calls_205 : decode cL_calls 205 = .ok (.invokevirtual 49, 3) := by decide +kernel
theorem dL_calls_208 : decode cL_calls 208 = .ok (.goto 38, 3) := by decide +kernel
theorem dL_calls_211 : decode cL_calls 211 = .ok (.iload_n 1, 1) := by decide +kernel
theorem dL_calls_212 : decode cL_calls 212 = .ok (.bipush 11, 2) := by decide +kernel
theorem dL_calls_214 : decode cL_calls 214 = .ok (.if_icmp .ne 11, 3) := by decide +kernel
theorem dL_calls_217 : decode cL_calls 217 = .ok (.aload_n 0, 1) := by decide +kernel
theorem dL_calls_218 : decode cL_calls 218 = .ok (.iload_n 2, 1) := by decide +kernel
theorem dL_calls_219 : decode cL_calls 219 = .ok (.invokevirtual 52, 3) := by decide +kernel
theorem dL_calls_222 : decode cL_calls 222 = .ok (.goto 24, 3) := by decide +kernel
theorem dL_calls_225 : decode cL_calls 225 = .ok (.iload_n 1, 1) := by decide +kernel
theorem dL_calls_226 : decode cL_calls 226 = .ok (.bipush 12, 2) := by decide +kernel
theorem dL_calls_228 : decode cL_calls 228 = .ok (.if_icmp .ne 12, 3) := by decide +kernel
theorem dL_calls_231 : decode cL_calls 231 = .ok (.aload_n 0, 1) := by decide +kernel
theorem dL_calls_232 : decode cL_calls 232 = .ok (.iload_n 2, 1) := by decide +kernel
theorem dL_calls_233 : decode cL_calls 233 = .ok (.iload_n 3, 1) := by decide +kernel
theorem dL_calls_234 : decode cL_calls 234 = .ok (.invokevirtual 55, 3) := by decide +kernel
theorem dL_calls_237 : decode cL_calls 237 = .ok (.goto 9, 3) := by decide +kernel
theorem dL_calls_240 : decode cL_calls 240 = .ok (.aload_n 0, 1) := by decide +kernel
theorem dL_calls_241 : decode cL_calls 241 = .ok (.iload_n 2, 1) := by decide +kernel
theorem dL_calls_242 : decode cL_calls 242 = .ok (.iload_n 3, 1) := by decide +kernel
theorem dL_calls_243 : decode cL_calls 243 = .ok (.invokevirtual 58, 3) := by decide +kernel
theorem dL_calls_246 : decode cL_calls 246 = .ok (.ireturn, 1) := by decide +kernel
theorem dL_calls_247 : decode cL_calls 247 = .ok (.astore 8, 2) := by decide +kernel
theorem dL_calls_249 : decode cL_calls 249 = .ok (.sipush (-1003), 3) := by decide +kernel
theorem dL_calls_252 : decode cL_calls 252 = .ok (.ireturn, 1) := by decide +kernel
theorem dL_able_0 : decode cL_able 0 = .ok (.aload_n 1, 1) := by decide +kernel
theorem dL_able_1 : decode cL_able 1 = .ok (.bipush 16, 2) := by decide +kernel
theorem dL_able_3 : decode cL_able 3 = .ok (.iload_n 0, 1) := by decide +kernel
theorem dL_able_4 : decode cL_able 4 = .ok (.iadd, 1) := by decide +kernel
theorem dL_able_5 : decode cL_able 5 = .ok (.iaload, 1) := by decide +kernel
theorem dL_able_6 : decode cL_able 6 = .ok (.ifCond .ne 29, 3) := by decide +kernel
theorem dL_able_9 : decode cL_able 9 = .ok (.aload_n 1, 1) := by decide +kernel
theorem dL_able_10 : decode cL_able 10 = .ok (.bipush 32, 2) := by decide +kernel
theorem dL_able_12 : decode cL_able 12 = .ok (.iload_n 0, 1) := by decide +kernel
theorem dL_able_13 : decode cL_able 13 = .ok (.iadd, 1) := by decide +kernel
theorem dL_able_14 : decode cL_able 14 = .ok (.iaload, 1) := by decide +kernel
theorem dL_able_15 : decode cL_able 15 = .ok (.ifCond .ne 20, 3) := by decide +kernel
theorem dL_able_18 : decode cL_able 18 = .ok (.aload_n 1, 1) := by decide +kernel
theorem dL_able_19 : decode cL_able 19 = .ok (.iload_n 0, 1) := by decide +kernel
theorem dL_able_20 : decode cL_able 20 = .ok (.iaload, 1) := by decide +kernel
theorem dL_able_21 : decode cL_able 21 = .ok (.aload_n 2, 1) := by decide +kernel
theorem dL_able_22 : decode cL_able 22 = .ok (.iconst 0, 1) := by decide +kernel
theorem dL_able_23 : decode cL_able 23 = .ok (.iaload, 1) := by decide +kernel
theorem dL_able_24 : decode cL_able 24 = .ok (.iadd, 1) := by decide +kernel
theorem dL_able_25 : decode cL_able 25 = .ok (.sipush 6480, 3) := by decide +kernel
theorem dL_able_28 : decode cL_able 28 = .ok (.if_icmp .lt 7, 3) := by decide +kernel
theorem dL_able_31 : decode cL_able 31 = .ok (.iconst 1, 1) := by decide +kernel
theorem dL_able_32 : decode cL_able 32 = .ok (.goto 4, 3) := by decide +kernel
theorem dL_able_35 : decode cL_able 35 = .ok (.iconst 0, 1) := by decide +kernel
theorem dL_able_36 : decode cL_able 36 = .ok (.ireturn, 1) := by decide +kernel
theorem dL_alone_0 : decode cL_alone 0 = .ok (.aload 4, 2) := by decide +kernel
theorem dL_alone_2 : decode cL_alone 2 = .ok (.iload_n 0, 1) := by decide +kernel
theorem dL_alone_3 : decode cL_alone 3 = .ok (.iaload, 1) := by decide +kernel
theorem dL_alone_4 : decode cL_alone 4 = .ok (.iconst 4, 1) := by decide +kernel
theorem dL_alone_5 : decode cL_alone 5 = .ok (.irem, 1) := by decide +kernel
theorem dL_alone_6 : decode cL_alone 6 = .ok (.istore 7, 2) := by decide +kernel
theorem dL_alone_8 : decode cL_alone 8 = .ok (.aload_n 3, 1) := by decide +kernel
theorem dL_alone_9 : decode cL_alone 9 = .ok (.iload_n 0, 1) := by decide +kernel
theorem dL_alone_10 : decode cL_alone 10 = .ok (.iaload, 1) := by decide +kernel
theorem dL_alone_11 : decode cL_alone 11 = .ok (.iconst 2, 1) := by decide +kernel
theorem dL_alone_12 : decode cL_alone 12 = .ok (.idiv, 1) := by decide +kernel
theorem dL_alone_13 : decode cL_alone 13 = .ok (.istore 8, 2) := by decide +kernel
theorem dL_alone_15 : decode cL_alone 15 = .ok (.iload 7, 2) := by decide +kernel
theorem dL_alone_17 : decode cL_alone 17 = .ok (.iconst 2, 1) := by decide +kernel
theorem dL_alone_18 : decode cL_alone 18 = .ok (.if_icmp .ne 25, 3) := by decide +kernel
theorem dL_alone_21 : decode cL_alone 21 = .ok (.aload 5, 2) := by decide +kernel
theorem dL_alone_23 : decode cL_alone 23 = .ok (.iload_n 0, 1) := by decide +kernel
theorem dL_alone_24 : decode cL_alone 24 = .ok (.iaload, 1) := by decide +kernel
theorem dL_alone_25 : decode cL_alone 25 = .ok (.bipush 30, 2) := by decide +kernel
theorem dL_alone_27 : decode cL_alone 27 = .ok (.iadd, 1) := by decide +kernel
theorem dL_alone_28 : decode cL_alone 28 = .ok (.iload 8, 2) := by decide +kernel
theorem dL_alone_30 : decode cL_alone 30 = .ok (.if_icmp .ge 13, 3) := by decide +kernel
theorem dL_alone_33 : decode cL_alone 33 = .ok (.aload 5, 2) := by decide +kernel
theorem dL_alone_35 : decode cL_alone 35 = .ok (.iload_n 0, 1) := by decide +kernel
theorem dL_alone_36 : decode cL_alone 36 = .ok (.iaload, 1) := by decide +kernel
theorem dL_alone_37 : decode cL_alone 37 = .ok (.bipush 30, 2) := by decide +kernel
theorem dL_alone_39 : decode cL_alone 39 = .ok (.iadd, 1) := by decide +kernel
theorem dL_alone_40 : decode cL_alone 40 = .ok (.goto 5, 3) := by decide +kernel
theorem dL_alone_43 : decode cL_alone 43 = .ok (.iload 8, 2) := by decide +kernel
theorem dL_alone_45 : decode cL_alone 45 = .ok (.istore 8, 2) := by decide +kernel
theorem dL_alone_47 : decode cL_alone 47 = .ok (.aload_n 2, 1) := by decide +kernel
theorem dL_alone_48 : decode cL_alone 48 = .ok (.iload_n 0, 1) := by decide +kernel
theorem dL_alone_49 : decode cL_alone 49 = .ok (.iaload, 1) := by decide +kernel
theorem dL_alone_50 : decode cL_alone 50 = .ok (.bipush 8, 2) := by decide +kernel
theorem dL_alone_52 : decode cL_alone 52 = .ok (.irem, 1) := by decide +kernel
theorem dL_alone_53 : decode cL_alone 53 = .ok (.iconst 3, 1) := by decide +kernel
theorem dL_alone_54 : decode cL_alone 54 = .ok (.if_icmp .ne 55, 3) := by decide +kernel
theorem dL_alone_57 : decode cL_alone 57 = .ok (.iload 7, 2) := by decide +kernel
theorem dL_alone_59 : decode cL_alone 59 = .ok (.iconst 1, 1) := by decide +kernel
theorem dL_alone_60 : decode cL_alone 60 = .ok (.if_icmp .eq 9, 3) := by decide +kernel
theorem dL_alone_63 : decode cL_alone 63 = .ok (.iload 7, 2) := by decide +kernel
theorem dL_alone_65 : decode cL_alone 65 = .ok (.iconst 2, 1) := by decide +kernel
theorem dL_alone_66 : decode cL_alone 66 = .ok (.if_icmp .ne 43, 3) := by decide +kernel
theorem dL_alone_69 : decode cL_alone 69 = .ok (.aload 6, 2) := by decide +kernel
theorem dL_alone_71 : decode cL_alone 71 = .ok (.iconst 0, 1) := by decide +kernel
theorem dL_alone_72 : decode cL_alone 72 = .ok (.iaload, 1) := by decide +kernel
theorem dL_alone_73 : decode cL_alone 73 = .ok (.iload 8, 2) := by decide +kernel
theorem dL_alone_75 : decode cL_alone 75 = .ok (.if_icmp .gt 34, 3) := by decide +kernel
theorem dL_alone_78 : decode cL_alone 78 = .ok (.aload 4, 2) := by decide +kernel
theorem dL_alone_80 : decode cL_alone 80 = .ok (.iload_n 0, 1) := by decide +kernel
theorem dL_alone_81 : decode cL_alone 81 = .ok (.iaload, 1) := by decide +kernel
theorem dL_alone_82 : decode cL_alone 82 = .ok (.iconst 4, 1) := by decide +kernel
theorem dL_alone_83 : decode cL_alone 83 = .ok (.idiv, 1) := by decide +kernel
theorem dL_alone_84 : decode cL_alone 84 = .ok (.iconst 2, 1) := by decide +kernel
theorem dL_alone_85 : decode cL_alone 85 = .ok (.if_icmp .ge 24, 3) := by decide +kernel
theorem dL_alone_88 : decode cL_alone 88 = .ok (.aload_n 1, 1) := by decide +kernel
theorem dL_alone_89 : decode cL_alone 89 = .ok (.bipush 16, 2) := by decide +kernel
theorem dL_alone_91 : decode cL_alone 91 = .ok (.aload_n 2, 1) := by decide +kernel
theorem dL_alone_92 : decode cL_alone 92 = .ok (.iload_n 0, 1) := by decide +kernel
theorem dL_alone_93 : decode cL_alone 93 = .ok (.iaload, 1) := by decide +kernel
theorem dL_alone_94 : decode cL_alone 94 = .ok (.bipush 8, 2) := by decide +kernel
theorem dL_alone_96 : decode cL_alone 96 = .ok (.idiv, 1) := by decide +kernel
theorem dL_alone_97 : decode cL_alone 97 = .ok (.bipush 8, 2) := by decide +kernel
theorem dL_alone_99 : decode cL_alone 99 = .ok (.irem, 1) := by decide +kernel
theorem dL_alone_100 : decode cL_alone 100 = .ok (.iadd, 1) := by decide +kernel
theorem dL_alone_101 : decode cL_alone 101 = .ok (.iaload, 1) := by decide +kernel
theorem dL_alone_102 : decode cL_alone 102 = .ok (.ifCond .ne 7, 3) := by decide +kernel
theorem dL_alone_105 : decode cL_alone 105 = .ok (.iconst 1, 1) := by decide +kernel
theorem dL_alone_106 : decode cL_alone 106 = .ok (.goto 4, 3) := by decide +kernel
theorem dL_alone_109 : decode cL_alone 109 = .ok (.iconst 0, 1) := by decide +kernel
theorem dL_alone_110 : decode cL_alone 110 = .ok (.ireturn, 1) := by decide +kernel
theorem dL_good_0 : decode cL_good 0 = .ok (.iload_n 0, 1) := by decide +kernel
theorem dL_good_1 : decode cL_good 1 = .ok (.aload_n 1, 1) := by decide +kernel
theorem dL_good_2 : decode cL_good 2 = .ok (.aload_n 2, 1) := by decide +kernel
theorem dL_good_3 : decode cL_good 3 = .ok (.aload_n 3, 1) := by decide +kernel
theorem dL_good_4 : decode cL_good 4 = .ok (.aload 5, 2) := by decide +kernel
theorem dL_good_6 : decode cL_good 6 = .ok (.aload 6, 2) := by decide +kernel
theorem dL_good_8 : decode cL_good 8 = .ok (.aload 7, 2) := by decide +kernel
theorem dL_good_10 : decode cL_good 10 = .ok (.invokestatic 63, 3) := by decide +kernel
theorem dL_good_13 : decode cL_good 13 = .ok (.istore 8, 2) := by decide +kernel
theorem dL_good_15 : decode cL_good 15 = .ok (.aload 4, 2) := by decide +kernel
theorem dL_good_17 : decode cL_good 17 = .ok (.iload_n 0, 1) := by decide +kernel
theorem dL_good_18 : decode cL_good 18 = .ok (.iaload, 1) := by decide +kernel
theorem dL_good_19 : decode cL_good 19 = .ok (.iconst 1, 1) := by decide +kernel
theorem dL_good_20 : decode cL_good 20 = .ok (.isub, 1) := by decide +kernel
theorem dL_good_21 : decode cL_good 21 = .ok (.istore 9, 2) := by decide +kernel
theorem dL_good_23 : decode cL_good 23 = .ok (.iconst 0, 1) := by decide +kernel
theorem dL_good_24 : decode cL_good 24 = .ok (.istore 10, 2) := by decide +kernel
theorem dL_good_26 : decode cL_good 26 = .ok (.iload 10, 2) := by decide +kernel
theorem dL_good_28 : decode cL_good 28 = .ok (.bipush 64, 2) := by decide +kernel
theorem dL_good_30 : decode cL_good 30 = .ok (.if_icmp .ge 62, 3) := by decide +kernel
theorem dL_good_33 : decode cL_good 33 = .ok (.iload 9, 2) := by decide +kernel
theorem dL_good_35 : decode cL_good 35 = .ok (.ifCond .lt 57, 3) := by decide +kernel
theorem dL_good_38 : decode cL_good 38 = .ok (.iload 8, 2) := by decide +kernel
theorem dL_good_40 : decode cL_good 40 = .ok (.ifCond .eq 34, 3) := by decide +kernel
theorem dL_good_43 : decode cL_good 43 = .ok (.iload 9, 2) := by decide +kernel
theorem dL_good_45 : decode cL_good 45 = .ok (.aload_n 1, 1) := by decide +kernel
theorem dL_good_46 : decode cL_good 46 = .ok (.aload_n 2, 1) := by decide +kernel
theorem dL_good_47 : decode cL_good 47 = .ok (.aload_n 3, 1) := by decide +kernel
theorem dL_good_48 : decode cL_good 48 = .ok (.aload 5, 2) := by decide +kernel
theorem dL_good_50 : decode cL_good 50 = .ok (.aload 6, 2) := by decide +kernel
theorem dL_good_52 : decode cL_good 52 = .ok (.aload 7, 2) := by decide +kernel
theorem dL_good_54 : decode cL_good 54 = .ok (.invokestatic 63, 3) := by decide +kernel
theorem dL_good_57 : decode cL_good 57 = .ok (.ifCond .eq 17, 3) := by decide +kernel
theorem dL_good_60 : decode cL_good 60 = .ok (.aload_n 3, 1) := by decide +kernel
theorem dL_good_61 : decode cL_good 61 = .ok (.iload 9, 2) := by decide +kernel
theorem dL_good_63 : decode cL_good 63 = .ok (.iaload, 1) := by decide +kernel
theorem dL_good_64 : decode cL_good 64 = .ok (.iconst 2, 1) := by decide +kernel
theorem dL_good_65 : decode cL_good 65 = .ok (.irem, 1) := by decide +kernel
theorem dL_good_66 : decode cL_good 66 = .ok (.iconst 1, 1) := by decide +kernel
theorem dL_good_67 : decode cL_good 67 = .ok (.if_icmp .ne 7, 3) := by decide +kernel
theorem dL_good_70 : decode cL_good 70 = .ok (.iconst 1, 1) := by decide +kernel
theorem dL_good_71 : decode cL_good 71 = .ok (.goto 4, 3) := by decide +kernel
theorem dL_good_74 : decode cL_good 74 = .ok (.iconst 0, 1) := by decide +kernel
theorem dL_good_75 : decode cL_good 75 = .ok (.istore 8, 2) := by decide +kernel
theorem dL_good_77 : decode cL_good 77 = .ok (.aload 4, 2) := by decide +kernel
theorem dL_good_79 : decode cL_good 79 = .ok (.iload 9, 2) := by decide +kernel
theorem dL_good_81 : decode cL_good 81 = .ok (.iaload, 1) := by decide +kernel
theorem dL_good_82 : decode cL_good 82 = .ok (.iconst 1, 1) := by decide +kernel
theorem dL_good_83 : decode cL_good 83 = .ok (.isub, 1) := by decide +kernel
theorem dL_good_84 : decode cL_good 84 = .ok (.istore 9, 2) := by decide +kernel
theorem dL_good_86 : decode cL_good 86 = .ok (.iinc 10 1, 3) := by decide +kernel
theorem dL_good_89 : decode cL_good 89 = .ok (.goto (-63), 3) := by decide +kernel
theorem dL_good_92 : decode cL_good 92 = .ok (.iload 8, 2) := by decide +kernel
theorem dL_good_94 : decode cL_good 94 = .ok (.ireturn, 1) := by decide +kernel
theorem dL_kin_0 : decode cL_kin 0 = .ok (.aload_n 2, 1) := by decide +kernel
theorem dL_kin_1 : decode cL_kin 1 = .ok (.bipush 24, 2) := by decide +kernel
theorem dL_kin_3 : decode cL_kin 3 = .ok (.iload_n 0, 1) := by decide +kernel
theorem dL_kin_4 : decode cL_kin 4 = .ok (.iadd, 1) := by decide +kernel
theorem dL_kin_5 : decode cL_kin 5 = .ok (.iaload, 1) := by decide +kernel
theorem dL_kin_6 : decode cL_kin 6 = .ok (.iload_n 1, 1) := by decide +kernel
theorem dL_kin_7 : decode cL_kin 7 = .ok (.ishr, 1) := by decide +kernel
theorem dL_kin_8 : decode cL_kin 8 = .ok (.iconst 1, 1) := by decide +kernel
theorem dL_kin_9 : decode cL_kin 9 = .ok (.iand, 1) := by decide +kernel
theorem dL_kin_10 : decode cL_kin 10 = .ok (.iconst 1, 1) := by decide +kernel
theorem dL_kin_11 : decode cL_kin 11 = .ok (.if_icmp .eq 17, 3) := by decide +kernel
theorem dL_kin_14 : decode cL_kin 14 = .ok (.aload_n 2, 1) := by decide +kernel
theorem dL_kin_15 : decode cL_kin 15 = .ok (.bipush 24, 2) := by decide +kernel
theorem dL_kin_17 : decode cL_kin 17 = .ok (.iload_n 1, 1) := by decide +kernel
theorem dL_kin_18 : decode cL_kin 18 = .ok (.iadd, 1) := by decide +kernel
theorem dL_kin_19 : decode cL_kin 19 = .ok (.iaload, 1) := by decide +kernel
theorem dL_kin_20 : decode cL_kin 20 = .ok (.iload_n 0, 1) := by decide +kernel
theorem dL_kin_21 : decode cL_kin 21 = .ok (.ishr, 1) := by decide +kernel
theorem dL_kin_22 : decode cL_kin 22 = .ok (.iconst 1, 1) := by decide +kernel
theorem dL_kin_23 : decode cL_kin 23 = .ok (.iand, 1) := by decide +kernel
theorem dL_kin_24 : decode cL_kin 24 = .ok (.iconst 1, 1) := by decide +kernel
theorem dL_kin_25 : decode cL_kin 25 = .ok (.if_icmp .ne 7, 3) := by decide +kernel
theorem dL_kin_28 : decode cL_kin 28 = .ok (.iconst 1, 1) := by decide +kernel
theorem dL_kin_29 : decode cL_kin 29 = .ok (.goto 4, 3) := by decide +kernel
theorem dL_kin_32 : decode cL_kin 32 = .ok (.iconst 0, 1) := by decide +kernel
theorem dL_kin_33 : decode cL_kin 33 = .ok (.ireturn, 1) := by decide +kernel
theorem dL_signs_0 : decode cL_signs 0 = .ok (.iload_n 2, 1) := by decide +kernel
theorem dL_signs_1 : decode cL_signs 1 = .ok (.ifCond .eq 16, 3) := by decide +kernel
theorem dL_signs_4 : decode cL_signs 4 = .ok (.aload 5, 2) := by decide +kernel
theorem dL_signs_6 : decode cL_signs 6 = .ok (.iload_n 0, 1) := by decide +kernel
theorem dL_signs_7 : decode cL_signs 7 = .ok (.iaload, 1) := by decide +kernel
theorem dL_signs_8 : decode cL_signs 8 = .ok (.bipush 8, 2) := by decide +kernel
theorem dL_signs_10 : decode cL_signs 10 = .ok (.idiv, 1) := by decide +kernel
theorem dL_signs_11 : decode cL_signs 11 = .ok (.bipush 8, 2) := by decide +kernel
theorem dL_signs_13 : decode cL_signs 13 = .ok (.irem, 1) := by decide +kernel
theorem dL_signs_14 : decode cL_signs 14 = .ok (.goto 13, 3) := by decide +kernel
theorem dL_signs_17 : decode cL_signs 17 = .ok (.aload 5, 2) := by decide +kernel
theorem dL_signs_19 : decode cL_signs 19 = .ok (.iload_n 0, 1) := by decide +kernel
theorem dL_signs_20 : decode cL_signs 20 = .ok (.iaload, 1) := by decide +kernel
theorem dL_signs_21 : decode cL_signs 21 = .ok (.bipush 64, 2) := by decide +kernel
theorem dL_signs_23 : decode cL_signs 23 = .ok (.idiv, 1) := by decide +kernel
theorem dL_signs_24 : decode cL_signs 24 = .ok (.bipush 8, 2) := by decide +kernel
theorem dL_signs_26 : decode cL_signs 26 = .ok (.irem, 1) := by decide +kernel
theorem dL_signs_27 : decode cL_signs 27 = .ok (.istore 12, 2) := by decide +kernel
theorem dL_signs_29 : decode cL_signs 29 = .ok (.iload_n 2, 1) := by decide +kernel
theorem dL_signs_30 : decode cL_signs 30 = .ok (.ifCond .eq 16, 3) := by decide +kernel
theorem dL_signs_33 : decode cL_signs 33 = .ok (.aload 5, 2) := by decide +kernel
theorem dL_signs_35 : decode cL_signs 35 = .ok (.iload_n 0, 1) := by decide +kernel
theorem dL_signs_36 : decode cL_signs 36 = .ok (.iaload, 1) := by decide +kernel
theorem dL_signs_37 : decode cL_signs 37 = .ok (.bipush 64, 2) := by decide +kernel
theorem dL_signs_39 : decode cL_signs 39 = .ok (.idiv, 1) := by decide +kernel
theorem dL_signs_40 : decode cL_signs 40 = .ok (.bipush 8, 2) := by decide +kernel
theorem dL_signs_42 : decode cL_signs 42 = .ok (.irem, 1) := by decide +kernel
theorem dL_signs_43 : decode cL_signs 43 = .ok (.goto 13, 3) := by decide +kernel
theorem dL_signs_46 : decode cL_signs 46 = .ok (.aload 5, 2) := by decide +kernel
theorem dL_signs_48 : decode cL_signs 48 = .ok (.iload_n 0, 1) := by decide +kernel
theorem dL_signs_49 : decode cL_signs 49 = .ok (.iaload, 1) := by decide +kernel
theorem dL_signs_50 : decode cL_signs 50 = .ok (.bipush 8, 2) := by decide +kernel
theorem dL_signs_52 : decode cL_signs 52 = .ok (.idiv, 1) := by decide +kernel
theorem dL_signs_53 : decode cL_signs 53 = .ok (.bipush 8, 2) := by decide +kernel
theorem dL_signs_55 : decode cL_signs 55 = .ok (.irem, 1) := by decide +kernel
theorem dL_signs_56 : decode cL_signs 56 = .ok (.istore 13, 2) := by decide +kernel
theorem dL_signs_58 : decode cL_signs 58 = .ok (.aload 5, 2) := by decide +kernel
theorem dL_signs_60 : decode cL_signs 60 = .ok (.iload_n 0, 1) := by decide +kernel
theorem dL_signs_61 : decode cL_signs 61 = .ok (.iaload, 1) := by decide +kernel
theorem dL_signs_62 : decode cL_signs 62 = .ok (.bipush 8, 2) := by decide +kernel
theorem dL_signs_64 : decode cL_signs 64 = .ok (.irem, 1) := by decide +kernel
theorem dL_signs_65 : decode cL_signs 65 = .ok (.iconst 4, 1) := by decide +kernel
theorem dL_signs_66 : decode cL_signs 66 = .ok (.if_icmp .ne 7, 3) := by decide +kernel
theorem dL_signs_69 : decode cL_signs 69 = .ok (.iconst 1, 1) := by decide +kernel
theorem dL_signs_70 : decode cL_signs 70 = .ok (.goto 4, 3) := by decide +kernel
theorem dL_signs_73 : decode cL_signs 73 = .ok (.iconst 0, 1) := by decide +kernel
theorem dL_signs_74 : decode cL_signs 74 = .ok (.istore 14, 2) := by decide +kernel
theorem dL_signs_76 : decode cL_signs 76 = .ok (.aload 9, 2) := by decide +kernel
theorem dL_signs_78 : decode cL_signs 78 = .ok (.iload_n 0, 1) := by decide +kernel
theorem dL_signs_79 : decode cL_signs 79 = .ok (.iaload, 1) := by decide +kernel
theorem dL_signs_80 : decode cL_signs 80 = .ok (.iconst 4, 1) := by decide +kernel
theorem dL_signs_81 : decode cL_signs 81 = .ok (.irem, 1) := by decide +kernel
theorem dL_signs_82 : decode cL_signs 82 = .ok (.ifCond .gt 46, 3) := by decide +kernel
theorem dL_signs_85 : decode cL_signs 85 = .ok (.aload 8, 2) := by decide +kernel
theorem dL_signs_87 : decode cL_signs 87 = .ok (.iload_n 0, 1) := by decide +kernel
theorem dL_signs_88 : decode cL_signs 88 = .ok (.iaload, 1) := by decide +kernel
theorem dL_signs_89 : decode cL_signs 89 = .ok (.iload_n 2, 1) := by decide +kernel
theorem dL_signs_90 : decode cL_signs 90 = .ok (.ifCond .eq 7, 3) := by decide +kernel
theorem dL_signs_93 : decode cL_signs 93 = .ok (.iconst 1, 1) := by decide +kernel
theorem dL_signs_94 : decode cL_signs 94 = .ok (.goto 4, 3) := by decide +kernel
theorem dL_signs_97 : decode cL_signs 97 = .ok (.iconst 2, 1) := by decide +kernel
theorem dL_signs_98 : decode cL_signs 98 = .ok (.iand, 1) := by decide +kernel
theorem dL_signs_99 : decode cL_signs 99 = .ok (.ifCond .gt 29, 3) := by decide +kernel
theorem dL_signs_102 : decode cL_signs 102 = .ok (.iload_n 1, 1) := by decide +kernel
theorem dL_signs_103 : decode cL_signs 103 = .ok (.aload 4, 2) := by decide +kernel
theorem dL_signs_105 : decode cL_signs 105 = .ok (.aload 11, 2) := by decide +kernel
theorem dL_signs_107 : decode cL_signs 107 = .ok (.invokestatic 69, 3) := by decide +kernel
theorem dL_signs_110 : decode cL_signs 110 = .ok (.ifCond .eq 18, 3) := by decide +kernel
theorem dL_signs_113 : decode cL_signs 113 = .ok (.iload 14, 2) := by decide +kernel
theorem dL_signs_115 : decode cL_signs 115 = .ok (.ifCond .eq 17, 3) := by decide +kernel
theorem dL_signs_118 : decode cL_signs 118 = .ok (.iload_n 2, 1) := by decide +kernel
theorem dL_signs_119 : decode cL_signs 119 = .ok (.ifCond .eq 9, 3) := by decide +kernel
theorem dL_signs_122 : decode cL_signs 122 = .ok (.iload_n 1, 1) := by decide +kernel
theorem dL_signs_123 : decode cL_signs 123 = .ok (.iload 12, 2) := by decide +kernel
theorem dL_signs_125 : decode cL_signs 125 = .ok (.if_icmp .eq 7, 3) := by decide +kernel
theorem dL_signs_128 : decode cL_signs 128 = .ok (.sipush (-1003), 3) := by decide +kernel
theorem dL_signs_131 : decode cL_signs 131 = .ok (.ireturn, 1) := by decide +kernel
theorem dL_signs_132 : decode cL_signs 132 = .ok (.aload 4, 2) := by decide +kernel
theorem dL_signs_134 : decode cL_signs 134 = .ok (.bipush 16, 2) := by decide +kernel
theorem dL_signs_136 : decode cL_signs 136 = .ok (.iload 12, 2) := by decide +kernel
theorem dL_signs_138 : decode cL_signs 138 = .ok (.iadd, 1) := by decide +kernel
theorem dL_signs_139 : decode cL_signs 139 = .ok (.iaload, 1) := by decide +kernel
theorem dL_signs_140 : decode cL_signs 140 = .ok (.ifCond .ne 21, 3) := by decide +kernel
theorem dL_signs_143 : decode cL_signs 143 = .ok (.aload 4, 2) := by decide +kernel
theorem dL_signs_145 : decode cL_signs 145 = .ok (.bipush 32, 2) := by decide +kernel
theorem dL_signs_147 : decode cL_signs 147 = .ok (.iload 12, 2) := by decide +kernel
theorem dL_signs_149 : decode cL_signs 149 = .ok (.iadd, 1) := by decide +kernel
theorem dL_signs_150 : decode cL_signs 150 = .ok (.iaload, 1) := by decide +kernel
theorem dL_signs_151 : decode cL_signs 151 = .ok (.iload_n 1, 1) := by decide +kernel
theorem dL_signs_152 : decode cL_signs 152 = .ok (.iconst 1, 1) := by decide +kernel
theorem dL_signs_153 : decode cL_signs 153 = .ok (.iadd, 1) := by decide +kernel
theorem dL_signs_154 : decode cL_signs 154 = .ok (.if_icmp .ne 7, 3) := by decide +kernel
theorem dL_signs_157 : decode cL_signs 157 = .ok (.iconst 1, 1) := by decide +kernel
theorem dL_signs_158 : decode cL_signs 158 = .ok (.goto 4, 3) := by decide +kernel
theorem dL_signs_161 : decode cL_signs 161 = .ok (.iconst 0, 1) := by decide +kernel
theorem dL_signs_162 : decode cL_signs 162 = .ok (.istore 15, 2) := by decide +kernel
theorem dL_signs_164 : decode cL_signs 164 = .ok (.iload_n 1, 1) := by decide +kernel
theorem dL_signs_165 : decode cL_signs 165 = .ok (.iload 12, 2) := by decide +kernel
theorem dL_signs_167 : decode cL_signs 167 = .ok (.if_icmp .eq 148, 3) := by decide +kernel
theorem dL_signs_170 : decode cL_signs 170 = .ok (.iload_n 3, 1) := by decide +kernel
theorem dL_signs_171 : decode cL_signs 171 = .ok (.ifCond .lt 98, 3) := by decide +kernel
theorem dL_signs_174 : decode cL_signs 174 = .ok (.aload 4, 2) := by decide +kernel
theorem dL_signs_176 : decode cL_signs 176 = .ok (.bipush 16, 2) := by decide +kernel
theorem dL_signs_178 : decode cL_signs 178 = .ok (.iload 12, 2) := by decide +kernel
theorem dL_signs_180 : decode cL_signs 180 = .ok (.iadd, 1) := by decide +kernel
theorem dL_signs_181 : decode cL_signs 181 = .ok (.iaload, 1) := by decide +kernel
theorem dL_signs_182 : decode cL_signs 182 = .ok (.ifCond .ne 87, 3) := by decide +kernel
theorem dL_signs_185 : decode cL_signs 185 = .ok (.iload_n 3, 1) := by decide +kernel
theorem dL_signs_186 : decode cL_signs 186 = .ok (.aload 4, 2) := by decide +kernel
theorem dL_signs_188 : decode cL_signs 188 = .ok (.aload 5, 2) := by decide +kernel
theorem dL_signs_190 : decode cL_signs 190 = .ok (.aload 6, 2) := by decide +kernel
theorem dL_signs_192 : decode cL_signs 192 = .ok (.aload 7, 2) := by decide +kernel
theorem dL_signs_194 : decode cL_signs 194 = .ok (.aload 9, 2) := by decide +kernel
theorem dL_signs_196 : decode cL_signs 196 = .ok (.aload 10, 2) := by decide +kernel
theorem dL_signs_198 : decode cL_signs 198 = .ok (.aload 11, 2) := by decide +kernel
theorem dL_signs_200 : decode cL_signs 200 = .ok (.invokestatic 73, 3) := by decide +kernel
theorem dL_signs_203 : decode cL_signs 203 = .ok (.ifCond .eq 66, 3) := by decide +kernel
theorem dL_signs_206 : decode cL_signs 206 = .ok (.aload 5, 2) := by decide +kernel
theorem dL_signs_208 : decode cL_signs 208 = .ok (.iload_n 3, 1) := by decide +kernel
theorem dL_signs_209 : decode cL_signs 209 = .ok (.iaload, 1) := by decide +kernel
theorem dL_signs_210 : decode cL_signs 210 = .ok (.bipush 8, 2) := by decide +kernel
theorem dL_signs_212 : decode cL_signs 212 = .ok (.idiv, 1) := by decide +kernel
theorem dL_signs_213 : decode cL_signs 213 = .ok (.bipush 8, 2) := by decide +kernel
theorem dL_signs_215 : decode cL_signs 215 = .ok (.irem, 1) := by decide +kernel
theorem dL_signs_216 : decode cL_signs 216 = .ok (.iload 12, 2) := by decide +kernel
theorem dL_signs_218 : decode cL_signs 218 = .ok (.if_icmp .ne 51, 3) := by decide +kernel
theorem dL_signs_221 : decode cL_signs 221 = .ok (.aload 5, 2) := by decide +kernel
theorem dL_signs_223 : decode cL_signs 223 = .ok (.iload_n 3, 1) := by decide +kernel
theorem dL_signs_224 : decode cL_signs 224 = .ok (.iaload, 1) := by decide +kernel
theorem dL_signs_225 : decode cL_signs 225 = .ok (.bipush 64, 2) := by decide +kernel
theorem dL_signs_227 : decode cL_signs 227 = .ok (.idiv, 1) := by decide +kernel
theorem dL_signs_228 : decode cL_signs 228 = .ok (.bipush 8, 2) := by decide +kernel
theorem dL_signs_230 : decode cL_signs 230 = .ok (.irem, 1) := by decide +kernel
theorem dL_signs_231 : decode cL_signs 231 = .ok (.iload_n 1, 1) := by decide +kernel
theorem dL_signs_232 : decode cL_signs 232 = .ok (.if_icmp .ne 37, 3) := by decide +kernel
theorem dL_signs_235 : decode cL_signs 235 = .ok (.aload 5, 2) := by decide +kernel
theorem dL_signs_237 : decode cL_signs 237 = .ok (.iload_n 3, 1) := by decide +kernel
theorem dL_signs_238 : decode cL_signs 238 = .ok (.iaload, 1) := by decide +kernel
theorem dL_signs_239 : decode cL_signs 239 = .ok (.sipush 512, 3) := by decide +kernel
theorem dL_signs_242 : decode cL_signs 242 = .ok (.idiv, 1) := by decide +kernel
theorem dL_signs_243 : decode cL_signs 243 = .ok (.ifCond .eq 22, 3) := by decide +kernel
theorem dL_signs_246 : decode cL_signs 246 = .ok (.aload 5, 2) := by decide +kernel
theorem dL_signs_248 : decode cL_signs 248 = .ok (.iload_n 3, 1) := by decide +kernel
theorem dL_signs_249 : decode cL_signs 249 = .ok (.iaload, 1) := by decide +kernel
theorem dL_signs_250 : decode cL_signs 250 = .ok (.sipush 512, 3) := by decide +kernel
theorem dL_signs_253 : decode cL_signs 253 = .ok (.idiv, 1) := by decide +kernel
theorem dL_signs_254 : decode cL_signs 254 = .ok (.aload 5, 2) := by decide +kernel
theorem dL_signs_256 : decode cL_signs 256 = .ok (.iload_n 0, 1) := by decide +kernel
theorem dL_signs_257 : decode cL_signs 257 = .ok (.iaload, 1) := by decide +kernel
theorem dL_signs_258 : decode cL_signs 258 = .ok (.sipush 512, 3) := by decide +kernel
theorem dL_signs_261 : decode cL_signs 261 = .ok (.idiv, 1) := by decide +kernel
theorem dL_signs_262 : decode cL_signs 262 = .ok (.if_icmp .ne 7, 3) := by decide +kernel
theorem dL_signs_265 : decode cL_signs 265 = .ok (.iconst 1, 1) := by decide +kernel
theorem dL_signs_266 : decode cL_signs 266 = .ok (.goto 4, 3) := by decide +kernel
theorem dL_signs_269 : decode cL_signs 269 = .ok (.iconst 0, 1) := by decide +kernel
theorem dL_signs_270 : decode cL_signs 270 = .ok (.istore 16, 2) := by decide +kernel
theorem dL_signs_272 : decode cL_signs 272 = .ok (.iload_n 1, 1) := by decide +kernel
theorem dL_signs_273 : decode cL_signs 273 = .ok (.iload 13, 2) := by decide +kernel
theorem dL_signs_275 : decode cL_signs 275 = .ok (.if_icmp .eq 13, 3) := by decide +kernel
theorem dL_signs_278 : decode cL_signs 278 = .ok (.iload 15, 2) := by decide +kernel
theorem dL_signs_280 : decode cL_signs 280 = .ok (.ifCond .ne 12, 3) := by decide +kernel
theorem dL_signs_283 : decode cL_signs 283 = .ok (.iload 16, 2) := by decide +kernel
theorem dL_signs_285 : decode cL_signs 285 = .ok (.ifCond .ne 7, 3) := by decide +kernel
theorem dL_signs_288 : decode cL_signs 288 = .ok (.sipush (-1003), 3) := by decide +kernel
theorem dL_signs_291 : decode cL_signs 291 = .ok (.ireturn, 1) := by decide +kernel
theorem dL_signs_292 : decode cL_signs 292 = .ok (.aload 7, 2) := by decide +kernel
theorem dL_signs_294 : decode cL_signs 294 = .ok (.iload_n 0, 1) := by decide +kernel
theorem dL_signs_295 : decode cL_signs 295 = .ok (.iload_n 2, 1) := by decide +kernel
theorem dL_signs_296 : decode cL_signs 296 = .ok (.ifCond .eq 14, 3) := by decide +kernel
theorem dL_signs_299 : decode cL_signs 299 = .ok (.iload 15, 2) := by decide +kernel
theorem dL_signs_301 : decode cL_signs 301 = .ok (.ifCond .ne 9, 3) := by decide +kernel
theorem dL_signs_304 : decode cL_signs 304 = .ok (.iload_n 3, 1) := by decide +kernel
theorem dL_signs_305 : decode cL_signs 305 = .ok (.iconst 1, 1) := by decide +kernel
theorem dL_signs_306 : decode cL_signs 306 = .ok (.iadd, 1) := by decide +kernel
theorem dL_signs_307 : decode cL_signs 307 = .ok (.goto 7, 3) := by decide +kernel
theorem dL_signs_310 : decode cL_signs 310 = .ok (.aload 7, 2) := by decide +kernel
theorem dL_signs_312 : decode cL_signs 312 = .ok (.iload_n 0, 1) := by decide +kernel
theorem dL_signs_313 : decode cL_signs 313 = .ok (.iaload, 1) := by decide +kernel
theorem dL_signs_314 : decode cL_signs 314 = .ok (.iastore, 1) := by decide +kernel
theorem dL_signs_315 : decode cL_signs 315 = .ok (.aload 8, 2) := by decide +kernel
theorem dL_signs_317 : decode cL_signs 317 = .ok (.iload_n 0, 1) := by decide +kernel
theorem dL_signs_318 : decode cL_signs 318 = .ok (.dup2, 1) := by decide +kernel
theorem dL_signs_319 : decode cL_signs 319 = .ok (.iaload, 1) := by decide +kernel
theorem dL_signs_320 : decode cL_signs 320 = .ok (.iload_n 2, 1) := by decide +kernel
theorem dL_signs_321 : decode cL_signs 321 = .ok (.ifCond .eq 7, 3) := by decide +kernel
theorem dL_signs_324 : decode cL_signs 324 = .ok (.iconst 1, 1) := by decide +kernel
theorem dL_signs_325 : decode cL_signs 325 = .ok (.goto 4, 3) := by decide +kernel
theorem dL_signs_328 : decode cL_signs 328 = .ok (.iconst 2, 1) := by decide +kernel
theorem dL_signs_329 : decode cL_signs 329 = .ok (.ior, 1) := by decide +kernel
theorem dL_signs_330 : decode cL_signs 330 = .ok (.iastore, 1) := by decide +kernel
theorem dL_signs_331 : decode cL_signs 331 = .ok (.aload 8, 2) := by decide +kernel
theorem dL_signs_333 : decode cL_signs 333 = .ok (.iload_n 0, 1) := by decide +kernel
theorem dL_signs_334 : decode cL_signs 334 = .ok (.iaload, 1) := by decide +kernel
theorem dL_signs_335 : decode cL_signs 335 = .ok (.bipush 32, 2) := by decide +kernel
theorem dL_signs_337 : decode cL_signs 337 = .ok (.irem, 1) := by decide +kernel
theorem dL_signs_338 : decode cL_signs 338 = .ok (.ireturn, 1) := by decide +kernel
theorem dL_closes_0 : decode cL_closes 0 = .ok (.aload_n 2, 1) := by decide +kernel
theorem dL_closes_1 : decode cL_closes 1 = .ok (.iload_n 0, 1) := by decide +kernel
theorem dL_closes_2 : decode cL_closes 2 = .ok (.iaload, 1) := by decide +kernel
theorem dL_closes_3 : decode cL_closes 3 = .ok (.bipush 8, 2) := by decide +kernel
theorem dL_closes_5 : decode cL_closes 5 = .ok (.idiv, 1) := by decide +kernel
theorem dL_closes_6 : decode cL_closes 6 = .ok (.bipush 8, 2) := by decide +kernel
theorem dL_closes_8 : decode cL_closes 8 = .ok (.irem, 1) := by decide +kernel
theorem dL_closes_9 : decode cL_closes 9 = .ok (.istore 9, 2) := by decide +kernel
theorem dL_closes_11 : decode cL_closes 11 = .ok (.aload_n 2, 1) := by decide +kernel
theorem dL_closes_12 : decode cL_closes 12 = .ok (.iload_n 0, 1) := by decide +kernel
theorem dL_closes_13 : decode cL_closes 13 = .ok (.iaload, 1) := by decide +kernel
theorem dL_closes_14 : decode cL_closes 14 = .ok (.bipush 64, 2) := by decide +kernel
theorem dL_closes_16 : decode cL_closes 16 = .ok (.idiv, 1) := by decide +kernel
theorem dL_closes_17 : decode cL_closes 17 = .ok (.bipush 8, 2) := by decide +kernel
theorem dL_closes_19 : decode cL_closes 19 = .ok (.irem, 1) := by decide +kernel
theorem dL_closes_20 : decode cL_closes 20 = .ok (.istore 10, 2) := by decide +kernel
theorem dL_closes_22 : decode cL_closes 22 = .ok (.aload_n 2, 1) := by decide +kernel
theorem dL_closes_23 : decode cL_closes 23 = .ok (.iload_n 0, 1) := by decide +kernel
theorem dL_closes_24 : decode cL_closes 24 = .ok (.iaload, 1) := by decide +kernel
theorem dL_closes_25 : decode cL_closes 25 = .ok (.bipush 8, 2) := by decide +kernel
theorem dL_closes_27 : decode cL_closes 27 = .ok (.irem, 1) := by decide +kernel
theorem dL_closes_28 : decode cL_closes 28 = .ok (.istore 11, 2) := by decide +kernel
theorem dL_closes_30 : decode cL_closes 30 = .ok (.aload 4, 2) := by decide +kernel
theorem dL_closes_32 : decode cL_closes 32 = .ok (.iload_n 0, 1) := by decide +kernel
theorem dL_closes_33 : decode cL_closes 33 = .ok (.iaload, 1) := by decide +kernel
theorem dL_closes_34 : decode cL_closes 34 = .ok (.iconst 4, 1) := by decide +kernel
theorem dL_closes_35 : decode cL_closes 35 = .ok (.irem, 1) := by decide +kernel
theorem dL_closes_36 : decode cL_closes 36 = .ok (.ifCond .gt 21, 3) := by decide +kernel
theorem dL_closes_39 : decode cL_closes 39 = .ok (.aload_n 1, 1) := by decide +kernel
theorem dL_closes_40 : decode cL_closes 40 = .ok (.bipush 16, 2) := by decide +kernel
theorem dL_closes_42 : decode cL_closes 42 = .ok (.iload 9, 2) := by decide +kernel
theorem dL_closes_44 : decode cL_closes 44 = .ok (.iadd, 1) := by decide +kernel
theorem dL_closes_45 : decode cL_closes 45 = .ok (.iaload, 1) := by decide +kernel
theorem dL_closes_46 : decode cL_closes 46 = .ok (.aload_n 1, 1) := by decide +kernel
theorem dL_closes_47 : decode cL_closes 47 = .ok (.bipush 16, 2) := by decide +kernel
theorem dL_closes_49 : decode cL_closes 49 = .ok (.iload 10, 2) := by decide +kernel
theorem dL_closes_51 : decode cL_closes 51 = .ok (.iadd, 1) := by decide +kernel
theorem dL_closes_52 : decode cL_closes 52 = .ok (.iaload, 1) := by decide +kernel
theorem dL_closes_53 : decode cL_closes 53 = .ok (.iadd, 1) := by decide +kernel
theorem dL_closes_54 : decode cL_closes 54 = .ok (.ifCond .le 7, 3) := by decide +kernel
theorem dL_closes_57 : decode cL_closes 57 = .ok (.sipush (-1003), 3) := by decide +kernel
theorem dL_closes_60 : decode cL_closes 60 = .ok (.ireturn, 1) := by decide +kernel
theorem dL_closes_61 : decode cL_closes 61 = .ok (.iload 11, 2) := by decide +kernel
theorem dL_closes_63 : decode cL_closes 63 = .ok (.iconst 3, 1) := by decide +kernel
theorem dL_closes_64 : decode cL_closes 64 = .ok (.if_icmp .ge 7, 3) := by decide +kernel
theorem dL_closes_67 : decode cL_closes 67 = .ok (.iconst 1, 1) := by decide +kernel
theorem dL_closes_68 : decode cL_closes 68 = .ok (.goto 4, 3) := by decide +kernel
theorem dL_closes_71 : decode cL_closes 71 = .ok (.iconst 0, 1) := by decide +kernel
theorem dL_closes_72 : decode cL_closes 72 = .ok (.istore 12, 2) := by decide +kernel
theorem dL_closes_74 : decode cL_closes 74 = .ok (.iconst 5, 1) := by decide +kernel
theorem dL_closes_75 : decode cL_closes 75 = .ok (.iload 12, 2) := by decide +kernel
theorem dL_closes_77 : decode cL_closes 77 = .ok (.ifCond .eq 7, 3) := by decide +kernel
theorem dL_closes_80 : decode cL_closes 80 = .ok (.iconst 2, 1) := by decide +kernel
theorem dL_closes_81 : decode cL_closes 81 = .ok (.goto 4, 3) := by decide +kernel
theorem dL_closes_84 : decode cL_closes 84 = .ok (.iconst 0, 1) := by decide +kernel
theorem dL_closes_85 : decode cL_closes 85 = .ok (.iadd, 1) := by decide +kernel
theorem dL_closes_86 : decode cL_closes 86 = .ok (.iload 11, 2) := by decide +kernel
theorem dL_closes_88 : decode cL_closes 88 = .ok (.iconst 1, 1) := by decide +kernel
theorem dL_closes_89 : decode cL_closes 89 = .ok (.if_icmp .eq 9, 3) := by decide +kernel
theorem dL_closes_92 : decode cL_closes 92 = .ok (.iload 11, 2) := by decide +kernel
theorem dL_closes_94 : decode cL_closes 94 = .ok (.iconst 4, 1) := by decide +kernel
theorem dL_closes_95 : decode cL_closes 95 = .ok (.if_icmp .ne 8, 3) := by decide +kernel
theorem dL_closes_98 : decode cL_closes 98 = .ok (.bipush 8, 2) := by decide +kernel
theorem dL_closes_100 : decode cL_closes 100 = .ok (.goto 4, 3) := by decide +kernel
theorem dL_closes_103 : decode cL_closes 103 = .ok (.iconst 0, 1) := by decide +kernel
theorem dL_closes_104 : decode cL_closes 104 = .ok (.iadd, 1) := by decide +kernel
theorem dL_closes_105 : decode cL_closes 105 = .ok (.aload_n 1, 1) := by decide +kernel
theorem dL_closes_106 : decode cL_closes 106 = .ok (.bipush 8, 2) := by decide +kernel
theorem dL_closes_108 : decode cL_closes 108 = .ok (.iload 9, 2) := by decide +kernel
theorem dL_closes_110 : decode cL_closes 110 = .ok (.iadd, 1) := by decide +kernel
theorem dL_closes_111 : decode cL_closes 111 = .ok (.iaload, 1) := by decide +kernel
theorem dL_closes_112 : decode cL_closes 112 = .ok (.iconst 1, 1) := by decide +kernel
theorem dL_closes_113 : decode cL_closes 113 = .ok (.if_icmp .eq 19, 3) := by decide +kernel
theorem dL_closes_116 : decode cL_closes 116 = .ok (.iload 12, 2) := by decide +kernel
theorem dL_closes_118 : decode cL_closes 118 = .ok (.ifCond .eq 19, 3) := by decide +kernel
theorem dL_closes_121 : decode cL_closes 121 = .ok (.aload_n 1, 1) := by decide +kernel
theorem dL_closes_122 : decode cL_closes 122 = .ok (.bipush 8, 2) := by decide +kernel
theorem dL_closes_124 : decode cL_closes 124 = .ok (.iload 10, 2) := by decide +kernel
theorem dL_closes_126 : decode cL_closes 126 = .ok (.iadd, 1) := by decide +kernel
theorem dL_closes_127 : decode cL_closes 127 = .ok (.iaload, 1) := by decide +kernel
theorem dL_closes_128 : decode cL_closes 128 = .ok (.iconst 1, 1) := by decide +kernel
theorem dL_closes_129 : decode cL_closes 129 = .ok (.if_icmp .ne 8, 3) := by decide +kernel
theorem dL_closes_132 : decode cL_closes 132 = .ok (.bipush 16, 2) := by decide +kernel
theorem dL_closes_134 : decode cL_closes 134 = .ok (.goto 4, 3) := by decide +kernel
theorem dL_closes_137 : decode cL_closes 137 = .ok (.iconst 0, 1) := by decide +kernel
theorem dL_closes_138 : decode cL_closes 138 = .ok (.iadd, 1) := by decide +kernel
theorem dL_closes_139 : decode cL_closes 139 = .ok (.istore 13, 2) := by decide +kernel
theorem dL_closes_141 : decode cL_closes 141 = .ok (.aload_n 3, 1) := by decide +kernel
theorem dL_closes_142 : decode cL_closes 142 = .ok (.iload_n 0, 1) := by decide +kernel
theorem dL_closes_143 : decode cL_closes 143 = .ok (.iaload, 1) := by decide +kernel
theorem dL_closes_144 : decode cL_closes 144 = .ok (.bipush 32, 2) := by decide +kernel
theorem dL_closes_146 : decode cL_closes 146 = .ok (.irem, 1) := by decide +kernel
theorem dL_closes_147 : decode cL_closes 147 = .ok (.istore 14, 2) := by decide +kernel
theorem dL_closes_149 : decode cL_closes 149 = .ok (.iload 14, 2) := by decide +kernel
theorem dL_closes_151 : decode cL_closes 151 = .ok (.iload 13, 2) := by decide +kernel
theorem dL_closes_153 : decode cL_closes 153 = .ok (.iand, 1) := by decide +kernel
theorem dL_closes_154 : decode cL_closes 154 = .ok (.iload 13, 2) := by decide +kernel
theorem dL_closes_156 : decode cL_closes 156 = .ok (.if_icmp .ne 7, 3) := by decide +kernel
theorem dL_closes_159 : decode cL_closes 159 = .ok (.iconst 1, 1) := by decide +kernel
theorem dL_closes_160 : decode cL_closes 160 = .ok (.goto 34, 3) := by decide +kernel
theorem dL_closes_163 : decode cL_closes 163 = .ok (.iload 14, 2) := by decide +kernel
theorem dL_closes_165 : decode cL_closes 165 = .ok (.iload 12, 2) := by decide +kernel
theorem dL_closes_167 : decode cL_closes 167 = .ok (.ifCond .eq 7, 3) := by decide +kernel
theorem dL_closes_170 : decode cL_closes 170 = .ok (.iconst 3, 1) := by decide +kernel
theorem dL_closes_171 : decode cL_closes 171 = .ok (.goto 4, 3) := by decide +kernel
theorem dL_closes_174 : decode cL_closes 174 = .ok (.iconst 1, 1) := by decide +kernel
theorem dL_closes_175 : decode cL_closes 175 = .ok (.iand, 1) := by decide +kernel
theorem dL_closes_176 : decode cL_closes 176 = .ok (.iload 12, 2) := by decide +kernel
theorem dL_closes_178 : decode cL_closes 178 = .ok (.ifCond .eq 7, 3) := by decide +kernel
theorem dL_closes_181 : decode cL_closes 181 = .ok (.iconst 3, 1) := by decide +kernel
theorem dL_closes_182 : decode cL_closes 182 = .ok (.goto 4, 3) := by decide +kernel
theorem dL_closes_185 : decode cL_closes 185 = .ok (.iconst 1, 1) := by decide +kernel
theorem dL_closes_186 : decode cL_closes 186 = .ok (.if_icmp .ne 7, 3) := by decide +kernel
theorem dL_closes_189 : decode cL_closes 189 = .ok (.iconst 2, 1) := by decide +kernel
theorem dL_closes_190 : decode cL_closes 190 = .ok (.goto 4, 3) := by decide +kernel
theorem dL_closes_193 : decode cL_closes 193 = .ok (.iconst 3, 1) := by decide +kernel
theorem dL_closes_194 : decode cL_closes 194 = .ok (.istore 15, 2) := by decide +kernel
theorem dL_closes_196 : decode cL_closes 196 = .ok (.aload 4, 2) := by decide +kernel
theorem dL_closes_198 : decode cL_closes 198 = .ok (.iload_n 0, 1) := by decide +kernel
theorem dL_closes_199 : decode cL_closes 199 = .ok (.dup2, 1) := by decide +kernel
theorem dL_closes_200 : decode cL_closes 200 = .ok (.iaload, 1) := by decide +kernel
theorem dL_closes_201 : decode cL_closes 201 = .ok (.iload 15, 2) := by decide +kernel
theorem dL_closes_203 : decode cL_closes 203 = .ok (.iadd, 1) := by decide +kernel
theorem dL_closes_204 : decode cL_closes 204 = .ok (.iastore, 1) := by decide +kernel
theorem dL_closes_205 : decode cL_closes 205 = .ok (.aload 8, 2) := by decide +kernel
theorem dL_closes_207 : decode cL_closes 207 = .ok (.iconst 2, 1) := by decide +kernel
theorem dL_closes_208 : decode cL_closes 208 = .ok (.dup2, 1) := by decide +kernel
theorem dL_closes_209 : decode cL_closes 209 = .ok (.iaload, 1) := by decide +kernel
theorem dL_closes_210 : decode cL_closes 210 = .ok (.iconst 1, 1) := by decide +kernel
theorem dL_closes_211 : decode cL_closes 211 = .ok (.iadd, 1) := by decide +kernel
theorem dL_closes_212 : decode cL_closes 212 = .ok (.iastore, 1) := by decide +kernel
theorem dL_closes_213 : decode cL_closes 213 = .ok (.aload 5, 2) := by decide +kernel
theorem dL_closes_215 : decode cL_closes 215 = .ok (.iload_n 0, 1) := by decide +kernel
theorem dL_closes_216 : decode cL_closes 216 = .ok (.aload 8, 2) := by decide +kernel
theorem dL_closes_218 : decode cL_closes 218 = .ok (.iconst 2, 1) := by decide +kernel
theorem dL_closes_219 : decode cL_closes 219 = .ok (.iaload, 1) := by decide +kernel
theorem dL_closes_220 : decode cL_closes 220 = .ok (.iastore, 1) := by decide +kernel
theorem dL_closes_221 : decode cL_closes 221 = .ok (.aload 6, 2) := by decide +kernel
theorem dL_closes_223 : decode cL_closes 223 = .ok (.iload_n 0, 1) := by decide +kernel
theorem dL_closes_224 : decode cL_closes 224 = .ok (.aload 8, 2) := by decide +kernel
theorem dL_closes_226 : decode cL_closes 226 = .ok (.iconst 0, 1) := by decide +kernel
theorem dL_closes_227 : decode cL_closes 227 = .ok (.iaload, 1) := by decide +kernel
theorem dL_closes_228 : decode cL_closes 228 = .ok (.iastore, 1) := by decide +kernel
theorem dL_closes_229 : decode cL_closes 229 = .ok (.aload 7, 2) := by decide +kernel
theorem dL_closes_231 : decode cL_closes 231 = .ok (.iload_n 0, 1) := by decide +kernel
theorem dL_closes_232 : decode cL_closes 232 = .ok (.iconst 1, 1) := by decide +kernel
theorem dL_closes_233 : decode cL_closes 233 = .ok (.iastore, 1) := by decide +kernel
theorem dL_closes_234 : decode cL_closes 234 = .ok (.iload 15, 2) := by decide +kernel
theorem dL_closes_236 : decode cL_closes 236 = .ok (.ireturn, 1) := by decide +kernel
theorem dL_least_0 : decode cL_least 0 = .ok (.iconst 0, 1) := by decide +kernel
theorem dL_least_1 : decode cL_least 1 = .ok (.istore_n 1, 1) := by decide +kernel
theorem dL_least_2 : decode cL_least 2 = .ok (.iload_n 1, 1) := by decide +kernel
theorem dL_least_3 : decode cL_least 3 = .ok (.bipush 9, 2) := by decide +kernel
theorem dL_least_5 : decode cL_least 5 = .ok (.if_icmp .ge 20, 3) := by decide +kernel
theorem dL_least_8 : decode cL_least 8 = .ok (.iload_n 0, 1) := by decide +kernel
theorem dL_least_9 : decode cL_least 9 = .ok (.iconst 3, 1) := by decide +kernel
theorem dL_least_10 : decode cL_least 10 = .ok (.iload_n 1, 1) := by decide +kernel
theorem dL_least_11 : decode cL_least 11 = .ok (.imul, 1) := by decide +kernel
theorem dL_least_12 : decode cL_least 12 = .ok (.ishr, 1) := by decide +kernel
theorem dL_least_13 : decode cL_least 13 = .ok (.bipush 7, 2) := by decide +kernel
theorem dL_least_15 : decode cL_least 15 = .ok (.iand, 1) := by decide +kernel
theorem dL_least_16 : decode cL_least 16 = .ok (.ifCond .ne 9, 3) := by decide +kernel
theorem dL_least_19 : decode cL_least 19 = .ok (.iinc 1 1, 3) := by decide +kernel
theorem dL_least_22 : decode cL_least 22 = .ok (.goto (-20), 3) := by decide +kernel
theorem dL_least_25 : decode cL_least 25 = .ok (.iload_n 1, 1) := by decide +kernel
theorem dL_least_26 : decode cL_least 26 = .ok (.bipush 9, 2) := by decide +kernel
theorem dL_least_28 : decode cL_least 28 = .ok (.if_icmp .ne 7, 3) := by decide +kernel
theorem dL_least_31 : decode cL_least 31 = .ok (.iconst (-1), 1) := by decide +kernel
theorem dL_least_32 : decode cL_least 32 = .ok (.goto 4, 3) := by decide +kernel
theorem dL_least_35 : decode cL_least 35 = .ok (.iload_n 1, 1) := by decide +kernel
theorem dL_least_36 : decode cL_least 36 = .ok (.ireturn, 1) := by decide +kernel
theorem dL_many_0 : decode cL_many 0 = .ok (.iconst 0, 1) := by decide +kernel
theorem dL_many_1 : decode cL_many 1 = .ok (.istore_n 1, 1) := by decide +kernel
theorem dL_many_2 : decode cL_many 2 = .ok (.iconst 0, 1) := by decide +kernel
theorem dL_many_3 : decode cL_many 3 = .ok (.istore_n 2, 1) := by decide +kernel
theorem dL_many_4 : decode cL_many 4 = .ok (.iload_n 2, 1) := by decide +kernel
theorem dL_many_5 : decode cL_many 5 = .ok (.bipush 9, 2) := by decide +kernel
theorem dL_many_7 : decode cL_many 7 = .ok (.if_icmp .ge 20, 3) := by decide +kernel
theorem dL_many_10 : decode cL_many 10 = .ok (.iload_n 1, 1) := by decide +kernel
theorem dL_many_11 : decode cL_many 11 = .ok (.iload_n 0, 1) := by decide +kernel
theorem dL_many_12 : decode cL_many 12 = .ok (.iconst 3, 1) := by decide +kernel
theorem dL_many_13 : decode cL_many 13 = .ok (.iload_n 2, 1) := by decide +kernel
theorem dL_many_14 : decode cL_many 14 = .ok (.imul, 1) := by decide +kernel
theorem dL_many_15 : decode cL_many 15 = .ok (.ishr, 1) := by decide +kernel
theorem dL_many_16 : decode cL_many 16 = .ok (.bipush 7, 2) := by decide +kernel
theorem dL_many_18 : decode cL_many 18 = .ok (.iand, 1) := by decide +kernel
theorem dL_many_19 : decode cL_many 19 = .ok (.iadd, 1) := by decide +kernel
theorem dL_many_20 : decode cL_many 20 = .ok (.istore_n 1, 1) := by decide +kernel
theorem dL_many_21 : decode cL_many 21 = .ok (.iinc 2 1, 3) := by decide +kernel
theorem dL_many_24 : decode cL_many 24 = .ok (.goto (-20), 3) := by decide +kernel
theorem dL_many_27 : decode cL_many 27 = .ok (.iload_n 1, 1) := by decide +kernel
theorem dL_many_28 : decode cL_many 28 = .ok (.ireturn, 1) := by decide +kernel
theorem dL_below_0 : decode cL_below 0 = .ok (.lload_n 0, 1) := by decide +kernel
theorem dL_below_1 : decode cL_below 1 = .ok (.lstore_n 2, 1) := by decide +kernel
theorem dL_below_2 : decode cL_below 2 = .ok (.ldc2_w 77, 3) := by decide +kernel
theorem dL_below_5 : decode cL_below 5 = .ok (.lstore 4, 2) := by decide +kernel
theorem dL_below_7 : decode cL_below 7 = .ok (.lload_n 2, 1) := by decide +kernel
theorem dL_below_8 : decode cL_below 8 = .ok (.lconst 0, 1) := by decide +kernel
theorem dL_below_9 : decode cL_below 9 = .ok (.lcmp, 1) := by decide +kernel
theorem dL_below_10 : decode cL_below 10 = .ok (.ifCond .le 18, 3) := by decide +kernel
theorem dL_below_13 : decode cL_below 13 = .ok (.lload 4, 2) := by decide +kernel
theorem dL_below_15 : decode cL_below 15 = .ok (.lload_n 2, 1) := by decide +kernel
theorem dL_below_16 : decode cL_below 16 = .ok (.lrem, 1) := by decide +kernel
theorem dL_below_17 : decode cL_below 17 = .ok (.lstore 6, 2) := by decide +kernel
theorem dL_below_19 : decode cL_below 19 = .ok (.lload_n 2, 1) := by decide +kernel
theorem dL_below_20 : decode cL_below 20 = .ok (.lstore 4, 2) := by decide +kernel
theorem dL_below_22 : decode cL_below 22 = .ok (.lload 6, 2) := by decide +kernel
theorem dL_below_24 : decode cL_below 24 = .ok (.lstore_n 2, 1) := by decide +kernel
theorem dL_below_25 : decode cL_below 25 = .ok (.goto (-18), 3) := by decide +kernel
theorem dL_below_28 : decode cL_below 28 = .ok (.lload_n 0, 1) := by decide +kernel
theorem dL_below_29 : decode cL_below 29 = .ok (.lconst 0, 1) := by decide +kernel
theorem dL_below_30 : decode cL_below 30 = .ok (.lcmp, 1) := by decide +kernel
theorem dL_below_31 : decode cL_below 31 = .ok (.ifCond .ne 7, 3) := by decide +kernel
theorem dL_below_34 : decode cL_below 34 = .ok (.lconst 1, 1) := by decide +kernel
theorem dL_below_35 : decode cL_below 35 = .ok (.goto 9, 3) := by decide +kernel
theorem dL_below_38 : decode cL_below 38 = .ok (.ldc2_w 77, 3) := by decide +kernel
theorem dL_below_41 : decode cL_below 41 = .ok (.lload 4, 2) := by decide +kernel
theorem dL_below_43 : decode cL_below 43 = .ok (.ldiv, 1) := by decide +kernel
theorem dL_below_44 : decode cL_below 44 = .ok (.lreturn, 1) := by decide +kernel
theorem dL_enters_0 : decode cL_enters 0 = .ok (.aload_n 2, 1) := by decide +kernel
theorem dL_enters_1 : decode cL_enters 1 = .ok (.iload_n 0, 1) := by decide +kernel
theorem dL_enters_2 : decode cL_enters 2 = .ok (.iaload, 1) := by decide +kernel
theorem dL_enters_3 : decode cL_enters 3 = .ok (.bipush 8, 2) := by decide +kernel
theorem dL_enters_5 : decode cL_enters 5 = .ok (.irem, 1) := by decide +kernel
theorem dL_enters_6 : decode cL_enters 6 = .ok (.istore 10, 2) := by decide +kernel
theorem dL_enters_8 : decode cL_enters 8 = .ok (.aload_n 2, 1) := by decide +kernel
theorem dL_enters_9 : decode cL_enters 9 = .ok (.iload_n 0, 1) := by decide +kernel
theorem dL_enters_10 : decode cL_enters 10 = .ok (.iaload, 1) := by decide +kernel
theorem dL_enters_11 : decode cL_enters 11 = .ok (.bipush 8, 2) := by decide +kernel
theorem dL_enters_13 : decode cL_enters 13 = .ok (.idiv, 1) := by decide +kernel
theorem dL_enters_14 : decode cL_enters 14 = .ok (.bipush 8, 2) := by decide +kernel
theorem dL_enters_16 : decode cL_enters 16 = .ok (.irem, 1) := by decide +kernel
theorem dL_enters_17 : decode cL_enters 17 = .ok (.istore 11, 2) := by decide +kernel
theorem dL_enters_19 : decode cL_enters 19 = .ok (.aload_n 2, 1) := by decide +kernel
theorem dL_enters_20 : decode cL_enters 20 = .ok (.iload_n 0, 1) := by decide +kernel
theorem dL_enters_21 : decode cL_enters 21 = .ok (.iaload, 1) := by decide +kernel
theorem dL_enters_22 : decode cL_enters 22 = .ok (.bipush 64, 2) := by decide +kernel
theorem dL_enters_24 : decode cL_enters 24 = .ok (.idiv, 1) := by decide +kernel
theorem dL_enters_25 : decode cL_enters 25 = .ok (.bipush 8, 2) := by decide +kernel
theorem dL_enters_27 : decode cL_enters 27 = .ok (.irem, 1) := by decide +kernel
theorem dL_enters_28 : decode cL_enters 28 = .ok (.istore 12, 2) := by decide +kernel
theorem dL_enters_30 : decode cL_enters 30 = .ok (.aload_n 2, 1) := by decide +kernel
theorem dL_enters_31 : decode cL_enters 31 = .ok (.iload_n 0, 1) := by decide +kernel
theorem dL_enters_32 : decode cL_enters 32 = .ok (.iaload, 1) := by decide +kernel
theorem dL_enters_33 : decode cL_enters 33 = .ok (.sipush 512, 3) := by decide +kernel
theorem dL_enters_36 : decode cL_enters 36 = .ok (.idiv, 1) := by decide +kernel
theorem dL_enters_37 : decode cL_enters 37 = .ok (.iconst 1, 1) := by decide +kernel
theorem dL_enters_38 : decode cL_enters 38 = .ok (.isub, 1) := by decide +kernel
theorem dL_enters_39 : decode cL_enters 39 = .ok (.istore 13, 2) := by decide +kernel
theorem dL_enters_41 : decode cL_enters 41 = .ok (.aload 6, 2) := by decide +kernel
theorem dL_enters_43 : decode cL_enters 43 = .ok (.iload_n 0, 1) := by decide +kernel
theorem dL_enters_44 : decode cL_enters 44 = .ok (.iaload, 1) := by decide +kernel
theorem dL_enters_45 : decode cL_enters 45 = .ok (.invokestatic 79, 3) := by decide +kernel
theorem dL_enters_48 : decode cL_enters 48 = .ok (.istore 14, 2) := by decide +kernel
theorem dL_enters_50 : decode cL_enters 50 = .ok (.iload 10, 2) := by decide +kernel
theorem dL_enters_52 : decode cL_enters 52 = .ok (.iconst 2, 1) := by decide +kernel
theorem dL_enters_53 : decode cL_enters 53 = .ok (.if_icmp .gt 58, 3) := by decide +kernel
theorem dL_enters_56 : decode cL_enters 56 = .ok (.aload 4, 2) := by decide +kernel
theorem dL_enters_58 : decode cL_enters 58 = .ok (.iload_n 0, 1) := by decide +kernel
theorem dL_enters_59 : decode cL_enters 59 = .ok (.iaload, 1) := by decide +kernel
theorem dL_enters_60 : decode cL_enters 60 = .ok (.iconst 4, 1) := by decide +kernel
theorem dL_enters_61 : decode cL_enters 61 = .ok (.irem, 1) := by decide +kernel
theorem dL_enters_62 : decode cL_enters 62 = .ok (.iconst 1, 1) := by decide +kernel
theorem dL_enters_63 : decode cL_enters 63 = .ok (.if_icmp .ne 48, 3) := by decide +kernel
theorem dL_enters_66 : decode cL_enters 66 = .ok (.iload 14, 2) := by decide +kernel
theorem dL_enters_68 : decode cL_enters 68 = .ok (.ifCond .lt 43, 3) := by decide +kernel
theorem dL_enters_71 : decode cL_enters 71 = .ok (.iload 14, 2) := by decide +kernel
theorem dL_enters_73 : decode cL_enters 73 = .ok (.iconst 1, 1) := by decide +kernel
theorem dL_enters_74 : decode cL_enters 74 = .ok (.if_icmp .gt 37, 3) := by decide +kernel
theorem dL_enters_77 : decode cL_enters 77 = .ok (.aload 5, 2) := by decide +kernel
theorem dL_enters_79 : decode cL_enters 79 = .ok (.iload_n 0, 1) := by decide +kernel
theorem dL_enters_80 : decode cL_enters 80 = .ok (.iaload, 1) := by decide +kernel
theorem dL_enters_81 : decode cL_enters 81 = .ok (.ifCond .gt 30, 3) := by decide +kernel
theorem dL_enters_84 : decode cL_enters 84 = .ok (.aload_n 1, 1) := by decide +kernel
theorem dL_enters_85 : decode cL_enters 85 = .ok (.bipush 16, 2) := by decide +kernel
theorem dL_enters_87 : decode cL_enters 87 = .ok (.iload 11, 2) := by decide +kernel
theorem dL_enters_89 : decode cL_enters 89 = .ok (.iadd, 1) := by decide +kernel
theorem dL_enters_90 : decode cL_enters 90 = .ok (.iaload, 1) := by decide +kernel
theorem dL_enters_91 : decode cL_enters 91 = .ok (.aload_n 1, 1) := by decide +kernel
theorem dL_enters_92 : decode cL_enters 92 = .ok (.bipush 16, 2) := by decide +kernel
theorem dL_enters_94 : decode cL_enters 94 = .ok (.iload 12, 2) := by decide +kernel
theorem dL_enters_96 : decode cL_enters 96 = .ok (.iadd, 1) := by decide +kernel
theorem dL_enters_97 : decode cL_enters 97 = .ok (.iaload, 1) := by decide +kernel
theorem dL_enters_98 : decode cL_enters 98 = .ok (.iadd, 1) := by decide +kernel
theorem dL_enters_99 : decode cL_enters 99 = .ok (.ifCond .gt 12, 3) := by decide +kernel
theorem dL_enters_102 : decode cL_enters 102 = .ok (.aload 7, 2) := by decide +kernel
theorem dL_enters_104 : decode cL_enters 104 = .ok (.iconst 3, 1) := by decide +kernel
theorem dL_enters_105 : decode cL_enters 105 = .ok (.iaload, 1) := by decide +kernel
theorem dL_enters_106 : decode cL_enters 106 = .ok (.bipush 30, 2) := by decide +kernel
theorem dL_enters_108 : decode cL_enters 108 = .ok (.if_icmp .ne 7, 3) := by decide +kernel
theorem dL_enters_111 : decode cL_enters 111 = .ok (.sipush (-1003), 3) := by decide +kernel
theorem dL_enters_114 : decode cL_enters 114 = .ok (.ireturn, 1) := by decide +kernel
theorem dL_enters_115 : decode cL_enters 115 = .ok (.ldc2_w 77, 3) := by decide +kernel
theorem dL_enters_118 : decode cL_enters 118 = .ok (.aload_n 3, 1) := by decide +kernel
theorem dL_enters_119 : decode cL_enters 119 = .ok (.iload_n 0, 1) := by decide +kernel
theorem dL_enters_120 : decode cL_enters 120 = .ok (.iaload, 1) := by decide +kernel
theorem dL_enters_121 : decode cL_enters 121 = .ok (.sipush 128, 3) := by decide +kernel
theorem dL_enters_124 : decode cL_enters 124 = .ok (.irem, 1) := by decide +kernel
theorem dL_enters_125 : decode cL_enters 125 = .ok (.i2l, 1) := by decide +kernel
theorem dL_enters_126 : decode cL_enters 126 = .ok (.ldiv, 1) := by decide +kernel
theorem dL_enters_127 : decode cL_enters 127 = .ok (.aload_n 3, 1) := by decide +kernel
theorem dL_enters_128 : decode cL_enters 128 = .ok (.iload_n 0, 1) := by decide +kernel
theorem dL_enters_129 : decode cL_enters 129 = .ok (.iaload, 1) := by decide +kernel
theorem dL_enters_130 : decode cL_enters 130 = .ok (.sipush 128, 3) := by decide +kernel
theorem dL_enters_133 : decode cL_enters 133 = .ok (.idiv, 1) := by decide +kernel
theorem dL_enters_134 : decode cL_enters 134 = .ok (.i2l, 1) := by decide +kernel
theorem dL_enters_135 : decode cL_enters 135 = .ok (.lmul, 1) := by decide +kernel
theorem dL_enters_136 : decode cL_enters 136 = .ok (.lstore 15, 2) := by decide +kernel
theorem dL_enters_138 : decode cL_enters 138 = .ok (.aload 8, 2) := by decide +kernel
theorem dL_enters_140 : decode cL_enters 140 = .ok (.bipush 7, 2) := by decide +kernel
theorem dL_enters_142 : decode cL_enters 142 = .ok (.iload 13, 2) := by decide +kernel
theorem dL_enters_144 : decode cL_enters 144 = .ok (.imul, 1) := by decide +kernel
theorem dL_enters_145 : decode cL_enters 145 = .ok (.iload 11, 2) := by decide +kernel
theorem dL_enters_147 : decode cL_enters 147 = .ok (.iadd, 1) := by decide +kernel
theorem dL_enters_148 : decode cL_enters 148 = .ok (.laload, 1) := by decide +kernel
theorem dL_enters_149 : decode cL_enters 149 = .ok (.lload 15, 2) := by decide +kernel
theorem dL_enters_151 : decode cL_enters 151 = .ok (.lcmp, 1) := by decide +kernel
theorem dL_enters_152 : decode cL_enters 152 = .ok (.ifCond .lt 57, 3) := by decide +kernel
theorem dL_enters_155 : decode cL_enters 155 = .ok (.iload 10, 2) := by decide +kernel
theorem dL_enters_157 : decode cL_enters 157 = .ok (.iconst 2, 1) := by decide +kernel
theorem dL_enters_158 : decode cL_enters 158 = .ok (.if_icmp .ge 55, 3) := by decide +kernel
theorem dL_enters_161 : decode cL_enters 161 = .ok (.aload 8, 2) := by decide +kernel
theorem dL_enters_163 : decode cL_enters 163 = .ok (.bipush 7, 2) := by decide +kernel
theorem dL_enters_165 : decode cL_enters 165 = .ok (.iload 13, 2) := by decide +kernel
theorem dL_enters_167 : decode cL_enters 167 = .ok (.imul, 1) := by decide +kernel
theorem dL_enters_168 : decode cL_enters 168 = .ok (.iload 11, 2) := by decide +kernel
theorem dL_enters_170 : decode cL_enters 170 = .ok (.iadd, 1) := by decide +kernel
theorem dL_enters_171 : decode cL_enters 171 = .ok (.laload, 1) := by decide +kernel
theorem dL_enters_172 : decode cL_enters 172 = .ok (.lload 15, 2) := by decide +kernel
theorem dL_enters_174 : decode cL_enters 174 = .ok (.lsub, 1) := by decide +kernel
theorem dL_enters_175 : decode cL_enters 175 = .ok (.invokestatic 82, 3) := by decide +kernel
theorem dL_enters_178 : decode cL_enters 178 = .ok (.ldc2_w 86, 3) := by decide +kernel
theorem dL_enters_181 : decode cL_enters 181 = .ok (.lcmp, 1) := by decide +kernel
theorem dL_enters_182 : decode cL_enters 182 = .ok (.ifCond .gt 27, 3) := by decide +kernel
theorem dL_enters_185 : decode cL_enters 185 = .ok (.aload 8, 2) := by decide +kernel
theorem dL_enters_187 : decode cL_enters 187 = .ok (.bipush 7, 2) := by decide +kernel
theorem dL_enters_189 : decode cL_enters 189 = .ok (.iload 13, 2) := by decide +kernel
theorem dL_enters_191 : decode cL_enters 191 = .ok (.imul, 1) := by decide +kernel
theorem dL_enters_192 : decode cL_enters 192 = .ok (.iload 12, 2) := by decide +kernel
theorem dL_enters_194 : decode cL_enters 194 = .ok (.iadd, 1) := by decide +kernel
theorem dL_enters_195 : decode cL_enters 195 = .ok (.laload, 1) := by decide +kernel
theorem dL_enters_196 : decode cL_enters 196 = .ok (.lload 15, 2) := by decide +kernel
theorem dL_enters_198 : decode cL_enters 198 = .ok (.ladd, 1) := by decide +kernel
theorem dL_enters_199 : decode cL_enters 199 = .ok (.invokestatic 82, 3) := by decide +kernel
theorem dL_enters_202 : decode cL_enters 202 = .ok (.ldc2_w 86, 3) := by decide +kernel
theorem dL_enters_205 : decode cL_enters 205 = .ok (.lcmp, 1) := by decide +kernel
theorem dL_enters_206 : decode cL_enters 206 = .ok (.ifCond .le 7, 3) := by decide +kernel
theorem dL_enters_209 : decode cL_enters 209 = .ok (.sipush (-1003), 3) := by decide +kernel
theorem dL_enters_212 : decode cL_enters 212 = .ok (.ireturn, 1) := by decide +kernel
theorem dL_enters_213 : decode cL_enters 213 = .ok (.aload 8, 2) := by decide +kernel
theorem dL_enters_215 : decode cL_enters 215 = .ok (.bipush 7, 2) := by decide +kernel
theorem dL_enters_217 : decode cL_enters 217 = .ok (.iload 13, 2) := by decide +kernel
theorem dL_enters_219 : decode cL_enters 219 = .ok (.imul, 1) := by decide +kernel
theorem dL_enters_220 : decode cL_enters 220 = .ok (.iload 11, 2) := by decide +kernel
theorem dL_enters_222 : decode cL_enters 222 = .ok (.iadd, 1) := by decide +kernel
theorem dL_enters_223 : decode cL_enters 223 = .ok (.dup2, 1) := by decide +kernel
theorem dL_enters_224 : decode cL_enters 224 = .ok (.laload, 1) := by decide +kernel
theorem dL_enters_225 : decode cL_enters 225 = .ok (.iload 10, 2) := by decide +kernel
theorem dL_enters_227 : decode cL_enters 227 = .ok (.iconst 2, 1) := by decide +kernel
theorem dL_enters_228 : decode cL_enters 228 = .ok (.if_icmp .ge 8, 3) := by decide +kernel
theorem dL_enters_231 : decode cL_enters 231 = .ok (.lload 15, 2) := by decide +kernel
theorem dL_enters_233 : decode cL_enters 233 = .ok (.goto 4, 3) := by decide +kernel
theorem dL_enters_236 : decode cL_enters 236 = .ok (.lconst 0, 1) := by decide +kernel
theorem dL_enters_237 : decode cL_enters 237 = .ok (.lsub, 1) := by decide +kernel
theorem dL_enters_238 : decode cL_enters 238 = .ok (.lastore, 1) := by decide +kernel
theorem dL_enters_239 : decode cL_enters 239 = .ok (.aload 8, 2) := by decide +kernel
theorem dL_enters_241 : decode cL_enters 241 = .ok (.bipush 7, 2) := by decide +kernel
theorem dL_enters_243 : decode cL_enters 243 = .ok (.iload 13, 2) := by decide +kernel
theorem dL_enters_245 : decode cL_enters 245 = .ok (.imul, 1) := by decide +kernel
theorem dL_enters_246 : decode cL_enters 246 = .ok (.iload 12, 2) := by decide +kernel
theorem dL_enters_248 : decode cL_enters 248 = .ok (.iadd, 1) := by decide +kernel
theorem dL_enters_249 : decode cL_enters 249 = .ok (.dup2, 1) := by decide +kernel
theorem dL_enters_250 : decode cL_enters 250 = .ok (.laload, 1) := by decide +kernel
theorem dL_enters_251 : decode cL_enters 251 = .ok (.iload 10, 2) := by decide +kernel
theorem dL_enters_253 : decode cL_enters 253 = .ok (.iconst 2, 1) := by decide +kernel
theorem dL_enters_254 : decode cL_enters 254 = .ok (.if_icmp .ge 8, 3) := by decide +kernel
theorem dL_enters_257 : decode cL_enters 257 = .ok (.lload 15, 2) := by decide +kernel
theorem dL_enters_259 : decode cL_enters 259 = .ok (.goto 4, 3) := by decide +kernel
theorem dL_enters_262 : decode cL_enters 262 = .ok (.lconst 0, 1) := by decide +kernel
theorem dL_enters_263 : decode cL_enters 263 = .ok (.ladd, 1) := by decide +kernel
theorem dL_enters_264 : decode cL_enters 264 = .ok (.lastore, 1) := by decide +kernel
theorem dL_enters_265 : decode cL_enters 265 = .ok (.iload 13, 2) := by decide +kernel
theorem dL_enters_267 : decode cL_enters 267 = .ok (.ifCond .ne 9, 3) := by decide +kernel
theorem dL_enters_270 : decode cL_enters 270 = .ok (.sipush 999, 3) := by decide +kernel
theorem dL_enters_273 : decode cL_enters 273 = .ok (.goto 5, 3) := by decide +kernel
theorem dL_enters_276 : decode cL_enters 276 = .ok (.ldc 88, 2) := by decide +kernel
theorem dL_enters_278 : decode cL_enters 278 = .ok (.aload_n 3, 1) := by decide +kernel
theorem dL_enters_279 : decode cL_enters 279 = .ok (.iload_n 0, 1) := by decide +kernel
theorem dL_enters_280 : decode cL_enters 280 = .ok (.iaload, 1) := by decide +kernel
theorem dL_enters_281 : decode cL_enters 281 = .ok (.sipush 128, 3) := by decide +kernel
theorem dL_enters_284 : decode cL_enters 284 = .ok (.idiv, 1) := by decide +kernel
theorem dL_enters_285 : decode cL_enters 285 = .ok (.imul, 1) := by decide +kernel
theorem dL_enters_286 : decode cL_enters 286 = .ok (.aload_n 3, 1) := by decide +kernel
theorem dL_enters_287 : decode cL_enters 287 = .ok (.iload_n 0, 1) := by decide +kernel
theorem dL_enters_288 : decode cL_enters 288 = .ok (.iaload, 1) := by decide +kernel
theorem dL_enters_289 : decode cL_enters 289 = .ok (.sipush 128, 3) := by decide +kernel
theorem dL_enters_292 : decode cL_enters 292 = .ok (.irem, 1) := by decide +kernel
theorem dL_enters_293 : decode cL_enters 293 = .ok (.idiv, 1) := by decide +kernel
theorem dL_enters_294 : decode cL_enters 294 = .ok (.istore 17, 2) := by decide +kernel
theorem dL_enters_296 : decode cL_enters 296 = .ok (.aload 7, 2) := by decide +kernel
theorem dL_enters_298 : decode cL_enters 298 = .ok (.iconst 4, 1) := by decide +kernel
theorem dL_enters_299 : decode cL_enters 299 = .ok (.dup2, 1) := by decide +kernel
theorem dL_enters_300 : decode cL_enters 300 = .ok (.iaload, 1) := by decide +kernel
theorem dL_enters_301 : decode cL_enters 301 = .ok (.iload 17, 2) := by decide +kernel
theorem dL_enters_303 : decode cL_enters 303 = .ok (.iload 10, 2) := by decide +kernel
theorem dL_enters_305 : decode cL_enters 305 = .ok (.ifCond .ne 8, 3) := by decide +kernel
theorem dL_enters_308 : decode cL_enters 308 = .ok (.bipush 20, 2) := by decide +kernel
theorem dL_enters_310 : decode cL_enters 310 = .ok (.goto 32, 3) := by decide +kernel
theorem dL_enters_313 : decode cL_enters 313 = .ok (.iload 10, 2) := by decide +kernel
theorem dL_enters_315 : decode cL_enters 315 = .ok (.iconst 2, 1) := by decide +kernel
theorem dL_enters_316 : decode cL_enters 316 = .ok (.if_icmp .ne 8, 3) := by decide +kernel
theorem dL_enters_319 : decode cL_enters 319 = .ok (.bipush 100, 2) := by decide +kernel
theorem dL_enters_321 : decode cL_enters 321 = .ok (.goto 21, 3) := by decide +kernel
theorem dL_enters_324 : decode cL_enters 324 = .ok (.iload 11, 2) := by decide +kernel
theorem dL_enters_326 : decode cL_enters 326 = .ok (.iload 12, 2) := by decide +kernel
theorem dL_enters_328 : decode cL_enters 328 = .ok (.aload_n 1, 1) := by decide +kernel
theorem dL_enters_329 : decode cL_enters 329 = .ok (.invokestatic 89, 3) := by decide +kernel
theorem dL_enters_332 : decode cL_enters 332 = .ok (.ifCond .eq 8, 3) := by decide +kernel
theorem dL_enters_335 : decode cL_enters 335 = .ok (.bipush 50, 2) := by decide +kernel
theorem dL_enters_337 : decode cL_enters 337 = .ok (.goto 5, 3) := by decide +kernel
theorem dL_enters_340 : decode cL_enters 340 = .ok (.bipush 10, 2) := by decide +kernel
theorem dL_enters_342 : decode cL_enters 342 = .ok (.idiv, 1) := by decide +kernel
theorem dL_enters_343 : decode cL_enters 343 = .ok (.iadd, 1) := by decide +kernel
theorem dL_enters_344 : decode cL_enters 344 = .ok (.iastore, 1) := by decide +kernel
theorem dL_enters_345 : decode cL_enters 345 = .ok (.aload 9, 2) := by decide +kernel
theorem dL_enters_347 : decode cL_enters 347 = .ok (.aload 7, 2) := by decide +kernel
theorem dL_enters_349 : decode cL_enters 349 = .ok (.iconst 3, 1) := by decide +kernel
theorem dL_enters_350 : decode cL_enters 350 = .ok (.iaload, 1) := by decide +kernel
theorem dL_enters_351 : decode cL_enters 351 = .ok (.iload 10, 2) := by decide +kernel
theorem dL_enters_353 : decode cL_enters 353 = .ok (.bipush 8, 2) := by decide +kernel
theorem dL_enters_355 : decode cL_enters 355 = .ok (.iload_n 0, 1) := by decide +kernel
theorem dL_enters_356 : decode cL_enters 356 = .ok (.imul, 1) := by decide +kernel
theorem dL_enters_357 : decode cL_enters 357 = .ok (.iadd, 1) := by decide +kernel
theorem dL_enters_358 : decode cL_enters 358 = .ok (.sipush 512, 3) := by decide +kernel
theorem dL_enters_361 : decode cL_enters 361 = .ok (.iload 13, 2) := by decide +kernel
theorem dL_enters_363 : decode cL_enters 363 = .ok (.imul, 1) := by decide +kernel
theorem dL_enters_364 : decode cL_enters 364 = .ok (.iadd, 1) := by decide +kernel
theorem dL_enters_365 : decode cL_enters 365 = .ok (.iastore, 1) := by decide +kernel
theorem dL_enters_366 : decode cL_enters 366 = .ok (.aload 7, 2) := by decide +kernel
theorem dL_enters_368 : decode cL_enters 368 = .ok (.iconst 3, 1) := by decide +kernel
theorem dL_enters_369 : decode cL_enters 369 = .ok (.dup2, 1) := by decide +kernel
theorem dL_enters_370 : decode cL_enters 370 = .ok (.iaload, 1) := by decide +kernel
theorem dL_enters_371 : decode cL_enters 371 = .ok (.iconst 1, 1) := by decide +kernel
theorem dL_enters_372 : decode cL_enters 372 = .ok (.iadd, 1) := by decide +kernel
theorem dL_enters_373 : decode cL_enters 373 = .ok (.iastore, 1) := by decide +kernel
theorem dL_enters_374 : decode cL_enters 374 = .ok (.aload 5, 2) := by decide +kernel
theorem dL_enters_376 : decode cL_enters 376 = .ok (.iload_n 0, 1) := by decide +kernel
theorem dL_enters_377 : decode cL_enters 377 = .ok (.aload 7, 2) := by decide +kernel
theorem dL_enters_379 : decode cL_enters 379 = .ok (.iconst 3, 1) := by decide +kernel
theorem dL_enters_380 : decode cL_enters 380 = .ok (.iaload, 1) := by decide +kernel
theorem dL_enters_381 : decode cL_enters 381 = .ok (.iastore, 1) := by decide +kernel
theorem dL_enters_382 : decode cL_enters 382 = .ok (.aload 7, 2) := by decide +kernel
theorem dL_enters_384 : decode cL_enters 384 = .ok (.iconst 3, 1) := by decide +kernel
theorem dL_enters_385 : decode cL_enters 385 = .ok (.iaload, 1) := by decide +kernel
theorem dL_enters_386 : decode cL_enters 386 = .ok (.iconst 1, 1) := by decide +kernel
theorem dL_enters_387 : decode cL_enters 387 = .ok (.isub, 1) := by decide +kernel
theorem dL_enters_388 : decode cL_enters 388 = .ok (.ireturn, 1) := by decide +kernel
theorem dL_will_0 : decode cL_will 0 = .ok (.iconst (-1), 1) := by decide +kernel
theorem dL_will_1 : decode cL_will 1 = .ok (.istore 6, 2) := by decide +kernel
theorem dL_will_3 : decode cL_will 3 = .ok (.iconst 0, 1) := by decide +kernel
theorem dL_will_4 : decode cL_will 4 = .ok (.istore 7, 2) := by decide +kernel
theorem dL_will_6 : decode cL_will 6 = .ok (.iconst 0, 1) := by decide +kernel
theorem dL_will_7 : decode cL_will 7 = .ok (.istore 8, 2) := by decide +kernel
theorem dL_will_9 : decode cL_will 9 = .ok (.iload 8, 2) := by decide +kernel
theorem dL_will_11 : decode cL_will 11 = .ok (.aload 5, 2) := by decide +kernel
theorem dL_will_13 : decode cL_will 13 = .ok (.iconst 1, 1) := by decide +kernel
theorem dL_will_14 : decode cL_will 14 = .ok (.iaload, 1) := by decide +kernel
theorem dL_will_15 : decode cL_will 15 = .ok (.if_icmp .ge 109, 3) := by decide +kernel
theorem dL_will_18 : decode cL_will 18 = .ok (.aload_n 3, 1) := by decide +kernel
theorem dL_will_19 : decode cL_will 19 = .ok (.iload 8, 2) := by decide +kernel
theorem dL_will_21 : decode cL_will 21 = .ok (.iaload, 1) := by decide +kernel
theorem dL_will_22 : decode cL_will 22 = .ok (.iconst 4, 1) := by decide +kernel
theorem dL_will_23 : decode cL_will 23 = .ok (.irem, 1) := by decide +kernel
theorem dL_will_24 : decode cL_will 24 = .ok (.istore 9, 2) := by decide +kernel
theorem dL_will_26 : decode cL_will 26 = .ok (.iload 9, 2) := by decide +kernel
theorem dL_will_28 : decode cL_will 28 = .ok (.iconst 1, 1) := by decide +kernel
theorem dL_will_29 : decode cL_will 29 = .ok (.if_icmp .ne 14, 3) := by decide +kernel
theorem dL_will_32 : decode cL_will 32 = .ok (.bipush 100, 2) := by decide +kernel
theorem dL_will_34 : decode cL_will 34 = .ok (.aload 4, 2) := by decide +kernel
theorem dL_will_36 : decode cL_will 36 = .ok (.iload 8, 2) := by decide +kernel
theorem dL_will_38 : decode cL_will 38 = .ok (.iaload, 1) := by decide +kernel
theorem dL_will_39 : decode cL_will 39 = .ok (.iadd, 1) := by decide +kernel
theorem dL_will_40 : decode cL_will 40 = .ok (.goto 18, 3) := by decide +kernel
theorem dL_will_43 : decode cL_will 43 = .ok (.iload 9, 2) := by decide +kernel
theorem dL_will_45 : decode cL_will 45 = .ok (.iconst 2, 1) := by decide +kernel
theorem dL_will_46 : decode cL_will 46 = .ok (.if_icmp .ne 11, 3) := by decide +kernel
theorem dL_will_49 : decode cL_will 49 = .ok (.aload 4, 2) := by decide +kernel
theorem dL_will_51 : decode cL_will 51 = .ok (.iload 8, 2) := by decide +kernel
theorem dL_will_53 : decode cL_will 53 = .ok (.iaload, 1) := by decide +kernel
theorem dL_will_54 : decode cL_will 54 = .ok (.goto 4, 3) := by decide +kernel
theorem dL_will_57 : decode cL_will 57 = .ok (.iconst 0, 1) := by decide +kernel
theorem dL_will_58 : decode cL_will 58 = .ok (.istore 10, 2) := by decide +kernel
theorem dL_will_60 : decode cL_will 60 = .ok (.aload_n 2, 1) := by decide +kernel
theorem dL_will_61 : decode cL_will 61 = .ok (.iload 8, 2) := by decide +kernel
theorem dL_will_63 : decode cL_will 63 = .ok (.iaload, 1) := by decide +kernel
theorem dL_will_64 : decode cL_will 64 = .ok (.bipush 8, 2) := by decide +kernel
theorem dL_will_66 : decode cL_will 66 = .ok (.irem, 1) := by decide +kernel
theorem dL_will_67 : decode cL_will 67 = .ok (.iconst 4, 1) := by decide +kernel
theorem dL_will_68 : decode cL_will 68 = .ok (.if_icmp .ne 50, 3) := by decide +kernel
theorem dL_will_71 : decode cL_will 71 = .ok (.aload_n 2, 1) := by decide +kernel
theorem dL_will_72 : decode cL_will 72 = .ok (.iload 8, 2) := by decide +kernel
theorem dL_will_74 : decode cL_will 74 = .ok (.iaload, 1) := by decide +kernel
theorem dL_will_75 : decode cL_will 75 = .ok (.bipush 8, 2) := by decide +kernel
theorem dL_will_77 : decode cL_will 77 = .ok (.idiv, 1) := by decide +kernel
theorem dL_will_78 : decode cL_will 78 = .ok (.bipush 8, 2) := by decide +kernel
theorem dL_will_80 : decode cL_will 80 = .ok (.irem, 1) := by decide +kernel
theorem dL_will_81 : decode cL_will 81 = .ok (.iload_n 0, 1) := by decide +kernel
theorem dL_will_82 : decode cL_will 82 = .ok (.if_icmp .ne 36, 3) := by decide +kernel
theorem dL_will_85 : decode cL_will 85 = .ok (.aload_n 1, 1) := by decide +kernel
theorem dL_will_86 : decode cL_will 86 = .ok (.bipush 16, 2) := by decide +kernel
theorem dL_will_88 : decode cL_will 88 = .ok (.aload_n 2, 1) := by decide +kernel
theorem dL_will_89 : decode cL_will 89 = .ok (.iload 8, 2) := by decide +kernel
theorem dL_will_91 : decode cL_will 91 = .ok (.iaload, 1) := by decide +kernel
theorem dL_will_92 : decode cL_will 92 = .ok (.bipush 64, 2) := by decide +kernel
theorem dL_will_94 : decode cL_will 94 = .ok (.idiv, 1) := by decide +kernel
theorem dL_will_95 : decode cL_will 95 = .ok (.bipush 8, 2) := by decide +kernel
theorem dL_will_97 : decode cL_will 97 = .ok (.irem, 1) := by decide +kernel
theorem dL_will_98 : decode cL_will 98 = .ok (.iadd, 1) := by decide +kernel
theorem dL_will_99 : decode cL_will 99 = .ok (.iaload, 1) := by decide +kernel
theorem dL_will_100 : decode cL_will 100 = .ok (.ifCond .ne 18, 3) := by decide +kernel
theorem dL_will_103 : decode cL_will 103 = .ok (.iload 10, 2) := by decide +kernel
theorem dL_will_105 : decode cL_will 105 = .ok (.iload 7, 2) := by decide +kernel
theorem dL_will_107 : decode cL_will 107 = .ok (.if_icmp .le 11, 3) := by decide +kernel
theorem dL_will_110 : decode cL_will 110 = .ok (.iload 8, 2) := by decide +kernel
theorem dL_will_112 : decode cL_will 112 = .ok (.istore 6, 2) := by decide +kernel
theorem dL_will_114 : decode cL_will 114 = .ok (.iload 10, 2) := by decide +kernel
theorem dL_will_116 : decode cL_will 116 = .ok (.istore 7, 2) := by decide +kernel
theorem dL_will_118 : decode cL_will 118 = .ok (.iinc 8 1, 3) := by decide +kernel
theorem dL_will_121 : decode cL_will 121 = .ok (.goto (-112), 3) := by decide +kernel
theorem dL_will_124 : decode cL_will 124 = .ok (.iload 6, 2) := by decide +kernel
theorem dL_will_126 : decode cL_will 126 = .ok (.ireturn, 1) := by decide +kernel
theorem dL_dies_0 : decode cL_dies 0 = .ok (.aload_n 1, 1) := by decide +kernel
theorem dL_dies_1 : decode cL_dies 1 = .ok (.bipush 16, 2) := by decide +kernel
theorem dL_dies_3 : decode cL_dies 3 = .ok (.iload_n 0, 1) := by decide +kernel
theorem dL_dies_4 : decode cL_dies 4 = .ok (.iadd, 1) := by decide +kernel
theorem dL_dies_5 : decode cL_dies 5 = .ok (.iaload, 1) := by decide +kernel
theorem dL_dies_6 : decode cL_dies 6 = .ok (.iconst 1, 1) := by decide +kernel
theorem dL_dies_7 : decode cL_dies 7 = .ok (.if_icmp .ne 7, 3) := by decide +kernel
theorem dL_dies_10 : decode cL_dies 10 = .ok (.sipush (-1003), 3) := by decide +kernel
theorem dL_dies_13 : decode cL_dies 13 = .ok (.ireturn, 1) := by decide +kernel
theorem dL_dies_14 : decode cL_dies 14 = .ok (.iload_n 0, 1) := by decide +kernel
theorem dL_dies_15 : decode cL_dies 15 = .ok (.aload_n 1, 1) := by decide +kernel
theorem dL_dies_16 : decode cL_dies 16 = .ok (.aload_n 2, 1) := by decide +kernel
theorem dL_dies_17 : decode cL_dies 17 = .ok (.aload 4, 2) := by decide +kernel
theorem dL_dies_19 : decode cL_dies 19 = .ok (.aload 5, 2) := by decide +kernel
theorem dL_dies_21 : decode cL_dies 21 = .ok (.aload 6, 2) := by decide +kernel
theorem dL_dies_23 : decode cL_dies 23 = .ok (.invokestatic 93, 3) := by decide +kernel
theorem dL_dies_26 : decode cL_dies 26 = .ok (.istore 9, 2) := by decide +kernel
theorem dL_dies_28 : decode cL_dies 28 = .ok (.iconst 0, 1) := by decide +kernel
theorem dL_dies_29 : decode cL_dies 29 = .ok (.istore 10, 2) := by decide +kernel
theorem dL_dies_31 : decode cL_dies 31 = .ok (.iconst 0, 1) := by decide +kernel
theorem dL_dies_32 : decode cL_dies 32 = .ok (.istore 11, 2) := by decide +kernel
theorem dL_dies_34 : decode cL_dies 34 = .ok (.iconst 0, 1) := by decide +kernel
theorem dL_dies_35 : decode cL_dies 35 = .ok (.istore 12, 2) := by decide +kernel
theorem dL_dies_37 : decode cL_dies 37 = .ok (.iload 12, 2) := by decide +kernel
theorem dL_dies_39 : decode cL_dies 39 = .ok (.bipush 6, 2) := by decide +kernel
theorem dL_dies_41 : decode cL_dies 41 = .ok (.if_icmp .ge 85, 3) := by decide +kernel
theorem dL_dies_44 : decode cL_dies 44 = .ok (.iload 10, 2) := by decide +kernel
theorem dL_dies_46 : decode cL_dies 46 = .ok (.aload_n 1, 1) := by decide +kernel
theorem dL_dies_47 : decode cL_dies 47 = .ok (.bipush 16, 2) := by decide +kernel
theorem dL_dies_49 : decode cL_dies 49 = .ok (.iload 12, 2) := by decide +kernel
theorem dL_dies_51 : decode cL_dies 51 = .ok (.iadd, 1) := by decide +kernel
theorem dL_dies_52 : decode cL_dies 52 = .ok (.iaload, 1) := by decide +kernel
theorem dL_dies_53 : decode cL_dies 53 = .ok (.ifCond .ne 25, 3) := by decide +kernel
theorem dL_dies_56 : decode cL_dies 56 = .ok (.aload_n 1, 1) := by decide +kernel
theorem dL_dies_57 : decode cL_dies 57 = .ok (.bipush 24, 2) := by decide +kernel
theorem dL_dies_59 : decode cL_dies 59 = .ok (.iload 12, 2) := by decide +kernel
theorem dL_dies_61 : decode cL_dies 61 = .ok (.iadd, 1) := by decide +kernel
theorem dL_dies_62 : decode cL_dies 62 = .ok (.iaload, 1) := by decide +kernel
theorem dL_dies_63 : decode cL_dies 63 = .ok (.iload_n 0, 1) := by decide +kernel
theorem dL_dies_64 : decode cL_dies 64 = .ok (.ishr, 1) := by decide +kernel
theorem dL_dies_65 : decode cL_dies 65 = .ok (.iconst 1, 1) := by decide +kernel
theorem dL_dies_66 : decode cL_dies 66 = .ok (.iand, 1) := by decide +kernel
theorem dL_dies_67 : decode cL_dies 67 = .ok (.iconst 1, 1) := by decide +kernel
theorem dL_dies_68 : decode cL_dies 68 = .ok (.if_icmp .ne 10, 3) := by decide +kernel
theorem dL_dies_71 : decode cL_dies 71 = .ok (.iconst 1, 1) := by decide +kernel
theorem dL_dies_72 : decode cL_dies 72 = .ok (.iload 12, 2) := by decide +kernel
theorem dL_dies_74 : decode cL_dies 74 = .ok (.ishl, 1) := by decide +kernel
theorem dL_dies_75 : decode cL_dies 75 = .ok (.goto 4, 3) := by decide +kernel
theorem dL_dies_78 : decode cL_dies 78 = .ok (.iconst 0, 1) := by decide +kernel
theorem dL_dies_79 : decode cL_dies 79 = .ok (.ior, 1) := by decide +kernel
theorem dL_dies_80 : decode cL_dies 80 = .ok (.istore 10, 2) := by decide +kernel
theorem dL_dies_82 : decode cL_dies 82 = .ok (.iload 11, 2) := by decide +kernel
theorem dL_dies_84 : decode cL_dies 84 = .ok (.aload_n 1, 1) := by decide +kernel
theorem dL_dies_85 : decode cL_dies 85 = .ok (.bipush 16, 2) := by decide +kernel
theorem dL_dies_87 : decode cL_dies 87 = .ok (.iload 12, 2) := by decide +kernel
theorem dL_dies_89 : decode cL_dies 89 = .ok (.iadd, 1) := by decide +kernel
theorem dL_dies_90 : decode cL_dies 90 = .ok (.iaload, 1) := by decide +kernel
theorem dL_dies_91 : decode cL_dies 91 = .ok (.ifCond .ne 25, 3) := by decide +kernel
theorem dL_dies_94 : decode cL_dies 94 = .ok (.aload_n 1, 1) := by decide +kernel
theorem dL_dies_95 : decode cL_dies 95 = .ok (.bipush 24, 2) := by decide +kernel
theorem dL_dies_97 : decode cL_dies 97 = .ok (.iload_n 0, 1) := by decide +kernel
theorem dL_dies_98 : decode cL_dies 98 = .ok (.iadd, 1) := by decide +kernel
theorem dL_dies_99 : decode cL_dies 99 = .ok (.iaload, 1) := by decide +kernel
theorem dL_dies_100 : decode cL_dies 100 = .ok (.iload 12, 2) := by decide +kernel
theorem dL_dies_102 : decode cL_dies 102 = .ok (.ishr, 1) := by decide +kernel
theorem dL_dies_103 : decode cL_dies 103 = .ok (.iconst 1, 1) := by decide +kernel
theorem dL_dies_104 : decode cL_dies 104 = .ok (.iand, 1) := by decide +kernel
theorem dL_dies_105 : decode cL_dies 105 = .ok (.iconst 1, 1) := by decide +kernel
theorem dL_dies_106 : decode cL_dies 106 = .ok (.if_icmp .ne 10, 3) := by decide +kernel
theorem dL_dies_109 : decode cL_dies 109 = .ok (.iconst 1, 1) := by decide +kernel
theorem dL_dies_110 : decode cL_dies 110 = .ok (.iload 12, 2) := by decide +kernel
theorem dL_dies_112 : decode cL_dies 112 = .ok (.ishl, 1) := by decide +kernel
theorem dL_dies_113 : decode cL_dies 113 = .ok (.goto 4, 3) := by decide +kernel
theorem dL_dies_116 : decode cL_dies 116 = .ok (.iconst 0, 1) := by decide +kernel
theorem dL_dies_117 : decode cL_dies 117 = .ok (.ior, 1) := by decide +kernel
theorem dL_dies_118 : decode cL_dies 118 = .ok (.istore 11, 2) := by decide +kernel
theorem dL_dies_120 : decode cL_dies 120 = .ok (.iinc 12 1, 3) := by decide +kernel
theorem dL_dies_123 : decode cL_dies 123 = .ok (.goto (-86), 3) := by decide +kernel
theorem dL_dies_126 : decode cL_dies 126 = .ok (.iload 10, 2) := by decide +kernel
theorem dL_dies_128 : decode cL_dies 128 = .ok (.ifCond .le 8, 3) := by decide +kernel
theorem dL_dies_131 : decode cL_dies 131 = .ok (.iload 10, 2) := by decide +kernel
theorem dL_dies_133 : decode cL_dies 133 = .ok (.goto 5, 3) := by decide +kernel
theorem dL_dies_136 : decode cL_dies 136 = .ok (.iload 11, 2) := by decide +kernel
theorem dL_dies_138 : decode cL_dies 138 = .ok (.istore 12, 2) := by decide +kernel
theorem dL_dies_140 : decode cL_dies 140 = .ok (.iconst 0, 1) := by decide +kernel
theorem dL_dies_141 : decode cL_dies 141 = .ok (.istore 13, 2) := by decide +kernel
theorem dL_dies_143 : decode cL_dies 143 = .ok (.iconst 0, 1) := by decide +kernel
theorem dL_dies_144 : decode cL_dies 144 = .ok (.istore 14, 2) := by decide +kernel
theorem dL_dies_146 : decode cL_dies 146 = .ok (.iload 14, 2) := by decide +kernel
theorem dL_dies_148 : decode cL_dies 148 = .ok (.bipush 6, 2) := by decide +kernel
theorem dL_dies_150 : decode cL_dies 150 = .ok (.if_icmp .ge 21, 3) := by decide +kernel
theorem dL_dies_153 : decode cL_dies 153 = .ok (.iload 13, 2) := by decide +kernel
theorem dL_dies_155 : decode cL_dies 155 = .ok (.iload 12, 2) := by decide +kernel
theorem dL_dies_157 : decode cL_dies 157 = .ok (.iload 14, 2) := by decide +kernel
theorem dL_dies_159 : decode cL_dies 159 = .ok (.ishr, 1) := by decide +kernel
theorem dL_dies_160 : decode cL_dies 160 = .ok (.iconst 1, 1) := by decide +kernel
theorem dL_dies_161 : decode cL_dies 161 = .ok (.iand, 1) := by decide +kernel
theorem dL_dies_162 : decode cL_dies 162 = .ok (.iadd, 1) := by decide +kernel
theorem dL_dies_163 : decode cL_dies 163 = .ok (.istore 13, 2) := by decide +kernel
theorem dL_dies_165 : decode cL_dies 165 = .ok (.iinc 14 1, 3) := by decide +kernel
theorem dL_dies_168 : decode cL_dies 168 = .ok (.goto (-22), 3) := by decide +kernel
theorem dL_dies_171 : decode cL_dies 171 = .ok (.bipush 14, 2) := by decide +kernel
theorem dL_dies_173 : decode cL_dies 173 = .ok (.newarray .long, 2) := by decide +kernel
theorem dL_dies_175 : decode cL_dies 175 = .ok (.astore 14, 2) := by decide +kernel
theorem dL_dies_177 : decode cL_dies 177 = .ok (.iconst 1, 1) := by decide +kernel
theorem dL_dies_178 : decode cL_dies 178 = .ok (.istore 15, 2) := by decide +kernel
theorem dL_dies_180 : decode cL_dies 180 = .ok (.iconst 0, 1) := by decide +kernel
theorem dL_dies_181 : decode cL_dies 181 = .ok (.istore 16, 2) := by decide +kernel
theorem dL_dies_183 : decode cL_dies 183 = .ok (.iconst 0, 1) := by decide +kernel
theorem dL_dies_184 : decode cL_dies 184 = .ok (.istore 17, 2) := by decide +kernel
theorem dL_dies_186 : decode cL_dies 186 = .ok (.iload 17, 2) := by decide +kernel
theorem dL_dies_188 : decode cL_dies 188 = .ok (.bipush 14, 2) := by decide +kernel
theorem dL_dies_190 : decode cL_dies 190 = .ok (.if_icmp .ge 19, 3) := by decide +kernel
theorem dL_dies_193 : decode cL_dies 193 = .ok (.aload 14, 2) := by decide +kernel
theorem dL_dies_195 : decode cL_dies 195 = .ok (.iload 17, 2) := by decide +kernel
theorem dL_dies_197 : decode cL_dies 197 = .ok (.aload 7, 2) := by decide +kernel
theorem dL_dies_199 : decode cL_dies 199 = .ok (.iload 17, 2) := by decide +kernel
theorem dL_dies_201 : decode cL_dies 201 = .ok (.laload, 1) := by decide +kernel
theorem dL_dies_202 : decode cL_dies 202 = .ok (.lastore, 1) := by decide +kernel
theorem dL_dies_203 : decode cL_dies 203 = .ok (.iinc 17 1, 3) := by decide +kernel
theorem dL_dies_206 : decode cL_dies 206 = .ok (.goto (-20), 3) := by decide +kernel
theorem dL_dies_209 : decode cL_dies 209 = .ok (.iconst 0, 1) := by decide +kernel
theorem dL_dies_210 : decode cL_dies 210 = .ok (.istore 17, 2) := by decide +kernel
theorem dL_dies_212 : decode cL_dies 212 = .ok (.iload 17, 2) := by decide +kernel
theorem dL_dies_214 : decode cL_dies 214 = .ok (.iconst 2, 1) := by decide +kernel
theorem dL_dies_215 : decode cL_dies 215 = .ok (.if_icmp .ge 291, 3) := by decide +kernel
theorem dL_dies_218 : decode cL_dies 218 = .ok (.aload 7, 2) := by decide +kernel
theorem dL_dies_220 : decode cL_dies 220 = .ok (.bipush 7, 2) := by decide +kernel
theorem dL_dies_222 : decode cL_dies 222 = .ok (.iload 17, 2) := by decide +kernel
theorem dL_dies_224 : decode cL_dies 224 = .ok (.imul, 1) := by decide +kernel
theorem dL_dies_225 : decode cL_dies 225 = .ok (.iload_n 0, 1) := by decide +kernel
theorem dL_dies_226 : decode cL_dies 226 = .ok (.iadd, 1) := by decide +kernel
theorem dL_dies_227 : decode cL_dies 227 = .ok (.laload, 1) := by decide +kernel
theorem dL_dies_228 : decode cL_dies 228 = .ok (.lstore 18, 2) := by decide +kernel
theorem dL_dies_230 : decode cL_dies 230 = .ok (.iload 9, 2) := by decide +kernel
theorem dL_dies_232 : decode cL_dies 232 = .ok (.ifCond .ge 7, 3) := by decide +kernel
theorem dL_dies_235 : decode cL_dies 235 = .ok (.lconst 0, 1) := by decide +kernel
theorem dL_dies_236 : decode cL_dies 236 = .ok (.goto 25, 3) := by decide +kernel
theorem dL_dies_239 : decode cL_dies 239 = .ok (.lload 18, 2) := by decide +kernel
theorem dL_dies_241 : decode cL_dies 241 = .ok (.aload_n 3, 1) := by decide +kernel
theorem dL_dies_242 : decode cL_dies 242 = .ok (.iload 9, 2) := by decide +kernel
theorem dL_dies_244 : decode cL_dies 244 = .ok (.iaload, 1) := by decide +kernel
theorem dL_dies_245 : decode cL_dies 245 = .ok (.sipush 128, 3) := by decide +kernel
theorem dL_dies_248 : decode cL_dies 248 = .ok (.irem, 1) := by decide +kernel
theorem dL_dies_249 : decode cL_dies 249 = .ok (.i2l, 1) := by decide +kernel
theorem dL_dies_250 : decode cL_dies 250 = .ok (.ldiv, 1) := by decide +kernel
theorem dL_dies_251 : decode cL_dies 251 = .ok (.aload_n 3, 1) := by decide +kernel
theorem dL_dies_252 : decode cL_dies 252 = .ok (.iload 9, 2) := by decide +kernel
theorem dL_dies_254 : decode cL_dies 254 = .ok (.iaload, 1) := by decide +kernel
theorem dL_dies_255 : decode cL_dies 255 = .ok (.sipush 128, 3) := by decide +kernel
theorem dL_dies_258 : decode cL_dies 258 = .ok (.idiv, 1) := by decide +kernel
theorem dL_dies_259 : decode cL_dies 259 = .ok (.i2l, 1) := by decide +kernel
theorem dL_dies_260 : decode cL_dies 260 = .ok (.lmul, 1) := by decide +kernel
theorem dL_dies_261 : decode cL_dies 261 = .ok (.lstore 20, 2) := by decide +kernel
theorem dL_dies_263 : decode cL_dies 263 = .ok (.iload 10, 2) := by decide +kernel
theorem dL_dies_265 : decode cL_dies 265 = .ok (.ifCond .le 24, 3) := by decide +kernel
theorem dL_dies_268 : decode cL_dies 268 = .ok (.ldc2_w 96, 3) := by decide +kernel
theorem dL_dies_271 : decode cL_dies 271 = .ok (.lload 20, 2) := by decide +kernel
theorem dL_dies_273 : decode cL_dies 273 = .ok (.lmul, 1) := by decide +kernel
theorem dL_dies_274 : decode cL_dies 274 = .ok (.lload 18, 2) := by decide +kernel
theorem dL_dies_276 : decode cL_dies 276 = .ok (.lcmp, 1) := by decide +kernel
theorem dL_dies_277 : decode cL_dies 277 = .ok (.ifCond .le 12, 3) := by decide +kernel
theorem dL_dies_280 : decode cL_dies 280 = .ok (.lload 18, 2) := by decide +kernel
theorem dL_dies_282 : decode cL_dies 282 = .ok (.ldc2_w 96, 3) := by decide +kernel
theorem dL_dies_285 : decode cL_dies 285 = .ok (.ldiv, 1) := by decide +kernel
theorem dL_dies_286 : decode cL_dies 286 = .ok (.goto 5, 3) := by decide +kernel
theorem dL_dies_289 : decode cL_dies 289 = .ok (.lload 20, 2) := by decide +kernel
theorem dL_dies_291 : decode cL_dies 291 = .ok (.lstore 20, 2) := by decide +kernel
theorem dL_dies_293 : decode cL_dies 293 = .ok (.lload 18, 2) := by decide +kernel
theorem dL_dies_295 : decode cL_dies 295 = .ok (.lconst 0, 1) := by decide +kernel
theorem dL_dies_296 : decode cL_dies 296 = .ok (.lcmp, 1) := by decide +kernel
theorem dL_dies_297 : decode cL_dies 297 = .ok (.ifCond .le 203, 3) := by decide +kernel
theorem dL_dies_300 : decode cL_dies 300 = .ok (.aload 7, 2) := by decide +kernel
theorem dL_dies_302 : decode cL_dies 302 = .ok (.bipush 7, 2) := by decide +kernel
theorem dL_dies_304 : decode cL_dies 304 = .ok (.iload 17, 2) := by decide +kernel
theorem dL_dies_306 : decode cL_dies 306 = .ok (.imul, 1) := by decide +kernel
theorem dL_dies_307 : decode cL_dies 307 = .ok (.iload_n 0, 1) := by decide +kernel
theorem dL_dies_308 : decode cL_dies 308 = .ok (.iadd, 1) := by decide +kernel
theorem dL_dies_309 : decode cL_dies 309 = .ok (.lconst 0, 1) := by decide +kernel
theorem dL_dies_310 : decode cL_dies 310 = .ok (.lastore, 1) := by decide +kernel
theorem dL_dies_311 : decode cL_dies 311 = .ok (.iload 9, 2) := by decide +kernel
theorem dL_dies_313 : decode cL_dies 313 = .ok (.ifCond .lt 27, 3) := by decide +kernel
theorem dL_dies_316 : decode cL_dies 316 = .ok (.aload 7, 2) := by decide +kernel
theorem dL_dies_318 : decode cL_dies 318 = .ok (.bipush 7, 2) := by decide +kernel
theorem dL_dies_320 : decode cL_dies 320 = .ok (.iload 17, 2) := by decide +kernel
theorem dL_dies_322 : decode cL_dies 322 = .ok (.imul, 1) := by decide +kernel
theorem dL_dies_323 : decode cL_dies 323 = .ok (.aload_n 2, 1) := by decide +kernel
theorem dL_dies_324 : decode cL_dies 324 = .ok (.iload 9, 2) := by decide +kernel
theorem dL_dies_326 : decode cL_dies 326 = .ok (.iaload, 1) := by decide +kernel
theorem dL_dies_327 : decode cL_dies 327 = .ok (.bipush 64, 2) := by decide +kernel
theorem dL_dies_329 : decode cL_dies 329 = .ok (.idiv, 1) := by decide +kernel
theorem dL_dies_330 : decode cL_dies 330 = .ok (.bipush 8, 2) := by decide +kernel
theorem dL_dies_332 : decode cL_dies 332 = .ok (.irem, 1) := by decide +kernel
theorem dL_dies_333 : decode cL_dies 333 = .ok (.iadd, 1) := by decide +kernel
theorem dL_dies_334 : decode cL_dies 334 = .ok (.dup2, 1) := by decide +kernel
theorem dL_dies_335 : decode cL_dies 335 = .ok (.laload, 1) := by decide +kernel
theorem dL_dies_336 : decode cL_dies 336 = .ok (.lload 20, 2) := by decide +kernel
theorem dL_dies_338 : decode cL_dies 338 = .ok (.ladd, 1) := by decide +kernel
theorem dL_dies_339 : decode cL_dies 339 = .ok (.lastore, 1) := by decide +kernel
theorem dL_dies_340 : decode cL_dies 340 = .ok (.iconst 0, 1) := by decide +kernel
theorem dL_dies_341 : decode cL_dies 341 = .ok (.istore 22, 2) := by decide +kernel
theorem dL_dies_343 : decode cL_dies 343 = .ok (.iload 22, 2) := by decide +kernel
theorem dL_dies_345 : decode cL_dies 345 = .ok (.bipush 6, 2) := by decide +kernel
theorem dL_dies_347 : decode cL_dies 347 = .ok (.if_icmp .ge 47, 3) := by decide +kernel
theorem dL_dies_350 : decode cL_dies 350 = .ok (.aload 7, 2) := by decide +kernel
theorem dL_dies_352 : decode cL_dies 352 = .ok (.bipush 7, 2) := by decide +kernel
theorem dL_dies_354 : decode cL_dies 354 = .ok (.iload 17, 2) := by decide +kernel
theorem dL_dies_356 : decode cL_dies 356 = .ok (.imul, 1) := by decide +kernel
theorem dL_dies_357 : decode cL_dies 357 = .ok (.iload 22, 2) := by decide +kernel
theorem dL_dies_359 : decode cL_dies 359 = .ok (.iadd, 1) := by decide +kernel
theorem dL_dies_360 : decode cL_dies 360 = .ok (.dup2, 1) := by decide +kernel
theorem dL_dies_361 : decode cL_dies 361 = .ok (.laload, 1) := by decide +kernel
theorem dL_dies_362 : decode cL_dies 362 = .ok (.iload 12, 2) := by decide +kernel
theorem dL_dies_364 : decode cL_dies 364 = .ok (.iload 22, 2) := by decide +kernel
theorem dL_dies_366 : decode cL_dies 366 = .ok (.ishr, 1) := by decide +kernel
theorem dL_dies_367 : decode cL_dies 367 = .ok (.iconst 1, 1) := by decide +kernel
theorem dL_dies_368 : decode cL_dies 368 = .ok (.iand, 1) := by decide +kernel
theorem dL_dies_369 : decode cL_dies 369 = .ok (.iconst 1, 1) := by decide +kernel
theorem dL_dies_370 : decode cL_dies 370 = .ok (.if_icmp .ne 15, 3) := by decide +kernel
theorem dL_dies_373 : decode cL_dies 373 = .ok (.lload 18, 2) := by decide +kernel
theorem dL_dies_375 : decode cL_dies 375 = .ok (.lload 20, 2) := by decide +kernel
theorem dL_dies_377 : decode cL_dies 377 = .ok (.lsub, 1) := by decide +kernel
theorem dL_dies_378 : decode cL_dies 378 = .ok (.iload 13, 2) := by decide +kernel
theorem dL_dies_380 : decode cL_dies 380 = .ok (.i2l, 1) := by decide +kernel
theorem dL_dies_381 : decode cL_dies 381 = .ok (.ldiv, 1) := by decide +kernel
theorem dL_dies_382 : decode cL_dies 382 = .ok (.goto 4, 3) := by decide +kernel
theorem dL_dies_385 : decode cL_dies 385 = .ok (.lconst 0, 1) := by decide +kernel
theorem dL_dies_386 : decode cL_dies 386 = .ok (.ladd, 1) := by decide +kernel
theorem dL_dies_387 : decode cL_dies 387 = .ok (.lastore, 1) := by decide +kernel
theorem dL_dies_388 : decode cL_dies 388 = .ok (.iinc 22 1, 3) := by decide +kernel
theorem dL_dies_391 : decode cL_dies 391 = .ok (.goto (-48), 3) := by decide +kernel
theorem dL_dies_394 : decode cL_dies 394 = .ok (.aload 7, 2) := by decide +kernel
theorem dL_dies_396 : decode cL_dies 396 = .ok (.bipush 7, 2) := by decide +kernel
theorem dL_dies_398 : decode cL_dies 398 = .ok (.iload 17, 2) := by decide +kernel
theorem dL_dies_400 : decode cL_dies 400 = .ok (.imul, 1) := by decide +kernel
theorem dL_dies_401 : decode cL_dies 401 = .ok (.bipush 6, 2) := by decide +kernel
theorem dL_dies_403 : decode cL_dies 403 = .ok (.iadd, 1) := by decide +kernel
theorem dL_dies_404 : decode cL_dies 404 = .ok (.dup2, 1) := by decide +kernel
theorem dL_dies_405 : decode cL_dies 405 = .ok (.laload, 1) := by decide +kernel
theorem dL_dies_406 : decode cL_dies 406 = .ok (.iload 13, 2) := by decide +kernel
theorem dL_dies_408 : decode cL_dies 408 = .ok (.ifCond .ne 11, 3) := by decide +kernel
theorem dL_dies_411 : decode cL_dies 411 = .ok (.lload 18, 2) := by decide +kernel
theorem dL_dies_413 : decode cL_dies 413 = .ok (.lload 20, 2) := by decide +kernel
theorem dL_dies_415 : decode cL_dies 415 = .ok (.lsub, 1) := by decide +kernel
theorem dL_dies_416 : decode cL_dies 416 = .ok (.goto 4, 3) := by decide +kernel
theorem dL_dies_419 : decode cL_dies 419 = .ok (.lconst 0, 1) := by decide +kernel
theorem dL_dies_420 : decode cL_dies 420 = .ok (.ladd, 1) := by decide +kernel
theorem dL_dies_421 : decode cL_dies 421 = .ok (.lastore, 1) := by decide +kernel
theorem dL_dies_422 : decode cL_dies 422 = .ok (.iconst 0, 1) := by decide +kernel
theorem dL_dies_423 : decode cL_dies 423 = .ok (.istore 22, 2) := by decide +kernel
theorem dL_dies_425 : decode cL_dies 425 = .ok (.iload 22, 2) := by decide +kernel
theorem dL_dies_427 : decode cL_dies 427 = .ok (.bipush 7, 2) := by decide +kernel
theorem dL_dies_429 : decode cL_dies 429 = .ok (.if_icmp .ge 68, 3) := by decide +kernel
theorem dL_dies_432 : decode cL_dies 432 = .ok (.iload 15, 2) := by decide +kernel
theorem dL_dies_434 : decode cL_dies 434 = .ok (.ifCond .eq 54, 3) := by decide +kernel
theorem dL_dies_437 : decode cL_dies 437 = .ok (.aload 7, 2) := by decide +kernel
theorem dL_dies_439 : decode cL_dies 439 = .ok (.bipush 7, 2) := by decide +kernel
theorem dL_dies_441 : decode cL_dies 441 = .ok (.iload 17, 2) := by decide +kernel
theorem dL_dies_443 : decode cL_dies 443 = .ok (.imul, 1) := by decide +kernel
theorem dL_dies_444 : decode cL_dies 444 = .ok (.iload 22, 2) := by decide +kernel
theorem dL_dies_446 : decode cL_dies 446 = .ok (.iadd, 1) := by decide +kernel
theorem dL_dies_447 : decode cL_dies 447 = .ok (.laload, 1) := by decide +kernel
theorem dL_dies_448 : decode cL_dies 448 = .ok (.aload 14, 2) := by decide +kernel
theorem dL_dies_450 : decode cL_dies 450 = .ok (.bipush 7, 2) := by decide +kernel
theorem dL_dies_452 : decode cL_dies 452 = .ok (.iload 17, 2) := by decide +kernel
theorem dL_dies_454 : decode cL_dies 454 = .ok (.imul, 1) := by decide +kernel
theorem dL_dies_455 : decode cL_dies 455 = .ok (.iload 22, 2) := by decide +kernel
theorem dL_dies_457 : decode cL_dies 457 = .ok (.iadd, 1) := by decide +kernel
theorem dL_dies_458 : decode cL_dies 458 = .ok (.laload, 1) := by decide +kernel
theorem dL_dies_459 : decode cL_dies 459 = .ok (.lcmp, 1) := by decide +kernel
theorem dL_dies_460 : decode cL_dies 460 = .ok (.ifCond .eq 24, 3) := by decide +kernel
theorem dL_dies_463 : decode cL_dies 463 = .ok (.aload 7, 2) := by decide +kernel
theorem dL_dies_465 : decode cL_dies 465 = .ok (.bipush 7, 2) := by decide +kernel
theorem dL_dies_467 : decode cL_dies 467 = .ok (.iload 17, 2) := by decide +kernel
theorem dL_dies_469 : decode cL_dies 469 = .ok (.imul, 1) := by decide +kernel
theorem dL_dies_470 : decode cL_dies 470 = .ok (.iload 22, 2) := by decide +kernel
theorem dL_dies_472 : decode cL_dies 472 = .ok (.iadd, 1) := by decide +kernel
theorem dL_dies_473 : decode cL_dies 473 = .ok (.laload, 1) := by decide +kernel
theorem dL_dies_474 : decode cL_dies 474 = .ok (.invokestatic 82, 3) := by decide +kernel
theorem dL_dies_477 : decode cL_dies 477 = .ok (.ldc2_w 86, 3) := by decide +kernel
theorem dL_dies_480 : decode cL_dies 480 = .ok (.lcmp, 1) := by decide +kernel
theorem dL_dies_481 : decode cL_dies 481 = .ok (.ifCond .gt 7, 3) := by decide +kernel
theorem dL_dies_484 : decode cL_dies 484 = .ok (.iconst 1, 1) := by decide +kernel
theorem dL_dies_485 : decode cL_dies 485 = .ok (.goto 4, 3) := by decide +kernel
theorem dL_dies_488 : decode cL_dies 488 = .ok (.iconst 0, 1) := by decide +kernel
theorem dL_dies_489 : decode cL_dies 489 = .ok (.istore 15, 2) := by decide +kernel
theorem dL_dies_491 : decode cL_dies 491 = .ok (.iinc 22 1, 3) := by decide +kernel
theorem dL_dies_494 : decode cL_dies 494 = .ok (.goto (-69), 3) := by decide +kernel
theorem dL_dies_497 : decode cL_dies 497 = .ok (.iinc 16 1, 3) := by decide +kernel
theorem dL_dies_500 : decode cL_dies 500 = .ok (.iinc 17 1, 3) := by decide +kernel
theorem dL_dies_503 : decode cL_dies 503 = .ok (.goto (-291), 3) := by decide +kernel
theorem dL_dies_506 : decode cL_dies 506 = .ok (.iload 15, 2) := by decide +kernel
theorem dL_dies_508 : decode cL_dies 508 = .ok (.ifCond .eq 15, 3) := by decide +kernel
theorem dL_dies_511 : decode cL_dies 511 = .ok (.aload 6, 2) := by decide +kernel
theorem dL_dies_513 : decode cL_dies 513 = .ok (.iconst 3, 1) := by decide +kernel
theorem dL_dies_514 : decode cL_dies 514 = .ok (.iaload, 1) := by decide +kernel
theorem dL_dies_515 : decode cL_dies 515 = .ok (.iload 16, 2) := by decide +kernel
theorem dL_dies_517 : decode cL_dies 517 = .ok (.iadd, 1) := by decide +kernel
theorem dL_dies_518 : decode cL_dies 518 = .ok (.bipush 30, 2) := by decide +kernel
theorem dL_dies_520 : decode cL_dies 520 = .ok (.if_icmp .le 33, 3) := by decide +kernel
theorem dL_dies_523 : decode cL_dies 523 = .ok (.iconst 0, 1) := by decide +kernel
theorem dL_dies_524 : decode cL_dies 524 = .ok (.istore 17, 2) := by decide +kernel
theorem dL_dies_526 : decode cL_dies 526 = .ok (.iload 17, 2) := by decide +kernel
theorem dL_dies_528 : decode cL_dies 528 = .ok (.bipush 14, 2) := by decide +kernel
theorem dL_dies_530 : decode cL_dies 530 = .ok (.if_icmp .ge 19, 3) := by decide +kernel
theorem dL_dies_533 : decode cL_dies 533 = .ok (.aload 7, 2) := by decide +kernel
theorem dL_dies_535 : decode cL_dies 535 = .ok (.iload 17, 2) := by decide +kernel
theorem dL_dies_537 : decode cL_dies 537 = .ok (.aload 14, 2) := by decide +kernel
theorem dL_dies_539 : decode cL_dies 539 = .ok (.iload 17, 2) := by decide +kernel
theorem dL_dies_541 : decode cL_dies 541 = .ok (.laload, 1) := by decide +kernel
theorem dL_dies_542 : decode cL_dies 542 = .ok (.lastore, 1) := by decide +kernel
theorem dL_dies_543 : decode cL_dies 543 = .ok (.iinc 17 1, 3) := by decide +kernel
theorem dL_dies_546 : decode cL_dies 546 = .ok (.goto (-20), 3) := by decide +kernel
theorem dL_dies_549 : decode cL_dies 549 = .ok (.sipush (-1003), 3) := by decide +kernel
theorem dL_dies_552 : decode cL_dies 552 = .ok (.ireturn, 1) := by decide +kernel
theorem dL_dies_553 : decode cL_dies 553 = .ok (.iconst 0, 1) := by decide +kernel
theorem dL_dies_554 : decode cL_dies 554 = .ok (.istore 17, 2) := by decide +kernel
theorem dL_dies_556 : decode cL_dies 556 = .ok (.iload 17, 2) := by decide +kernel
theorem dL_dies_558 : decode cL_dies 558 = .ok (.iconst 2, 1) := by decide +kernel
theorem dL_dies_559 : decode cL_dies 559 = .ok (.if_icmp .ge 52, 3) := by decide +kernel
theorem dL_dies_562 : decode cL_dies 562 = .ok (.aload 14, 2) := by decide +kernel
theorem dL_dies_564 : decode cL_dies 564 = .ok (.bipush 7, 2) := by decide +kernel
theorem dL_dies_566 : decode cL_dies 566 = .ok (.iload 17, 2) := by decide +kernel
theorem dL_dies_568 : decode cL_dies 568 = .ok (.imul, 1) := by decide +kernel
theorem dL_dies_569 : decode cL_dies 569 = .ok (.iload_n 0, 1) := by decide +kernel
theorem dL_dies_570 : decode cL_dies 570 = .ok (.iadd, 1) := by decide +kernel
theorem dL_dies_571 : decode cL_dies 571 = .ok (.laload, 1) := by decide +kernel
theorem dL_dies_572 : decode cL_dies 572 = .ok (.lconst 0, 1) := by decide +kernel
theorem dL_dies_573 : decode cL_dies 573 = .ok (.lcmp, 1) := by decide +kernel
theorem dL_dies_574 : decode cL_dies 574 = .ok (.ifCond .le 31, 3) := by decide +kernel
theorem dL_dies_577 : decode cL_dies 577 = .ok (.aload 8, 2) := by decide +kernel
theorem dL_dies_579 : decode cL_dies 579 = .ok (.aload 6, 2) := by decide +kernel
theorem dL_dies_581 : decode cL_dies 581 = .ok (.iconst 3, 1) := by decide +kernel
theorem dL_dies_582 : decode cL_dies 582 = .ok (.iaload, 1) := by decide +kernel
theorem dL_dies_583 : decode cL_dies 583 = .ok (.iconst 5, 1) := by decide +kernel
theorem dL_dies_584 : decode cL_dies 584 = .ok (.bipush 8, 2) := by decide +kernel
theorem dL_dies_586 : decode cL_dies 586 = .ok (.iload_n 0, 1) := by decide +kernel
theorem dL_dies_587 : decode cL_dies 587 = .ok (.imul, 1) := by decide +kernel
theorem dL_dies_588 : decode cL_dies 588 = .ok (.iadd, 1) := by decide +kernel
theorem dL_dies_589 : decode cL_dies 589 = .ok (.sipush 512, 3) := by decide +kernel
theorem dL_dies_592 : decode cL_dies 592 = .ok (.iload 17, 2) := by decide +kernel
theorem dL_dies_594 : decode cL_dies 594 = .ok (.imul, 1) := by decide +kernel
theorem dL_dies_595 : decode cL_dies 595 = .ok (.iadd, 1) := by decide +kernel
theorem dL_dies_596 : decode cL_dies 596 = .ok (.iastore, 1) := by decide +kernel
theorem dL_dies_597 : decode cL_dies 597 = .ok (.aload 6, 2) := by decide +kernel
theorem dL_dies_599 : decode cL_dies 599 = .ok (.iconst 3, 1) := by decide +kernel
theorem dL_dies_600 : decode cL_dies 600 = .ok (.dup2, 1) := by decide +kernel
theorem dL_dies_601 : decode cL_dies 601 = .ok (.iaload, 1) := by decide +kernel
theorem dL_dies_602 : decode cL_dies 602 = .ok (.iconst 1, 1) := by decide +kernel
theorem dL_dies_603 : decode cL_dies 603 = .ok (.iadd, 1) := by decide +kernel
theorem dL_dies_604 : decode cL_dies 604 = .ok (.iastore, 1) := by decide +kernel
theorem dL_dies_605 : decode cL_dies 605 = .ok (.iinc 17 1, 3) := by decide +kernel
theorem dL_dies_608 : decode cL_dies 608 = .ok (.goto (-52), 3) := by decide +kernel
theorem dL_dies_611 : decode cL_dies 611 = .ok (.aload_n 1, 1) := by decide +kernel
theorem dL_dies_612 : decode cL_dies 612 = .ok (.bipush 16, 2) := by decide +kernel
theorem dL_dies_614 : decode cL_dies 614 = .ok (.iload_n 0, 1) := by decide +kernel
theorem dL_dies_615 : decode cL_dies 615 = .ok (.iadd, 1) := by decide +kernel
theorem dL_dies_616 : decode cL_dies 616 = .ok (.iconst 1, 1) := by decide +kernel
theorem dL_dies_617 : decode cL_dies 617 = .ok (.iastore, 1) := by decide +kernel
theorem dL_dies_618 : decode cL_dies 618 = .ok (.iconst 0, 1) := by decide +kernel
theorem dL_dies_619 : decode cL_dies 619 = .ok (.istore 17, 2) := by decide +kernel
theorem dL_dies_621 : decode cL_dies 621 = .ok (.iload 17, 2) := by decide +kernel
theorem dL_dies_623 : decode cL_dies 623 = .ok (.bipush 6, 2) := by decide +kernel
theorem dL_dies_625 : decode cL_dies 625 = .ok (.if_icmp .ge 40, 3) := by decide +kernel
theorem dL_dies_628 : decode cL_dies 628 = .ok (.aload_n 1, 1) := by decide +kernel
theorem dL_dies_629 : decode cL_dies 629 = .ok (.bipush 32, 2) := by decide +kernel
theorem dL_dies_631 : decode cL_dies 631 = .ok (.iload 17, 2) := by decide +kernel
theorem dL_dies_633 : decode cL_dies 633 = .ok (.iadd, 1) := by decide +kernel
theorem dL_dies_634 : decode cL_dies 634 = .ok (.aload_n 1, 1) := by decide +kernel
theorem dL_dies_635 : decode cL_dies 635 = .ok (.bipush 32, 2) := by decide +kernel
theorem dL_dies_637 : decode cL_dies 637 = .ok (.iload 17, 2) := by decide +kernel
theorem dL_dies_639 : decode cL_dies 639 = .ok (.iadd, 1) := by decide +kernel
theorem dL_dies_640 : decode cL_dies 640 = .ok (.iaload, 1) := by decide +kernel
theorem dL_dies_641 : decode cL_dies 641 = .ok (.iload_n 0, 1) := by decide +kernel
theorem dL_dies_642 : decode cL_dies 642 = .ok (.iconst 1, 1) := by decide +kernel
theorem dL_dies_643 : decode cL_dies 643 = .ok (.iadd, 1) := by decide +kernel
theorem dL_dies_644 : decode cL_dies 644 = .ok (.if_icmp .ne 7, 3) := by decide +kernel
theorem dL_dies_647 : decode cL_dies 647 = .ok (.iconst 0, 1) := by decide +kernel
theorem dL_dies_648 : decode cL_dies 648 = .ok (.goto 10, 3) := by decide +kernel
theorem dL_dies_651 : decode cL_dies 651 = .ok (.aload_n 1, 1) := by decide +kernel
theorem dL_dies_652 : decode cL_dies 652 = .ok (.bipush 32, 2) := by decide +kernel
theorem dL_dies_654 : decode cL_dies 654 = .ok (.iload 17, 2) := by decide +kernel
theorem dL_dies_656 : decode cL_dies 656 = .ok (.iadd, 1) := by decide +kernel
theorem dL_dies_657 : decode cL_dies 657 = .ok (.iaload, 1) := by decide +kernel
theorem dL_dies_658 : decode cL_dies 658 = .ok (.iastore, 1) := by decide +kernel
theorem dL_dies_659 : decode cL_dies 659 = .ok (.iinc 17 1, 3) := by decide +kernel
theorem dL_dies_662 : decode cL_dies 662 = .ok (.goto (-41), 3) := by decide +kernel
theorem dL_dies_665 : decode cL_dies 665 = .ok (.iload 16, 2) := by decide +kernel
theorem dL_dies_667 : decode cL_dies 667 = .ok (.ireturn, 1) := by decide +kernel
theorem dL_drafts_0 : decode cL_drafts 0 = .ok (.aload 5, 2) := by decide +kernel
theorem dL_drafts_2 : decode cL_drafts 2 = .ok (.iconst 1, 1) := by decide +kernel
theorem dL_drafts_3 : decode cL_drafts 3 = .ok (.iaload, 1) := by decide +kernel
theorem dL_drafts_4 : decode cL_drafts 4 = .ok (.istore 6, 2) := by decide +kernel
theorem dL_drafts_6 : decode cL_drafts 6 = .ok (.iload_n 1, 1) := by decide +kernel
theorem dL_drafts_7 : decode cL_drafts 7 = .ok (.bipush 8, 2) := by decide +kernel
theorem dL_drafts_9 : decode cL_drafts 9 = .ok (.invokestatic 98, 3) := by decide +kernel
theorem dL_drafts_12 : decode cL_drafts 12 = .ok (.iconst 5, 1) := by decide +kernel
theorem dL_drafts_13 : decode cL_drafts 13 = .ok (.if_icmp .ge 12, 3) := by decide +kernel
theorem dL_drafts_16 : decode cL_drafts 16 = .ok (.iload_n 1, 1) := by decide +kernel
theorem dL_drafts_17 : decode cL_drafts 17 = .ok (.bipush 8, 2) := by decide +kernel
theorem dL_drafts_19 : decode cL_drafts 19 = .ok (.invokestatic 98, 3) := by decide +kernel
theorem dL_drafts_22 : decode cL_drafts 22 = .ok (.goto 8, 3) := by decide +kernel
theorem dL_drafts_25 : decode cL_drafts 25 = .ok (.iload_n 1, 1) := by decide +kernel
theorem dL_drafts_26 : decode cL_drafts 26 = .ok (.iconst 3, 1) := by decide +kernel
theorem dL_drafts_27 : decode cL_drafts 27 = .ok (.invokestatic 98, 3) := by decide +kernel
theorem dL_drafts_30 : decode cL_drafts 30 = .ok (.istore 7, 2) := by decide +kernel
theorem dL_drafts_32 : decode cL_drafts 32 = .ok (.iload_n 1, 1) := by decide +kernel
theorem dL_drafts_33 : decode cL_drafts 33 = .ok (.iconst 3, 1) := by decide +kernel
theorem dL_drafts_34 : decode cL_drafts 34 = .ok (.ishr, 1) := by decide +kernel
theorem dL_drafts_35 : decode cL_drafts 35 = .ok (.bipush 6, 2) := by decide +kernel
theorem dL_drafts_37 : decode cL_drafts 37 = .ok (.invokestatic 98, 3) := by decide +kernel
theorem dL_drafts_40 : decode cL_drafts 40 = .ok (.istore 8, 2) := by decide +kernel
theorem dL_drafts_42 : decode cL_drafts 42 = .ok (.iload_n 1, 1) := by decide +kernel
theorem dL_drafts_43 : decode cL_drafts 43 = .ok (.bipush 6, 2) := by decide +kernel
theorem dL_drafts_45 : decode cL_drafts 45 = .ok (.ishr, 1) := by decide +kernel
theorem dL_drafts_46 : decode cL_drafts 46 = .ok (.bipush 6, 2) := by decide +kernel
theorem dL_drafts_48 : decode cL_drafts 48 = .ok (.invokestatic 98, 3) := by decide +kernel
theorem dL_drafts_51 : decode cL_drafts 51 = .ok (.istore 9, 2) := by decide +kernel
theorem dL_drafts_53 : decode cL_drafts 53 = .ok (.iload_n 1, 1) := by decide +kernel
theorem dL_drafts_54 : decode cL_drafts 54 = .ok (.bipush 9, 2) := by decide +kernel
theorem dL_drafts_56 : decode cL_drafts 56 = .ok (.ishr, 1) := by decide +kernel
theorem dL_drafts_57 : decode cL_drafts 57 = .ok (.iconst 2, 1) := by decide +kernel
theorem dL_drafts_58 : decode cL_drafts 58 = .ok (.invokestatic 98, 3) := by decide +kernel
theorem dL_drafts_61 : decode cL_drafts 61 = .ok (.istore 10, 2) := by decide +kernel
theorem dL_drafts_63 : decode cL_drafts 63 = .ok (.iconst 1, 1) := by decide +kernel
theorem dL_drafts_64 : decode cL_drafts 64 = .ok (.iload_n 1, 1) := by decide +kernel
theorem dL_drafts_65 : decode cL_drafts 65 = .ok (.bipush 10, 2) := by decide +kernel
theorem dL_drafts_67 : decode cL_drafts 67 = .ok (.ishr, 1) := by decide +kernel
theorem dL_drafts_68 : decode cL_drafts 68 = .ok (.iconst 4, 1) := by decide +kernel
theorem dL_drafts_69 : decode cL_drafts 69 = .ok (.invokestatic 98, 3) := by decide +kernel
theorem dL_drafts_72 : decode cL_drafts 72 = .ok (.iconst 3, 1) := by decide +kernel
theorem dL_drafts_73 : decode cL_drafts 73 = .ok (.idiv, 1) := by decide +kernel
theorem dL_drafts_74 : decode cL_drafts 74 = .ok (.iadd, 1) := by decide +kernel
theorem dL_drafts_75 : decode cL_drafts 75 = .ok (.istore 11, 2) := by decide +kernel
theorem dL_drafts_77 : decode cL_drafts 77 = .ok (.iload 11, 2) := by decide +kernel
theorem dL_drafts_79 : decode cL_drafts 79 = .ok (.iconst 2, 1) := by decide +kernel
theorem dL_drafts_80 : decode cL_drafts 80 = .ok (.if_icmp .ne 7, 3) := by decide +kernel
theorem dL_drafts_83 : decode cL_drafts 83 = .ok (.iconst 3, 1) := by decide +kernel
theorem dL_drafts_84 : decode cL_drafts 84 = .ok (.goto 13, 3) := by decide +kernel
theorem dL_drafts_87 : decode cL_drafts 87 = .ok (.iconst 1, 1) := by decide +kernel
theorem dL_drafts_88 : decode cL_drafts 88 = .ok (.iload_n 1, 1) := by decide +kernel
theorem dL_drafts_89 : decode cL_drafts 89 = .ok (.bipush 12, 2) := by decide +kernel
theorem dL_drafts_91 : decode cL_drafts 91 = .ok (.ishr, 1) := by decide +kernel
theorem dL_drafts_92 : decode cL_drafts 92 = .ok (.iconst 4, 1) := by decide +kernel
theorem dL_drafts_93 : decode cL_drafts 93 = .ok (.invokestatic 98, 3) := by decide +kernel
theorem dL_drafts_96 : decode cL_drafts 96 = .ok (.iadd, 1) := by decide +kernel
theorem dL_drafts_97 : decode cL_drafts 97 = .ok (.istore 12, 2) := by decide +kernel
theorem dL_drafts_99 : decode cL_drafts 99 = .ok (.iload 8, 2) := by decide +kernel
theorem dL_drafts_101 : decode cL_drafts 101 = .ok (.iload 9, 2) := by decide +kernel
theorem dL_drafts_103 : decode cL_drafts 103 = .ok (.if_icmp .ne 5, 3) := by decide +kernel
theorem dL_drafts_106 : decode cL_drafts 106 = .ok (.iconst 1, 1) := by decide +kernel
theorem dL_drafts_107 : decode cL_drafts 107 = .ok (.ireturn, 1) := by decide +kernel
theorem dL_drafts_108 : decode cL_drafts 108 = .ok (.aload_n 2, 1) := by decide +kernel
theorem dL_drafts_109 : decode cL_drafts 109 = .ok (.bipush 16, 2) := by decide +kernel
theorem dL_drafts_111 : decode cL_drafts 111 = .ok (.iload 8, 2) := by decide +kernel
theorem dL_drafts_113 : decode cL_drafts 113 = .ok (.iadd, 1) := by decide +kernel
theorem dL_drafts_114 : decode cL_drafts 114 = .ok (.iaload, 1) := by decide +kernel
theorem dL_drafts_115 : decode cL_drafts 115 = .ok (.aload_n 2, 1) := by decide +kernel
theorem dL_drafts_116 : decode cL_drafts 116 = .ok (.bipush 16, 2) := by decide +kernel
theorem dL_drafts_118 : decode cL_drafts 118 = .ok (.iload 9, 2) := by decide +kernel
theorem dL_drafts_120 : decode cL_drafts 120 = .ok (.iadd, 1) := by decide +kernel
theorem dL_drafts_121 : decode cL_drafts 121 = .ok (.iaload, 1) := by decide +kernel
theorem dL_drafts_122 : decode cL_drafts 122 = .ok (.iadd, 1) := by decide +kernel
theorem dL_drafts_123 : decode cL_drafts 123 = .ok (.ifCond .ne 7, 3) := by decide +kernel
theorem dL_drafts_126 : decode cL_drafts 126 = .ok (.iconst 1, 1) := by decide +kernel
theorem dL_drafts_127 : decode cL_drafts 127 = .ok (.goto 4, 3) := by decide +kernel
theorem dL_drafts_130 : decode cL_drafts 130 = .ok (.iconst 0, 1) := by decide +kernel
theorem dL_drafts_131 : decode cL_drafts 131 = .ok (.istore 13, 2) := by decide +kernel
theorem dL_drafts_133 : decode cL_drafts 133 = .ok (.iload 13, 2) := by decide +kernel
theorem dL_drafts_135 : decode cL_drafts 135 = .ok (.ifCond .eq 8, 3) := by decide +kernel
theorem dL_drafts_138 : decode cL_drafts 138 = .ok (.iload 6, 2) := by decide +kernel
theorem dL_drafts_140 : decode cL_drafts 140 = .ok (.goto 6, 3) := by decide +kernel
theorem dL_drafts_143 : decode cL_drafts 143 = .ok (.sipush (-1003), 3) := by decide +kernel
theorem dL_drafts_146 : decode cL_drafts 146 = .ok (.istore 14, 2) := by decide +kernel
theorem dL_drafts_148 : decode cL_drafts 148 = .ok (.iload 7, 2) := by decide +kernel
theorem dL_drafts_150 : decode cL_drafts 150 = .ok (.iconst 3, 1) := by decide +kernel
theorem dL_drafts_151 : decode cL_drafts 151 = .ok (.if_icmp .ge 35, 3) := by decide +kernel
theorem dL_drafts_154 : decode cL_drafts 154 = .ok (.aload_n 0, 1) := by decide +kernel
theorem dL_drafts_155 : decode cL_drafts 155 = .ok (.iconst 0, 1) := by decide +kernel
theorem dL_drafts_156 : decode cL_drafts 156 = .ok (.iload 7, 2) := by decide +kernel
theorem dL_drafts_158 : decode cL_drafts 158 = .ok (.iload 8, 2) := by decide +kernel
theorem dL_drafts_160 : decode cL_drafts 160 = .ok (.iload 9, 2) := by decide +kernel
theorem dL_drafts_162 : decode cL_drafts 162 = .ok (.iload 10, 2) := by decide +kernel
theorem dL_drafts_164 : decode cL_drafts 164 = .ok (.iload 11, 2) := by decide +kernel
theorem dL_drafts_166 : decode cL_drafts 166 = .ok (.iload 12, 2) := by decide +kernel
theorem dL_drafts_168 : decode cL_drafts 168 = .ok (.invokestatic 101, 3) := by decide +kernel
theorem dL_drafts_171 : decode cL_drafts 171 = .ok (.iload 14, 2) := by decide +kernel
theorem dL_drafts_173 : decode cL_drafts 173 = .ok (.if_icmp .ne 7, 3) := by decide +kernel
theorem dL_drafts_176 : decode cL_drafts 176 = .ok (.iconst 1, 1) := by decide +kernel
theorem dL_drafts_177 : decode cL_drafts 177 = .ok (.goto 4, 3) := by decide +kernel
theorem dL_drafts_180 : decode cL_drafts 180 = .ok (.iconst 0, 1) := by decide +kernel
theorem dL_drafts_181 : decode cL_drafts 181 = .ok (.istore 15, 2) := by decide +kernel
theorem dL_drafts_183 : decode cL_drafts 183 = .ok (.goto 101, 3) := by decide +kernel
theorem dL_drafts_186 : decode cL_drafts 186 = .ok (.iload 7, 2) := by decide +kernel
theorem dL_drafts_188 : decode cL_drafts 188 = .ok (.iconst 3, 1) := by decide +kernel
theorem dL_drafts_189 : decode cL_drafts 189 = .ok (.if_icmp .ne 68, 3) := by decide +kernel
theorem dL_drafts_192 : decode cL_drafts 192 = .ok (.iload_n 1, 1) := by decide +kernel
theorem dL_drafts_193 : decode cL_drafts 193 = .ok (.bipush 9, 2) := by decide +kernel
theorem dL_drafts_195 : decode cL_drafts 195 = .ok (.ishr, 1) := by decide +kernel
theorem dL_drafts_196 : decode cL_drafts 196 = .ok (.iconst 3, 1) := by decide +kernel
theorem dL_drafts_197 : decode cL_drafts 197 = .ok (.invokestatic 98, 3) := by decide +kernel
theorem dL_drafts_200 : decode cL_drafts 200 = .ok (.iconst 1, 1) := by decide +kernel
theorem dL_drafts_201 : decode cL_drafts 201 = .ok (.isub, 1) := by decide +kernel
theorem dL_drafts_202 : decode cL_drafts 202 = .ok (.istore 10, 2) := by decide +kernel
theorem dL_drafts_204 : decode cL_drafts 204 = .ok (.iconst 1, 1) := by decide +kernel
theorem dL_drafts_205 : decode cL_drafts 205 = .ok (.iload_n 1, 1) := by decide +kernel
theorem dL_drafts_206 : decode cL_drafts 206 = .ok (.bipush 11, 2) := by decide +kernel
theorem dL_drafts_208 : decode cL_drafts 208 = .ok (.ishr, 1) := by decide +kernel
theorem dL_drafts_209 : decode cL_drafts 209 = .ok (.bipush 60, 2) := by decide +kernel
theorem dL_drafts_211 : decode cL_drafts 211 = .ok (.invokestatic 98, 3) := by decide +kernel
theorem dL_drafts_214 : decode cL_drafts 214 = .ok (.iadd, 1) := by decide +kernel
theorem dL_drafts_215 : decode cL_drafts 215 = .ok (.istore 11, 2) := by decide +kernel
theorem dL_drafts_217 : decode cL_drafts 217 = .ok (.iload_n 1, 1) := by decide +kernel
theorem dL_drafts_218 : decode cL_drafts 218 = .ok (.iconst 4, 1) := by decide +kernel
theorem dL_drafts_219 : decode cL_drafts 219 = .ok (.ishr, 1) := by decide +kernel
