theorem dX9_init_0 : decode cX9_init 0 = .ok (.aload_n 0, 1) := by decide +kernel
theorem dX9_init_1 : decode cX9_init 1 = .ok (.invokespecial 1, 3) := by decide +kernel
theorem dX9_init_4 : decode cX9_init 4 = .ok (.aload_n 0, 1) := by decide +kernel
theorem dX9_init_5 : decode cX9_init 5 = .ok (.bipush 12, 2) := by decide +kernel
theorem dX9_init_7 : decode cX9_init 7 = .ok (.newarray .int, 2) := by decide +kernel
theorem dX9_init_9 : decode cX9_init 9 = .ok (.putfield 7, 3) := by decide +kernel
theorem dX9_init_12 : decode cX9_init 12 = .ok (.aload_n 0, 1) := by decide +kernel
theorem dX9_init_13 : decode cX9_init 13 = .ok (.bipush 12, 2) := by decide +kernel
theorem dX9_init_15 : decode cX9_init 15 = .ok (.newarray .int, 2) := by decide +kernel
theorem dX9_init_17 : decode cX9_init 17 = .ok (.putfield 13, 3) := by decide +kernel
theorem dX9_init_20 : decode cX9_init 20 = .ok (.aload_n 0, 1) := by decide +kernel
theorem dX9_init_21 : decode cX9_init 21 = .ok (.bipush 12, 2) := by decide +kernel
theorem dX9_init_23 : decode cX9_init 23 = .ok (.newarray .boolean, 2) := by decide +kernel
theorem dX9_init_25 : decode cX9_init 25 = .ok (.putfield 16, 3) := by decide +kernel
theorem dX9_init_28 : decode cX9_init 28 = .ok (.aload_n 0, 1) := by decide +kernel
theorem dX9_init_29 : decode cX9_init 29 = .ok (.bipush 12, 2) := by decide +kernel
theorem dX9_init_31 : decode cX9_init 31 = .ok (.newarray .boolean, 2) := by decide +kernel
theorem dX9_init_33 : decode cX9_init 33 = .ok (.putfield 20, 3) := by decide +kernel
theorem dX9_init_36 : decode cX9_init 36 = .ok (.aload_n 0, 1) := by decide +kernel
theorem dX9_init_37 : decode cX9_init 37 = .ok (.bipush 24, 2) := by decide +kernel
theorem dX9_init_39 : decode cX9_init 39 = .ok (.newarray .int, 2) := by decide +kernel
theorem dX9_init_41 : decode cX9_init 41 = .ok (.putfield 23, 3) := by decide +kernel
theorem dX9_init_44 : decode cX9_init 44 = .ok (.aload_n 0, 1) := by decide +kernel
theorem dX9_init_45 : decode cX9_init 45 = .ok (.bipush 12, 2) := by decide +kernel
theorem dX9_init_47 : decode cX9_init 47 = .ok (.newarray .int, 2) := by decide +kernel
theorem dX9_init_49 : decode cX9_init 49 = .ok (.putfield 26, 3) := by decide +kernel
theorem dX9_init_52 : decode cX9_init 52 = .ok (.aload_n 0, 1) := by decide +kernel
theorem dX9_init_53 : decode cX9_init 53 = .ok (.bipush 12, 2) := by decide +kernel
theorem dX9_init_55 : decode cX9_init 55 = .ok (.newarray .int, 2) := by decide +kernel
theorem dX9_init_57 : decode cX9_init 57 = .ok (.putfield 29, 3) := by decide +kernel
theorem dX9_init_60 : decode cX9_init 60 = .ok (.aload_n 0, 1) := by decide +kernel
theorem dX9_init_61 : decode cX9_init 61 = .ok (.bipush 60, 2) := by decide +kernel
theorem dX9_init_63 : decode cX9_init 63 = .ok (.newarray .int, 2) := by decide +kernel
theorem dX9_init_65 : decode cX9_init 65 = .ok (.putfield 32, 3) := by decide +kernel
theorem dX9_init_68 : decode cX9_init 68 = .ok (.aload_n 0, 1) := by decide +kernel
theorem dX9_init_69 : decode cX9_init 69 = .ok (.bipush 60, 2) := by decide +kernel
theorem dX9_init_71 : decode cX9_init 71 = .ok (.newarray .int, 2) := by decide +kernel
theorem dX9_init_73 : decode cX9_init 73 = .ok (.putfield 35, 3) := by decide +kernel
theorem dX9_init_76 : decode cX9_init 76 = .ok (.aload_n 0, 1) := by decide +kernel
theorem dX9_init_77 : decode cX9_init 77 = .ok (.bipush 60, 2) := by decide +kernel
theorem dX9_init_79 : decode cX9_init 79 = .ok (.newarray .int, 2) := by decide +kernel
theorem dX9_init_81 : decode cX9_init 81 = .ok (.putfield 38, 3) := by decide +kernel
theorem dX9_init_84 : decode cX9_init 84 = .ok (.aload_n 0, 1) := by decide +kernel
theorem dX9_init_85 : decode cX9_init 85 = .ok (.bipush 60, 2) := by decide +kernel
theorem dX9_init_87 : decode cX9_init 87 = .ok (.newarray .int, 2) := by decide +kernel
theorem dX9_init_89 : decode cX9_init 89 = .ok (.putfield 41, 3) := by decide +kernel
theorem dX9_init_92 : decode cX9_init 92 = .ok (.aload_n 0, 1) := by decide +kernel
theorem dX9_init_93 : decode cX9_init 93 = .ok (.bipush 60, 2) := by decide +kernel
theorem dX9_init_95 : decode cX9_init 95 = .ok (.newarray .int, 2) := by decide +kernel
theorem dX9_init_97 : decode cX9_init 97 = .ok (.putfield 44, 3) := by decide +kernel
theorem dX9_init_100 : decode cX9_init 100 = .ok (.aload_n 0, 1) := by decide +kernel
theorem dX9_init_101 : decode cX9_init 101 = .ok (.bipush 60, 2) := by decide +kernel
theorem dX9_init_103 : decode cX9_init 103 = .ok (.newarray .int, 2) := by decide +kernel
theorem dX9_init_105 : decode cX9_init 105 = .ok (.putfield 47, 3) := by decide +kernel
theorem dX9_init_108 : decode cX9_init 108 = .ok (.aload_n 0, 1) := by decide +kernel
theorem dX9_init_109 : decode cX9_init 109 = .ok (.bipush 60, 2) := by decide +kernel
theorem dX9_init_111 : decode cX9_init 111 = .ok (.newarray .int, 2) := by decide +kernel
theorem dX9_init_113 : decode cX9_init 113 = .ok (.putfield 50, 3) := by decide +kernel
theorem dX9_init_116 : decode cX9_init 116 = .ok (.aload_n 0, 1) := by decide +kernel
theorem dX9_init_117 : decode cX9_init 117 = .ok (.bipush 60, 2) := by decide +kernel
theorem dX9_init_119 : decode cX9_init 119 = .ok (.newarray .boolean, 2) := by decide +kernel
theorem dX9_init_121 : decode cX9_init 121 = .ok (.putfield 53, 3) := by decide +kernel
theorem dX9_init_124 : decode cX9_init 124 = .ok (.aload_n 0, 1) := by decide +kernel
theorem dX9_init_125 : decode cX9_init 125 = .ok (.bipush 60, 2) := by decide +kernel
theorem dX9_init_127 : decode cX9_init 127 = .ok (.newarray .int, 2) := by decide +kernel
theorem dX9_init_129 : decode cX9_init 129 = .ok (.putfield 56, 3) := by decide +kernel
theorem dX9_init_132 : decode cX9_init 132 = .ok (.aload_n 0, 1) := by decide +kernel
theorem dX9_init_133 : decode cX9_init 133 = .ok (.bipush 60, 2) := by decide +kernel
theorem dX9_init_135 : decode cX9_init 135 = .ok (.newarray .int, 2) := by decide +kernel
theorem dX9_init_137 : decode cX9_init 137 = .ok (.putfield 59, 3) := by decide +kernel
theorem dX9_init_140 : decode cX9_init 140 = .ok (.aload_n 0, 1) := by decide +kernel
theorem dX9_init_141 : decode cX9_init 141 = .ok (.bipush 60, 2) := by decide +kernel
theorem dX9_init_143 : decode cX9_init 143 = .ok (.newarray .int, 2) := by decide +kernel
theorem dX9_init_145 : decode cX9_init 145 = .ok (.putfield 62, 3) := by decide +kernel
theorem dX9_init_148 : decode cX9_init 148 = .ok (.aload_n 0, 1) := by decide +kernel
theorem dX9_init_149 : decode cX9_init 149 = .ok (.bipush 60, 2) := by decide +kernel
theorem dX9_init_151 : decode cX9_init 151 = .ok (.newarray .int, 2) := by decide +kernel
theorem dX9_init_153 : decode cX9_init 153 = .ok (.putfield 65, 3) := by decide +kernel
theorem dX9_init_156 : decode cX9_init 156 = .ok (.aload_n 0, 1) := by decide +kernel
theorem dX9_init_157 : decode cX9_init 157 = .ok (.bipush 60, 2) := by decide +kernel
theorem dX9_init_159 : decode cX9_init 159 = .ok (.newarray .int, 2) := by decide +kernel
theorem dX9_init_161 : decode cX9_init 161 = .ok (.putfield 68, 3) := by decide +kernel
theorem dX9_init_164 : decode cX9_init 164 = .ok (.aload_n 0, 1) := by decide +kernel
theorem dX9_init_165 : decode cX9_init 165 = .ok (.bipush 60, 2) := by decide +kernel
theorem dX9_init_167 : decode cX9_init 167 = .ok (.newarray .int, 2) := by decide +kernel
theorem dX9_init_169 : decode cX9_init 169 = .ok (.putfield 71, 3) := by decide +kernel
theorem dX9_init_172 : decode cX9_init 172 = .ok (.aload_n 0, 1) := by decide +kernel
theorem dX9_init_173 : decode cX9_init 173 = .ok (.bipush 60, 2) := by decide +kernel
theorem dX9_init_175 : decode cX9_init 175 = .ok (.newarray .int, 2) := by decide +kernel
theorem dX9_init_177 : decode cX9_init 177 = .ok (.putfield 74, 3) := by decide +kernel
theorem dX9_init_180 : decode cX9_init 180 = .ok (.aload_n 0, 1) := by decide +kernel
theorem dX9_init_181 : decode cX9_init 181 = .ok (.bipush 60, 2) := by decide +kernel
theorem dX9_init_183 : decode cX9_init 183 = .ok (.newarray .boolean, 2) := by decide +kernel
theorem dX9_init_185 : decode cX9_init 185 = .ok (.putfield 77, 3) := by decide +kernel
theorem dX9_init_188 : decode cX9_init 188 = .ok (.aload_n 0, 1) := by decide +kernel
theorem dX9_init_189 : decode cX9_init 189 = .ok (.bipush 60, 2) := by decide +kernel
theorem dX9_init_191 : decode cX9_init 191 = .ok (.newarray .boolean, 2) := by decide +kernel
theorem dX9_init_193 : decode cX9_init 193 = .ok (.putfield 80, 3) := by decide +kernel
theorem dX9_init_196 : decode cX9_init 196 = .ok (.aload_n 0, 1) := by decide +kernel
theorem dX9_init_197 : decode cX9_init 197 = .ok (.sipush 240, 3) := by decide +kernel
theorem dX9_init_200 : decode cX9_init 200 = .ok (.newarray .int, 2) := by decide +kernel
theorem dX9_init_202 : decode cX9_init 202 = .ok (.putfield 83, 3) := by decide +kernel
theorem dX9_init_205 : decode cX9_init 205 = .ok (.aload_n 0, 1) := by decide +kernel
theorem dX9_init_206 : decode cX9_init 206 = .ok (.bipush 60, 2) := by decide +kernel
theorem dX9_init_208 : decode cX9_init 208 = .ok (.newarray .int, 2) := by decide +kernel
theorem dX9_init_210 : decode cX9_init 210 = .ok (.putfield 86, 3) := by decide +kernel
theorem dX9_init_213 : decode cX9_init 213 = .ok (.aload_n 0, 1) := by decide +kernel
theorem dX9_init_214 : decode cX9_init 214 = .ok (.bipush 8, 2) := by decide +kernel
theorem dX9_init_216 : decode cX9_init 216 = .ok (.newarray .int, 2) := by decide +kernel
theorem dX9_init_218 : decode cX9_init 218 = .ok (.putfield 89, 3) := by decide +kernel
theorem dX9_init_221 : decode cX9_init 221 = .ok (.aload_n 0, 1) := by decide +kernel
theorem dX9_init_222 : decode cX9_init 222 = .ok (.bipush 104, 2) := by decide +kernel
theorem dX9_init_224 : decode cX9_init 224 = .ok (.newarray .long, 2) := by decide +kernel
theorem dX9_init_226 : decode cX9_init 226 = .ok (.putfield 92, 3) := by decide +kernel
theorem dX9_init_229 : decode cX9_init 229 = .ok (.aload_n 0, 1) := by decide +kernel
theorem dX9_init_230 : decode cX9_init 230 = .ok (.bipush 104, 2) := by decide +kernel
theorem dX9_init_232 : decode cX9_init 232 = .ok (.newarray .long, 2) := by decide +kernel
theorem dX9_init_234 : decode cX9_init 234 = .ok (.putfield 96, 3) := by decide +kernel
theorem dX9_init_237 : decode cX9_init 237 = .ok (.aload_n 0, 1) := by decide +kernel
theorem dX9_init_238 : decode cX9_init 238 = .ok (.bipush 100, 2) := by decide +kernel
theorem dX9_init_240 : decode cX9_init 240 = .ok (.newarray .int, 2) := by decide +kernel
theorem dX9_init_242 : decode cX9_init 242 = .ok (.putfield 99, 3) := by decide +kernel
theorem dX9_init_245 : decode cX9_init 245 = .ok (.aload_n 0, 1) := by decide +kernel
theorem dX9_init_246 : decode cX9_init 246 = .ok (.bipush 100, 2) := by decide +kernel
theorem dX9_init_248 : decode cX9_init 248 = .ok (.newarray .int, 2) := by decide +kernel
theorem dX9_init_250 : decode cX9_init 250 = .ok (.putfield 102, 3) := by decide +kernel
theorem dX9_init_253 : decode cX9_init 253 = .ok (.aload_n 0, 1) := by decide +kernel
theorem dX9_init_254 : decode cX9_init 254 = .ok (.bipush 100, 2) := by decide +kernel
theorem dX9_init_256 : decode cX9_init 256 = .ok (.newarray .int, 2) := by decide +kernel
theorem dX9_init_258 : decode cX9_init 258 = .ok (.putfield 105, 3) := by decide +kernel
theorem dX9_init_261 : decode cX9_init 261 = .ok (.aload_n 0, 1) := by decide +kernel
theorem dX9_init_262 : decode cX9_init 262 = .ok (.bipush 100, 2) := by decide +kernel
theorem dX9_init_264 : decode cX9_init 264 = .ok (.newarray .int, 2) := by decide +kernel
theorem dX9_init_266 : decode cX9_init 266 = .ok (.putfield 108, 3) := by decide +kernel
theorem dX9_init_269 : decode cX9_init 269 = .ok (.aload_n 0, 1) := by decide +kernel
theorem dX9_init_270 : decode cX9_init 270 = .ok (.bipush 104, 2) := by decide +kernel
theorem dX9_init_272 : decode cX9_init 272 = .ok (.newarray .long, 2) := by decide +kernel
theorem dX9_init_274 : decode cX9_init 274 = .ok (.putfield 111, 3) := by decide +kernel
theorem dX9_init_277 : decode cX9_init 277 = .ok (.aload_n 0, 1) := by decide +kernel
theorem dX9_init_278 : decode cX9_init 278 = .ok (.bipush 104, 2) := by decide +kernel
theorem dX9_init_280 : decode cX9_init 280 = .ok (.newarray .long, 2) := by decide +kernel
theorem dX9_init_282 : decode cX9_init 282 = .ok (.putfield 114, 3) := by decide +kernel
theorem dX9_init_285 : decode cX9_init 285 = .ok (.return_, 1) := by decide +kernel
theorem dX9_thrown_0 : decode cX9_thrown 0 = .ok (.aload_n 0, 1) := by decide +kernel
theorem dX9_thrown_1 : decode cX9_thrown 1 = .ok (.getfield 117, 3) := by decide +kernel
theorem dX9_thrown_4 : decode cX9_thrown 4 = .ok (.ireturn, 1) := by decide +kernel
theorem dX9_in_0 : decode cX9_in 0 = .ok (.iload_n 0, 1) := by decide +kernel
theorem dX9_in_1 : decode cX9_in 1 = .ok (.iload_n 1, 1) := by decide +kernel
theorem dX9_in_2 : decode cX9_in 2 = .ok (.if_icmp .lt 12, 3) := by decide +kernel
theorem dX9_in_5 : decode cX9_in 5 = .ok (.iload_n 0, 1) := by decide +kernel
theorem dX9_in_6 : decode cX9_in 6 = .ok (.iload_n 2, 1) := by decide +kernel
theorem dX9_in_7 : decode cX9_in 7 = .ok (.if_icmp .gt 7, 3) := by decide +kernel
theorem dX9_in_10 : decode cX9_in 10 = .ok (.iconst 1, 1) := by decide +kernel
theorem dX9_in_11 : decode cX9_in 11 = .ok (.goto 4, 3) := by decide +kernel
theorem dX9_in_14 : decode cX9_in 14 = .ok (.iconst 0, 1) := by decide +kernel
theorem dX9_in_15 : decode cX9_in 15 = .ok (.ireturn, 1) := by decide +kernel
theorem dX9_isPerson_0 : decode cX9_isPerson 0 = .ok (.iload_n 1, 1) := by decide +kernel
theorem dX9_isPerson_1 : decode cX9_isPerson 1 = .ok (.iconst 0, 1) := by decide +kernel
theorem dX9_isPerson_2 : decode cX9_isPerson 2 = .ok (.aload_n 0, 1) := by decide +kernel
theorem dX9_isPerson_3 : decode cX9_isPerson 3 = .ok (.getfield 121, 3) := by decide +kernel
theorem dX9_isPerson_6 : decode cX9_isPerson 6 = .ok (.iconst 1, 1) := by decide +kernel
theorem dX9_isPerson_7 : decode cX9_isPerson 7 = .ok (.isub, 1) := by decide +kernel
theorem dX9_isPerson_8 : decode cX9_isPerson 8 = .ok (.invokestatic 124, 3) := by decide +kernel
theorem dX9_isPerson_11 : decode cX9_isPerson 11 = .ok (.ireturn, 1) := by decide +kernel
theorem dX9_isDeed_0 : decode cX9_isDeed 0 = .ok (.iload_n 1, 1) := by decide +kernel
theorem dX9_isDeed_1 : decode cX9_isDeed 1 = .ok (.iconst 0, 1) := by decide +kernel
theorem dX9_isDeed_2 : decode cX9_isDeed 2 = .ok (.aload_n 0, 1) := by decide +kernel
theorem dX9_isDeed_3 : decode cX9_isDeed 3 = .ok (.getfield 128, 3) := by decide +kernel
theorem dX9_isDeed_6 : decode cX9_isDeed 6 = .ok (.iconst 1, 1) := by decide +kernel
theorem dX9_isDeed_7 : decode cX9_isDeed 7 = .ok (.isub, 1) := by decide +kernel
theorem dX9_isDeed_8 : decode cX9_isDeed 8 = .ok (.invokestatic 124, 3) := by decide +kernel
theorem dX9_isDeed_11 : decode cX9_isDeed 11 = .ok (.ireturn, 1) := by decide +kernel
theorem dX9_isThing_0 : decode cX9_isThing 0 = .ok (.iload_n 1, 1) := by decide +kernel
theorem dX9_isThing_1 : decode cX9_isThing 1 = .ok (.iconst 0, 1) := by decide +kernel
theorem dX9_isThing_2 : decode cX9_isThing 2 = .ok (.aload_n 0, 1) := by decide +kernel
theorem dX9_isThing_3 : decode cX9_isThing 3 = .ok (.getfield 131, 3) := by decide +kernel
theorem dX9_isThing_6 : decode cX9_isThing 6 = .ok (.iconst 1, 1) := by decide +kernel
theorem dX9_isThing_7 : decode cX9_isThing 7 = .ok (.isub, 1) := by decide +kernel
theorem dX9_isThing_8 : decode cX9_isThing 8 = .ok (.invokestatic 124, 3) := by decide +kernel
theorem dX9_isThing_11 : decode cX9_isThing 11 = .ok (.ireturn, 1) := by decide +kernel
theorem dX9_person_0 : decode cX9_person 0 = .ok (.aload_n 0, 1) := by decide +kernel
theorem dX9_person_1 : decode cX9_person 1 = .ok (.iload_n 1, 1) := by decide +kernel
theorem dX9_person_2 : decode cX9_person 2 = .ok (.iconst 0, 1) := by decide +kernel
theorem dX9_person_3 : decode cX9_person 3 = .ok (.bipush 99, 2) := by decide +kernel
theorem dX9_person_5 : decode cX9_person 5 = .ok (.invokestatic 124, 3) := by decide +kernel
theorem dX9_person_8 : decode cX9_person 8 = .ok (.ifCond .ne 7, 3) := by decide +kernel
theorem dX9_person_11 : decode cX9_person 11 = .ok (.iconst 1, 1) := by decide +kernel
theorem dX9_person_12 : decode cX9_person 12 = .ok (.goto 17, 3) := by decide +kernel
theorem dX9_person_15 : decode cX9_person 15 = .ok (.aload_n 0, 1) := by decide +kernel
theorem dX9_person_16 : decode cX9_person 16 = .ok (.getfield 121, 3) := by decide +kernel
theorem dX9_person_19 : decode cX9_person 19 = .ok (.bipush 12, 2) := by decide +kernel
theorem dX9_person_21 : decode cX9_person 21 = .ok (.if_icmp .ne 7, 3) := by decide +kernel
theorem dX9_person_24 : decode cX9_person 24 = .ok (.iconst 2, 1) := by decide +kernel
theorem dX9_person_25 : decode cX9_person 25 = .ok (.goto 4, 3) := by decide +kernel
theorem dX9_person_28 : decode cX9_person 28 = .ok (.iconst 0, 1) := by decide +kernel
theorem dX9_person_29 : decode cX9_person 29 = .ok (.putfield 117, 3) := by decide +kernel
theorem dX9_person_32 : decode cX9_person 32 = .ok (.aload_n 0, 1) := by decide +kernel
theorem dX9_person_33 : decode cX9_person 33 = .ok (.getfield 117, 3) := by decide +kernel
theorem dX9_person_36 : decode cX9_person 36 = .ok (.ifCond .le 5, 3) := by decide +kernel
theorem dX9_person_39 : decode cX9_person 39 = .ok (.iconst 0, 1) := by decide +kernel
theorem dX9_person_40 : decode cX9_person 40 = .ok (.ireturn, 1) := by decide +kernel
theorem dX9_person_41 : decode cX9_person 41 = .ok (.aload_n 0, 1) := by decide +kernel
theorem dX9_person_42 : decode cX9_person 42 = .ok (.getfield 7, 3) := by decide +kernel
theorem dX9_person_45 : decode cX9_person 45 = .ok (.aload_n 0, 1) := by decide +kernel
theorem dX9_person_46 : decode cX9_person 46 = .ok (.getfield 121, 3) := by decide +kernel
theorem dX9_person_49 : decode cX9_person 49 = .ok (.iload_n 1, 1) := by decide +kernel
theorem dX9_person_50 : decode cX9_person 50 = .ok (.iastore, 1) := by decide +kernel
theorem dX9_person_51 : decode cX9_person 51 = .ok (.aload_n 0, 1) := by decide +kernel
theorem dX9_person_52 : decode cX9_person 52 = .ok (.getfield 13, 3) := by decide +kernel
theorem dX9_person_55 : decode cX9_person 55 = .ok (.aload_n 0, 1) := by decide +kernel
theorem dX9_person_56 : decode cX9_person 56 = .ok (.getfield 121, 3) := by decide +kernel
theorem dX9_person_59 : decode cX9_person 59 = .ok (.aload_n 0, 1) := by decide +kernel
theorem dX9_person_60 : decode cX9_person 60 = .ok (.getfield 134, 3) := by decide +kernel
theorem dX9_person_63 : decode cX9_person 63 = .ok (.iastore, 1) := by decide +kernel
theorem dX9_person_64 : decode cX9_person 64 = .ok (.aload_n 0, 1) := by decide +kernel
theorem dX9_person_65 : decode cX9_person 65 = .ok (.getfield 16, 3) := by decide +kernel
theorem dX9_person_68 : decode cX9_person 68 = .ok (.aload_n 0, 1) := by decide +kernel
theorem dX9_person_69 : decode cX9_person 69 = .ok (.getfield 121, 3) := by decide +kernel
theorem dX9_person_72 : decode cX9_person 72 = .ok (.iload_n 2, 1) := by decide +kernel
theorem dX9_person_73 : decode cX9_person 73 = .ok (.bastore, 1) := by decide +kernel
theorem dX9_person_74 : decode cX9_person 74 = .ok (.aload_n 0, 1) := by decide +kernel
theorem dX9_person_75 : decode cX9_person 75 = .ok (.getfield 29, 3) := by decide +kernel
theorem dX9_person_78 : decode cX9_person 78 = .ok (.aload_n 0, 1) := by decide +kernel
theorem dX9_person_79 : decode cX9_person 79 = .ok (.getfield 121, 3) := by decide +kernel
theorem dX9_person_82 : decode cX9_person 82 = .ok (.iconst (-1), 1) := by decide +kernel
theorem dX9_person_83 : decode cX9_person 83 = .ok (.iastore, 1) := by decide +kernel
theorem dX9_person_84 : decode cX9_person 84 = .ok (.aload_n 0, 1) := by decide +kernel
theorem dX9_person_85 : decode cX9_person 85 = .ok (.dup, 1) := by decide +kernel
theorem dX9_person_86 : decode cX9_person 86 = .ok (.getfield 121, 3) := by decide +kernel
theorem dX9_person_89 : decode cX9_person 89 = .ok (.iconst 1, 1) := by decide +kernel
theorem dX9_person_90 : decode cX9_person 90 = .ok (.iadd, 1) := by decide +kernel
theorem dX9_person_91 : decode cX9_person 91 = .ok (.putfield 121, 3) := by decide +kernel
theorem dX9_person_94 : decode cX9_person 94 = .ok (.aload_n 0, 1) := by decide +kernel
theorem dX9_person_95 : decode cX9_person 95 = .ok (.getfield 121, 3) := by decide +kernel
theorem dX9_person_98 : decode cX9_person 98 = .ok (.iconst 1, 1) := by decide +kernel
theorem dX9_person_99 : decode cX9_person 99 = .ok (.isub, 1) := by decide +kernel
theorem dX9_person_100 : decode cX9_person 100 = .ok (.ireturn, 1) := by decide +kernel
theorem dX9_isChild_0 : decode cX9_isChild 0 = .ok (.iconst 0, 1) := by decide +kernel
theorem dX9_isChild_1 : decode cX9_isChild 1 = .ok (.istore_n 3, 1) := by decide +kernel
theorem dX9_isChild_2 : decode cX9_isChild 2 = .ok (.iconst 0, 1) := by decide +kernel
theorem dX9_isChild_3 : decode cX9_isChild 3 = .ok (.istore 4, 2) := by decide +kernel
theorem dX9_isChild_5 : decode cX9_isChild 5 = .ok (.iload 4, 2) := by decide +kernel
theorem dX9_isChild_7 : decode cX9_isChild 7 = .ok (.aload_n 0, 1) := by decide +kernel
theorem dX9_isChild_8 : decode cX9_isChild 8 = .ok (.getfield 26, 3) := by decide +kernel
theorem dX9_isChild_11 : decode cX9_isChild 11 = .ok (.iload_n 1, 1) := by decide +kernel
theorem dX9_isChild_12 : decode cX9_isChild 12 = .ok (.iaload, 1) := by decide +kernel
theorem dX9_isChild_13 : decode cX9_isChild 13 = .ok (.if_icmp .ge 34, 3) := by decide +kernel
theorem dX9_isChild_16 : decode cX9_isChild 16 = .ok (.iload_n 3, 1) := by decide +kernel
theorem dX9_isChild_17 : decode cX9_isChild 17 = .ok (.ifCond .ne 18, 3) := by decide +kernel
theorem dX9_isChild_20 : decode cX9_isChild 20 = .ok (.aload_n 0, 1) := by decide +kernel
theorem dX9_isChild_21 : decode cX9_isChild 21 = .ok (.getfield 23, 3) := by decide +kernel
theorem dX9_isChild_24 : decode cX9_isChild 24 = .ok (.iconst 2, 1) := by decide +kernel
theorem dX9_isChild_25 : decode cX9_isChild 25 = .ok (.iload_n 1, 1) := by decide +kernel
theorem dX9_isChild_26 : decode cX9_isChild 26 = .ok (.imul, 1) := by decide +kernel
theorem dX9_isChild_27 : decode cX9_isChild 27 = .ok (.iload 4, 2) := by decide +kernel
theorem dX9_isChild_29 : decode cX9_isChild 29 = .ok (.iadd, 1) := by decide +kernel
theorem dX9_isChild_30 : decode cX9_isChild 30 = .ok (.iaload, 1) := by decide +kernel
theorem dX9_isChild_31 : decode cX9_isChild 31 = .ok (.iload_n 2, 1) := by decide +kernel
theorem dX9_isChild_32 : decode cX9_isChild 32 = .ok (.if_icmp .ne 7, 3) := by decide +kernel
theorem dX9_isChild_35 : decode cX9_isChild 35 = .ok (.iconst 1, 1) := by decide +kernel
theorem dX9_isChild_36 : decode cX9_isChild 36 = .ok (.goto 4, 3) := by decide +kernel
theorem dX9_isChild_39 : decode cX9_isChild 39 = .ok (.iconst 0, 1) := by decide +kernel
theorem dX9_isChild_40 : decode cX9_isChild 40 = .ok (.istore_n 3, 1) := by decide +kernel
theorem dX9_isChild_41 : decode cX9_isChild 41 = .ok (.iinc 4 1, 3) := by decide +kernel
theorem dX9_isChild_44 : decode cX9_isChild 44 = .ok (.goto (-39), 3) := by decide +kernel
theorem dX9_isChild_47 : decode cX9_isChild 47 = .ok (.iload_n 3, 1) := by decide +kernel
theorem dX9_isChild_48 : decode cX9_isChild 48 = .ok (.ireturn, 1) := by decide +kernel
theorem dX9_child_0 : decode cX9_child 0 = .ok (.aload_n 0, 1) := by decide +kernel
theorem dX9_child_1 : decode cX9_child 1 = .ok (.aload_n 0, 1) := by decide +kernel
theorem dX9_child_2 : decode cX9_child 2 = .ok (.iload_n 1, 1) := by decide +kernel
theorem dX9_child_3 : decode cX9_child 3 = .ok (.invokevirtual 137, 3) := by decide +kernel
theorem dX9_child_6 : decode cX9_child 6 = .ok (.ifCond .eq 11, 3) := by decide +kernel
theorem dX9_child_9 : decode cX9_child 9 = .ok (.aload_n 0, 1) := by decide +kernel
theorem dX9_child_10 : decode cX9_child 10 = .ok (.iload_n 2, 1) := by decide +kernel
theorem dX9_child_11 : decode cX9_child 11 = .ok (.invokevirtual 137, 3) := by decide +kernel
theorem dX9_child_14 : decode cX9_child 14 = .ok (.ifCond .ne 7, 3) := by decide +kernel
theorem dX9_child_17 : decode cX9_child 17 = .ok (.iconst 1, 1) := by decide +kernel
theorem dX9_child_18 : decode cX9_child 18 = .ok (.goto 54, 3) := by decide +kernel
theorem dX9_child_21 : decode cX9_child 21 = .ok (.iload_n 2, 1) := by decide +kernel
theorem dX9_child_22 : decode cX9_child 22 = .ok (.iload_n 1, 1) := by decide +kernel
theorem dX9_child_23 : decode cX9_child 23 = .ok (.if_icmp .gt 7, 3) := by decide +kernel
theorem dX9_child_26 : decode cX9_child 26 = .ok (.iconst 2, 1) := by decide +kernel
theorem dX9_child_27 : decode cX9_child 27 = .ok (.goto 45, 3) := by decide +kernel
theorem dX9_child_30 : decode cX9_child 30 = .ok (.aload_n 0, 1) := by decide +kernel
theorem dX9_child_31 : decode cX9_child 31 = .ok (.getfield 26, 3) := by decide +kernel
theorem dX9_child_34 : decode cX9_child 34 = .ok (.iload_n 2, 1) := by decide +kernel
theorem dX9_child_35 : decode cX9_child 35 = .ok (.iaload, 1) := by decide +kernel
theorem dX9_child_36 : decode cX9_child 36 = .ok (.iconst 2, 1) := by decide +kernel
theorem dX9_child_37 : decode cX9_child 37 = .ok (.if_icmp .eq 30, 3) := by decide +kernel
theorem dX9_child_40 : decode cX9_child 40 = .ok (.aload_n 0, 1) := by decide +kernel
theorem dX9_child_41 : decode cX9_child 41 = .ok (.iload_n 2, 1) := by decide +kernel
theorem dX9_child_42 : decode cX9_child 42 = .ok (.iload_n 1, 1) := by decide +kernel
theorem dX9_child_43 : decode cX9_child 43 = .ok (.invokevirtual 141, 3) := by decide +kernel
theorem dX9_child_46 : decode cX9_child 46 = .ok (.ifCond .ne 21, 3) := by decide +kernel
theorem dX9_child_49 : decode cX9_child 49 = .ok (.aload_n 0, 1) := by decide +kernel
theorem dX9_child_50 : decode cX9_child 50 = .ok (.getfield 20, 3) := by decide +kernel
theorem dX9_child_53 : decode cX9_child 53 = .ok (.iload_n 2, 1) := by decide +kernel
theorem dX9_child_54 : decode cX9_child 54 = .ok (.baload, 1) := by decide +kernel
theorem dX9_child_55 : decode cX9_child 55 = .ok (.ifCond .ne 12, 3) := by decide +kernel
theorem dX9_child_58 : decode cX9_child 58 = .ok (.aload_n 0, 1) := by decide +kernel
theorem dX9_child_59 : decode cX9_child 59 = .ok (.getfield 20, 3) := by decide +kernel
theorem dX9_child_62 : decode cX9_child 62 = .ok (.iload_n 1, 1) := by decide +kernel
theorem dX9_child_63 : decode cX9_child 63 = .ok (.baload, 1) := by decide +kernel
theorem dX9_child_64 : decode cX9_child 64 = .ok (.ifCond .eq 7, 3) := by decide +kernel
theorem dX9_child_67 : decode cX9_child 67 = .ok (.iconst 3, 1) := by decide +kernel
theorem dX9_child_68 : decode cX9_child 68 = .ok (.goto 4, 3) := by decide +kernel
theorem dX9_child_71 : decode cX9_child 71 = .ok (.iconst 0, 1) := by decide +kernel
theorem dX9_child_72 : decode cX9_child 72 = .ok (.putfield 117, 3) := by decide +kernel
theorem dX9_child_75 : decode cX9_child 75 = .ok (.aload_n 0, 1) := by decide +kernel
theorem dX9_child_76 : decode cX9_child 76 = .ok (.getfield 117, 3) := by decide +kernel
theorem dX9_child_79 : decode cX9_child 79 = .ok (.ifCond .le 5, 3) := by decide +kernel
theorem dX9_child_82 : decode cX9_child 82 = .ok (.iconst 0, 1) := by decide +kernel
theorem dX9_child_83 : decode cX9_child 83 = .ok (.ireturn, 1) := by decide +kernel
theorem dX9_child_84 : decode cX9_child 84 = .ok (.aload_n 0, 1) := by decide +kernel
theorem dX9_child_85 : decode cX9_child 85 = .ok (.getfield 23, 3) := by decide +kernel
theorem dX9_child_88 : decode cX9_child 88 = .ok (.iconst 2, 1) := by decide +kernel
theorem dX9_child_89 : decode cX9_child 89 = .ok (.iload_n 2, 1) := by decide +kernel
theorem dX9_child_90 : decode cX9_child 90 = .ok (.imul, 1) := by decide +kernel
theorem dX9_child_91 : decode cX9_child 91 = .ok (.aload_n 0, 1) := by decide +kernel
theorem dX9_child_92 : decode cX9_child 92 = .ok (.getfield 26, 3) := by decide +kernel
theorem dX9_child_95 : decode cX9_child 95 = .ok (.iload_n 2, 1) := by decide +kernel
theorem dX9_child_96 : decode cX9_child 96 = .ok (.iaload, 1) := by decide +kernel
theorem dX9_child_97 : decode cX9_child 97 = .ok (.iadd, 1) := by decide +kernel
theorem dX9_child_98 : decode cX9_child 98 = .ok (.iload_n 1, 1) := by decide +kernel
theorem dX9_child_99 : decode cX9_child 99 = .ok (.iastore, 1) := by decide +kernel
theorem dX9_child_100 : decode cX9_child 100 = .ok (.aload_n 0, 1) := by decide +kernel
theorem dX9_child_101 : decode cX9_child 101 = .ok (.getfield 26, 3) := by decide +kernel
theorem dX9_child_104 : decode cX9_child 104 = .ok (.iload_n 2, 1) := by decide +kernel
theorem dX9_child_105 : decode cX9_child 105 = .ok (.dup2, 1) := by decide +kernel
theorem dX9_child_106 : decode cX9_child 106 = .ok (.iaload, 1) := by decide +kernel
theorem dX9_child_107 : decode cX9_child 107 = .ok (.iconst 1, 1) := by decide +kernel
theorem dX9_child_108 : decode cX9_child 108 = .ok (.iadd, 1) := by decide +kernel
theorem dX9_child_109 : decode cX9_child 109 = .ok (.iastore, 1) := by decide +kernel
theorem dX9_child_110 : decode cX9_child 110 = .ok (.aload_n 0, 1) := by decide +kernel
theorem dX9_child_111 : decode cX9_child 111 = .ok (.getfield 26, 3) := by decide +kernel
theorem dX9_child_114 : decode cX9_child 114 = .ok (.iload_n 2, 1) := by decide +kernel
theorem dX9_child_115 : decode cX9_child 115 = .ok (.iaload, 1) := by decide +kernel
theorem dX9_child_116 : decode cX9_child 116 = .ok (.ireturn, 1) := by decide +kernel
theorem dX9_guard_0 : decode cX9_guard 0 = .ok (.aload_n 0, 1) := by decide +kernel
theorem dX9_guard_1 : decode cX9_guard 1 = .ok (.aload_n 0, 1) := by decide +kernel
theorem dX9_guard_2 : decode cX9_guard 2 = .ok (.iload_n 1, 1) := by decide +kernel
theorem dX9_guard_3 : decode cX9_guard 3 = .ok (.invokevirtual 137, 3) := by decide +kernel
theorem dX9_guard_6 : decode cX9_guard 6 = .ok (.ifCond .eq 16, 3) := by decide +kernel
theorem dX9_guard_9 : decode cX9_guard 9 = .ok (.iload_n 2, 1) := by decide +kernel
theorem dX9_guard_10 : decode cX9_guard 10 = .ok (.iconst (-1), 1) := by decide +kernel
theorem dX9_guard_11 : decode cX9_guard 11 = .ok (.if_icmp .eq 15, 3) := by decide +kernel
theorem dX9_guard_14 : decode cX9_guard 14 = .ok (.aload_n 0, 1) := by decide +kernel
theorem dX9_guard_15 : decode cX9_guard 15 = .ok (.iload_n 2, 1) := by decide +kernel
theorem dX9_guard_16 : decode cX9_guard 16 = .ok (.invokevirtual 137, 3) := by decide +kernel
theorem dX9_guard_19 : decode cX9_guard 19 = .ok (.ifCond .ne 7, 3) := by decide +kernel
theorem dX9_guard_22 : decode cX9_guard 22 = .ok (.iconst 1, 1) := by decide +kernel
theorem dX9_guard_23 : decode cX9_guard 23 = .ok (.goto 40, 3) := by decide +kernel
theorem dX9_guard_26 : decode cX9_guard 26 = .ok (.iload_n 1, 1) := by decide +kernel
theorem dX9_guard_27 : decode cX9_guard 27 = .ok (.iload_n 2, 1) := by decide +kernel
theorem dX9_guard_28 : decode cX9_guard 28 = .ok (.if_icmp .ne 7, 3) := by decide +kernel
theorem dX9_guard_31 : decode cX9_guard 31 = .ok (.iconst 2, 1) := by decide +kernel
theorem dX9_guard_32 : decode cX9_guard 32 = .ok (.goto 31, 3) := by decide +kernel
theorem dX9_guard_35 : decode cX9_guard 35 = .ok (.aload_n 0, 1) := by decide +kernel
theorem dX9_guard_36 : decode cX9_guard 36 = .ok (.getfield 20, 3) := by decide +kernel
theorem dX9_guard_39 : decode cX9_guard 39 = .ok (.iload_n 1, 1) := by decide +kernel
theorem dX9_guard_40 : decode cX9_guard 40 = .ok (.baload, 1) := by decide +kernel
theorem dX9_guard_41 : decode cX9_guard 41 = .ok (.ifCond .ne 17, 3) := by decide +kernel
theorem dX9_guard_44 : decode cX9_guard 44 = .ok (.iload_n 2, 1) := by decide +kernel
theorem dX9_guard_45 : decode cX9_guard 45 = .ok (.iconst (-1), 1) := by decide +kernel
theorem dX9_guard_46 : decode cX9_guard 46 = .ok (.if_icmp .eq 16, 3) := by decide +kernel
theorem dX9_guard_49 : decode cX9_guard 49 = .ok (.aload_n 0, 1) := by decide +kernel
theorem dX9_guard_50 : decode cX9_guard 50 = .ok (.getfield 20, 3) := by decide +kernel
theorem dX9_guard_53 : decode cX9_guard 53 = .ok (.iload_n 2, 1) := by decide +kernel
theorem dX9_guard_54 : decode cX9_guard 54 = .ok (.baload, 1) := by decide +kernel
theorem dX9_guard_55 : decode cX9_guard 55 = .ok (.ifCond .eq 7, 3) := by decide +kernel
theorem dX9_guard_58 : decode cX9_guard 58 = .ok (.iconst 3, 1) := by decide +kernel
theorem dX9_guard_59 : decode cX9_guard 59 = .ok (.goto 4, 3) := by decide +kernel
theorem dX9_guard_62 : decode cX9_guard 62 = .ok (.iconst 0, 1) := by decide +kernel
theorem dX9_guard_63 : decode cX9_guard 63 = .ok (.putfield 117, 3) := by decide +kernel
theorem dX9_guard_66 : decode cX9_guard 66 = .ok (.aload_n 0, 1) := by decide +kernel
theorem dX9_guard_67 : decode cX9_guard 67 = .ok (.getfield 117, 3) := by decide +kernel
theorem dX9_guard_70 : decode cX9_guard 70 = .ok (.ifCond .le 5, 3) := by decide +kernel
theorem dX9_guard_73 : decode cX9_guard 73 = .ok (.iconst 0, 1) := by decide +kernel
theorem dX9_guard_74 : decode cX9_guard 74 = .ok (.ireturn, 1) := by decide +kernel
theorem dX9_guard_75 : decode cX9_guard 75 = .ok (.aload_n 0, 1) := by decide +kernel
theorem dX9_guard_76 : decode cX9_guard 76 = .ok (.getfield 29, 3) := by decide +kernel
theorem dX9_guard_79 : decode cX9_guard 79 = .ok (.iload_n 1, 1) := by decide +kernel
theorem dX9_guard_80 : decode cX9_guard 80 = .ok (.iaload, 1) := by decide +kernel
theorem dX9_guard_81 : decode cX9_guard 81 = .ok (.istore_n 3, 1) := by decide +kernel
theorem dX9_guard_82 : decode cX9_guard 82 = .ok (.aload_n 0, 1) := by decide +kernel
theorem dX9_guard_83 : decode cX9_guard 83 = .ok (.getfield 29, 3) := by decide +kernel
theorem dX9_guard_86 : decode cX9_guard 86 = .ok (.iload_n 1, 1) := by decide +kernel
theorem dX9_guard_87 : decode cX9_guard 87 = .ok (.iload_n 2, 1) := by decide +kernel
theorem dX9_guard_88 : decode cX9_guard 88 = .ok (.iastore, 1) := by decide +kernel
theorem dX9_guard_89 : decode cX9_guard 89 = .ok (.iload_n 3, 1) := by decide +kernel
theorem dX9_guard_90 : decode cX9_guard 90 = .ok (.ireturn, 1) := by decide +kernel
theorem dX9_thing_0 : decode cX9_thing 0 = .ok (.aload_n 0, 1) := by decide +kernel
theorem dX9_thing_1 : decode cX9_thing 1 = .ok (.aload_n 0, 1) := by decide +kernel
theorem dX9_thing_2 : decode cX9_thing 2 = .ok (.iload_n 1, 1) := by decide +kernel
theorem dX9_thing_3 : decode cX9_thing 3 = .ok (.invokevirtual 137, 3) := by decide +kernel
theorem dX9_thing_6 : decode cX9_thing 6 = .ok (.ifCond .ne 7, 3) := by decide +kernel
theorem dX9_thing_9 : decode cX9_thing 9 = .ok (.iconst 1, 1) := by decide +kernel
theorem dX9_thing_10 : decode cX9_thing 10 = .ok (.goto 40, 3) := by decide +kernel
theorem dX9_thing_13 : decode cX9_thing 13 = .ok (.iload_n 2, 1) := by decide +kernel
theorem dX9_thing_14 : decode cX9_thing 14 = .ok (.iconst 1, 1) := by decide +kernel
theorem dX9_thing_15 : decode cX9_thing 15 = .ok (.ldc 145, 2) := by decide +kernel
theorem dX9_thing_17 : decode cX9_thing 17 = .ok (.invokestatic 124, 3) := by decide +kernel
theorem dX9_thing_20 : decode cX9_thing 20 = .ok (.ifCond .ne 7, 3) := by decide +kernel
theorem dX9_thing_23 : decode cX9_thing 23 = .ok (.iconst 2, 1) := by decide +kernel
theorem dX9_thing_24 : decode cX9_thing 24 = .ok (.goto 26, 3) := by decide +kernel
theorem dX9_thing_27 : decode cX9_thing 27 = .ok (.aload_n 0, 1) := by decide +kernel
theorem dX9_thing_28 : decode cX9_thing 28 = .ok (.getfield 131, 3) := by decide +kernel
theorem dX9_thing_31 : decode cX9_thing 31 = .ok (.bipush 8, 2) := by decide +kernel
theorem dX9_thing_33 : decode cX9_thing 33 = .ok (.if_icmp .eq 12, 3) := by decide +kernel
theorem dX9_thing_36 : decode cX9_thing 36 = .ok (.aload_n 0, 1) := by decide +kernel
theorem dX9_thing_37 : decode cX9_thing 37 = .ok (.getfield 20, 3) := by decide +kernel
theorem dX9_thing_40 : decode cX9_thing 40 = .ok (.iload_n 1, 1) := by decide +kernel
theorem dX9_thing_41 : decode cX9_thing 41 = .ok (.baload, 1) := by decide +kernel
theorem dX9_thing_42 : decode cX9_thing 42 = .ok (.ifCond .eq 7, 3) := by decide +kernel
theorem dX9_thing_45 : decode cX9_thing 45 = .ok (.iconst 3, 1) := by decide +kernel
theorem dX9_thing_46 : decode cX9_thing 46 = .ok (.goto 4, 3) := by decide +kernel
theorem dX9_thing_49 : decode cX9_thing 49 = .ok (.iconst 0, 1) := by decide +kernel
theorem dX9_thing_50 : decode cX9_thing 50 = .ok (.putfield 117, 3) := by decide +kernel
theorem dX9_thing_53 : decode cX9_thing 53 = .ok (.aload_n 0, 1) := by decide +kernel
theorem dX9_thing_54 : decode cX9_thing 54 = .ok (.getfield 117, 3) := by decide +kernel
theorem dX9_thing_57 : decode cX9_thing 57 = .ok (.ifCond .le 5, 3) := by decide +kernel
theorem dX9_thing_60 : decode cX9_thing 60 = .ok (.iconst 0, 1) := by decide +kernel
theorem dX9_thing_61 : decode cX9_thing 61 = .ok (.ireturn, 1) := by decide +kernel
theorem dX9_thing_62 : decode cX9_thing 62 = .ok (.aload_n 0, 1) := by decide +kernel
theorem dX9_thing_63 : decode cX9_thing 63 = .ok (.getfield 89, 3) := by decide +kernel
theorem dX9_thing_66 : decode cX9_thing 66 = .ok (.aload_n 0, 1) := by decide +kernel
theorem dX9_thing_67 : decode cX9_thing 67 = .ok (.getfield 131, 3) := by decide +kernel
theorem dX9_thing_70 : decode cX9_thing 70 = .ok (.iload_n 2, 1) := by decide +kernel
theorem dX9_thing_71 : decode cX9_thing 71 = .ok (.iastore, 1) := by decide +kernel
theorem dX9_thing_72 : decode cX9_thing 72 = .ok (.iconst 0, 1) := by decide +kernel
theorem dX9_thing_73 : decode cX9_thing 73 = .ok (.istore_n 3, 1) := by decide +kernel
theorem dX9_thing_74 : decode cX9_thing 74 = .ok (.iload_n 3, 1) := by decide +kernel
theorem dX9_thing_75 : decode cX9_thing 75 = .ok (.bipush 13, 2) := by decide +kernel
theorem dX9_thing_77 : decode cX9_thing 77 = .ok (.if_icmp .ge 48, 3) := by decide +kernel
theorem dX9_thing_80 : decode cX9_thing 80 = .ok (.aload_n 0, 1) := by decide +kernel
theorem dX9_thing_81 : decode cX9_thing 81 = .ok (.getfield 92, 3) := by decide +kernel
theorem dX9_thing_84 : decode cX9_thing 84 = .ok (.bipush 13, 2) := by decide +kernel
theorem dX9_thing_86 : decode cX9_thing 86 = .ok (.aload_n 0, 1) := by decide +kernel
theorem dX9_thing_87 : decode cX9_thing 87 = .ok (.getfield 131, 3) := by decide +kernel
theorem dX9_thing_90 : decode cX9_thing 90 = .ok (.imul, 1) := by decide +kernel
theorem dX9_thing_91 : decode cX9_thing 91 = .ok (.iload_n 3, 1) := by decide +kernel
theorem dX9_thing_92 : decode cX9_thing 92 = .ok (.iadd, 1) := by decide +kernel
theorem dX9_thing_93 : decode cX9_thing 93 = .ok (.iload_n 3, 1) := by decide +kernel
theorem dX9_thing_94 : decode cX9_thing 94 = .ok (.iload_n 1, 1) := by decide +kernel
theorem dX9_thing_95 : decode cX9_thing 95 = .ok (.if_icmp .ne 7, 3) := by decide +kernel
theorem dX9_thing_98 : decode cX9_thing 98 = .ok (.lconst 1, 1) := by decide +kernel
theorem dX9_thing_99 : decode cX9_thing 99 = .ok (.goto 4, 3) := by decide +kernel
theorem dX9_thing_102 : decode cX9_thing 102 = .ok (.lconst 0, 1) := by decide +kernel
theorem dX9_thing_103 : decode cX9_thing 103 = .ok (.lastore, 1) := by decide +kernel
theorem dX9_thing_104 : decode cX9_thing 104 = .ok (.aload_n 0, 1) := by decide +kernel
theorem dX9_thing_105 : decode cX9_thing 105 = .ok (.getfield 96, 3) := by decide +kernel
theorem dX9_thing_108 : decode cX9_thing 108 = .ok (.bipush 13, 2) := by decide +kernel
theorem dX9_thing_110 : decode cX9_thing 110 = .ok (.aload_n 0, 1) := by decide +kernel
theorem dX9_thing_111 : decode cX9_thing 111 = .ok (.getfield 131, 3) := by decide +kernel
theorem dX9_thing_114 : decode cX9_thing 114 = .ok (.imul, 1) := by decide +kernel
theorem dX9_thing_115 : decode cX9_thing 115 = .ok (.iload_n 3, 1) := by decide +kernel
theorem dX9_thing_116 : decode cX9_thing 116 = .ok (.iadd, 1) := by decide +kernel
theorem dX9_thing_117 : decode cX9_thing 117 = .ok (.lconst 1, 1) := by decide +kernel
theorem dX9_thing_118 : decode cX9_thing 118 = .ok (.lastore, 1) := by decide +kernel
theorem dX9_thing_119 : decode cX9_thing 119 = .ok (.iinc 3 1, 3) := by decide +kernel
theorem dX9_thing_122 : decode cX9_thing 122 = .ok (.goto (-48), 3) := by decide +kernel
theorem dX9_thing_125 : decode cX9_thing 125 = .ok (.aload_n 0, 1) := by decide +kernel
theorem dX9_thing_126 : decode cX9_thing 126 = .ok (.dup, 1) := by decide +kernel
theorem dX9_thing_127 : decode cX9_thing 127 = .ok (.getfield 131, 3) := by decide +kernel
theorem dX9_thing_130 : decode cX9_thing 130 = .ok (.iconst 1, 1) := by decide +kernel
theorem dX9_thing_131 : decode cX9_thing 131 = .ok (.iadd, 1) := by decide +kernel
theorem dX9_thing_132 : decode cX9_thing 132 = .ok (.putfield 131, 3) := by decide +kernel
theorem dX9_thing_135 : decode cX9_thing 135 = .ok (.aload_n 0, 1) := by decide +kernel
theorem dX9_thing_136 : decode cX9_thing 136 = .ok (.getfield 131, 3) := by decide +kernel
theorem dX9_thing_139 : decode cX9_thing 139 = .ok (.iconst 1, 1) := by decide +kernel
theorem dX9_thing_140 : decode cX9_thing 140 = .ok (.isub, 1) := by decide +kernel
theorem dX9_thing_141 : decode cX9_thing 141 = .ok (.ireturn, 1) := by decide +kernel
theorem dX9_able_0 : decode cX9_able 0 = .ok (.aload_n 0, 1) := by decide +kernel
theorem dX9_able_1 : decode cX9_able 1 = .ok (.getfield 20, 3) := by decide +kernel
theorem dX9_able_4 : decode cX9_able 4 = .ok (.iload_n 1, 1) := by decide +kernel
theorem dX9_able_5 : decode cX9_able 5 = .ok (.baload, 1) := by decide +kernel
theorem dX9_able_6 : decode cX9_able 6 = .ok (.ifCond .ne 44, 3) := by decide +kernel
theorem dX9_able_9 : decode cX9_able 9 = .ok (.aload_n 0, 1) := by decide +kernel
theorem dX9_able_10 : decode cX9_able 10 = .ok (.getfield 29, 3) := by decide +kernel
theorem dX9_able_13 : decode cX9_able 13 = .ok (.iload_n 1, 1) := by decide +kernel
theorem dX9_able_14 : decode cX9_able 14 = .ok (.iaload, 1) := by decide +kernel
theorem dX9_able_15 : decode cX9_able 15 = .ok (.iconst (-1), 1) := by decide +kernel
theorem dX9_able_16 : decode cX9_able 16 = .ok (.if_icmp .ne 34, 3) := by decide +kernel
theorem dX9_able_19 : decode cX9_able 19 = .ok (.aload_n 0, 1) := by decide +kernel
theorem dX9_able_20 : decode cX9_able 20 = .ok (.getfield 7, 3) := by decide +kernel
theorem dX9_able_23 : decode cX9_able 23 = .ok (.iload_n 1, 1) := by decide +kernel
theorem dX9_able_24 : decode cX9_able 24 = .ok (.iaload, 1) := by decide +kernel
theorem dX9_able_25 : decode cX9_able 25 = .ok (.aload_n 0, 1) := by decide +kernel
theorem dX9_able_26 : decode cX9_able 26 = .ok (.getfield 134, 3) := by decide +kernel
theorem dX9_able_29 : decode cX9_able 29 = .ok (.aload_n 0, 1) := by decide +kernel
theorem dX9_able_30 : decode cX9_able 30 = .ok (.getfield 13, 3) := by decide +kernel
theorem dX9_able_33 : decode cX9_able 33 = .ok (.iload_n 1, 1) := by decide +kernel
theorem dX9_able_34 : decode cX9_able 34 = .ok (.iaload, 1) := by decide +kernel
theorem dX9_able_35 : decode cX9_able 35 = .ok (.isub, 1) := by decide +kernel
theorem dX9_able_36 : decode cX9_able 36 = .ok (.sipush 360, 3) := by decide +kernel
theorem dX9_able_39 : decode cX9_able 39 = .ok (.idiv, 1) := by decide +kernel
theorem dX9_able_40 : decode cX9_able 40 = .ok (.iadd, 1) := by decide +kernel
theorem dX9_able_41 : decode cX9_able 41 = .ok (.bipush 18, 2) := by decide +kernel
theorem dX9_able_43 : decode cX9_able 43 = .ok (.if_icmp .lt 7, 3) := by decide +kernel
theorem dX9_able_46 : decode cX9_able 46 = .ok (.iconst 1, 1) := by decide +kernel
theorem dX9_able_47 : decode cX9_able 47 = .ok (.goto 4, 3) := by decide +kernel
theorem dX9_able_50 : decode cX9_able 50 = .ok (.iconst 0, 1) := by decide +kernel
theorem dX9_able_51 : decode cX9_able 51 = .ok (.ireturn, 1) := by decide +kernel
theorem dX9_isAble_0 : decode cX9_isAble 0 = .ok (.aload_n 0, 1) := by decide +kernel
theorem dX9_isAble_1 : decode cX9_isAble 1 = .ok (.aload_n 0, 1) := by decide +kernel
theorem dX9_isAble_2 : decode cX9_isAble 2 = .ok (.iload_n 1, 1) := by decide +kernel
theorem dX9_isAble_3 : decode cX9_isAble 3 = .ok (.invokevirtual 137, 3) := by decide +kernel
theorem dX9_isAble_6 : decode cX9_isAble 6 = .ok (.ifCond .eq 7, 3) := by decide +kernel
theorem dX9_isAble_9 : decode cX9_isAble 9 = .ok (.iconst 0, 1) := by decide +kernel
theorem dX9_isAble_10 : decode cX9_isAble 10 = .ok (.goto 4, 3) := by decide +kernel
theorem dX9_isAble_13 : decode cX9_isAble 13 = .ok (.iconst 1, 1) := by decide +kernel
theorem dX9_isAble_14 : decode cX9_isAble 14 = .ok (.putfield 117, 3) := by decide +kernel
theorem dX9_isAble_17 : decode cX9_isAble 17 = .ok (.aload_n 0, 1) := by decide +kernel
theorem dX9_isAble_18 : decode cX9_isAble 18 = .ok (.getfield 117, 3) := by decide +kernel
theorem dX9_isAble_21 : decode cX9_isAble 21 = .ok (.ifCond .ne 15, 3) := by decide +kernel
theorem dX9_isAble_24 : decode cX9_isAble 24 = .ok (.aload_n 0, 1) := by decide +kernel
theorem dX9_isAble_25 : decode cX9_isAble 25 = .ok (.iload_n 1, 1) := by decide +kernel
theorem dX9_isAble_26 : decode cX9_isAble 26 = .ok (.invokevirtual 146, 3) := by decide +kernel
theorem dX9_isAble_29 : decode cX9_isAble 29 = .ok (.ifCond .eq 7, 3) := by decide +kernel
theorem dX9_isAble_32 : decode cX9_isAble 32 = .ok (.iconst 1, 1) := by decide +kernel
theorem dX9_isAble_33 : decode cX9_isAble 33 = .ok (.goto 4, 3) := by decide +kernel
theorem dX9_isAble_36 : decode cX9_isAble 36 = .ok (.iconst 0, 1) := by decide +kernel
theorem dX9_isAble_37 : decode cX9_isAble 37 = .ok (.ireturn, 1) := by decide +kernel
theorem dX9_drafts_0 : decode cX9_drafts 0 = .ok (.aload_n 0, 1) := by decide +kernel
theorem dX9_drafts_1 : decode cX9_drafts 1 = .ok (.getfield 32, 3) := by decide +kernel
theorem dX9_drafts_4 : decode cX9_drafts 4 = .ok (.aload_n 0, 1) := by decide +kernel
theorem dX9_drafts_5 : decode cX9_drafts 5 = .ok (.getfield 128, 3) := by decide +kernel
theorem dX9_drafts_8 : decode cX9_drafts 8 = .ok (.iload_n 1, 1) := by decide +kernel
theorem dX9_drafts_9 : decode cX9_drafts 9 = .ok (.iastore, 1) := by decide +kernel
theorem dX9_drafts_10 : decode cX9_drafts 10 = .ok (.aload_n 0, 1) := by decide +kernel
theorem dX9_drafts_11 : decode cX9_drafts 11 = .ok (.getfield 35, 3) := by decide +kernel
theorem dX9_drafts_14 : decode cX9_drafts 14 = .ok (.aload_n 0, 1) := by decide +kernel
theorem dX9_drafts_15 : decode cX9_drafts 15 = .ok (.getfield 128, 3) := by decide +kernel
theorem dX9_drafts_18 : decode cX9_drafts 18 = .ok (.iload_n 2, 1) := by decide +kernel
theorem dX9_drafts_19 : decode cX9_drafts 19 = .ok (.iastore, 1) := by decide +kernel
theorem dX9_drafts_20 : decode cX9_drafts 20 = .ok (.aload_n 0, 1) := by decide +kernel
theorem dX9_drafts_21 : decode cX9_drafts 21 = .ok (.getfield 38, 3) := by decide +kernel
theorem dX9_drafts_24 : decode cX9_drafts 24 = .ok (.aload_n 0, 1) := by decide +kernel
theorem dX9_drafts_25 : decode cX9_drafts 25 = .ok (.getfield 128, 3) := by decide +kernel
theorem dX9_drafts_28 : decode cX9_drafts 28 = .ok (.iload_n 3, 1) := by decide +kernel
theorem dX9_drafts_29 : decode cX9_drafts 29 = .ok (.iastore, 1) := by decide +kernel
theorem dX9_drafts_30 : decode cX9_drafts 30 = .ok (.aload_n 0, 1) := by decide +kernel
theorem dX9_drafts_31 : decode cX9_drafts 31 = .ok (.getfield 56, 3) := by decide +kernel
theorem dX9_drafts_34 : decode cX9_drafts 34 = .ok (.aload_n 0, 1) := by decide +kernel
theorem dX9_drafts_35 : decode cX9_drafts 35 = .ok (.getfield 128, 3) := by decide +kernel
theorem dX9_drafts_38 : decode cX9_drafts 38 = .ok (.iconst (-1), 1) := by decide +kernel
theorem dX9_drafts_39 : decode cX9_drafts 39 = .ok (.iastore, 1) := by decide +kernel
theorem dX9_drafts_40 : decode cX9_drafts 40 = .ok (.aload_n 0, 1) := by decide +kernel
theorem dX9_drafts_41 : decode cX9_drafts 41 = .ok (.getfield 71, 3) := by decide +kernel
theorem dX9_drafts_44 : decode cX9_drafts 44 = .ok (.aload_n 0, 1) := by decide +kernel
theorem dX9_drafts_45 : decode cX9_drafts 45 = .ok (.getfield 128, 3) := by decide +kernel
theorem dX9_drafts_48 : decode cX9_drafts 48 = .ok (.iconst (-1), 1) := by decide +kernel
theorem dX9_drafts_49 : decode cX9_drafts 49 = .ok (.iastore, 1) := by decide +kernel
theorem dX9_drafts_50 : decode cX9_drafts 50 = .ok (.aload_n 0, 1) := by decide +kernel
theorem dX9_drafts_51 : decode cX9_drafts 51 = .ok (.getfield 74, 3) := by decide +kernel
theorem dX9_drafts_54 : decode cX9_drafts 54 = .ok (.aload_n 0, 1) := by decide +kernel
theorem dX9_drafts_55 : decode cX9_drafts 55 = .ok (.getfield 128, 3) := by decide +kernel
theorem dX9_drafts_58 : decode cX9_drafts 58 = .ok (.iconst (-1), 1) := by decide +kernel
theorem dX9_drafts_59 : decode cX9_drafts 59 = .ok (.iastore, 1) := by decide +kernel
theorem dX9_drafts_60 : decode cX9_drafts 60 = .ok (.aload_n 0, 1) := by decide +kernel
theorem dX9_drafts_61 : decode cX9_drafts 61 = .ok (.dup, 1) := by decide +kernel
theorem dX9_drafts_62 : decode cX9_drafts 62 = .ok (.getfield 128, 3) := by decide +kernel
theorem dX9_drafts_65 : decode cX9_drafts 65 = .ok (.iconst 1, 1) := by decide +kernel
theorem dX9_drafts_66 : decode cX9_drafts 66 = .ok (.iadd, 1) := by decide +kernel
theorem dX9_drafts_67 : decode cX9_drafts 67 = .ok (.putfield 128, 3) := by decide +kernel
theorem dX9_drafts_70 : decode cX9_drafts 70 = .ok (.aload_n 0, 1) := by decide +kernel
theorem dX9_drafts_71 : decode cX9_drafts 71 = .ok (.getfield 128, 3) := by decide +kernel
theorem dX9_drafts_74 : decode cX9_drafts 74 = .ok (.iconst 1, 1) := by decide +kernel
theorem dX9_drafts_75 : decode cX9_drafts 75 = .ok (.isub, 1) := by decide +kernel
theorem dX9_drafts_76 : decode cX9_drafts 76 = .ok (.ireturn, 1) := by decide +kernel
theorem dX9_hasRoom_0 : decode cX9_hasRoom 0 = .ok (.aload_n 0, 1) := by decide +kernel
theorem dX9_hasRoom_1 : decode cX9_hasRoom 1 = .ok (.getfield 128, 3) := by decide +kernel
theorem dX9_hasRoom_4 : decode cX9_hasRoom 4 = .ok (.bipush 60, 2) := by decide +kernel
theorem dX9_hasRoom_6 : decode cX9_hasRoom 6 = .ok (.if_icmp .ge 25, 3) := by decide +kernel
theorem dX9_hasRoom_9 : decode cX9_hasRoom 9 = .ok (.aload_n 0, 1) := by decide +kernel
theorem dX9_hasRoom_10 : decode cX9_hasRoom 10 = .ok (.getfield 20, 3) := by decide +kernel
theorem dX9_hasRoom_13 : decode cX9_hasRoom 13 = .ok (.iload_n 1, 1) := by decide +kernel
theorem dX9_hasRoom_14 : decode cX9_hasRoom 14 = .ok (.baload, 1) := by decide +kernel
theorem dX9_hasRoom_15 : decode cX9_hasRoom 15 = .ok (.ifCond .ne 16, 3) := by decide +kernel
theorem dX9_hasRoom_18 : decode cX9_hasRoom 18 = .ok (.aload_n 0, 1) := by decide +kernel
theorem dX9_hasRoom_19 : decode cX9_hasRoom 19 = .ok (.getfield 20, 3) := by decide +kernel
theorem dX9_hasRoom_22 : decode cX9_hasRoom 22 = .ok (.iload_n 2, 1) := by decide +kernel
theorem dX9_hasRoom_23 : decode cX9_hasRoom 23 = .ok (.baload, 1) := by decide +kernel
theorem dX9_hasRoom_24 : decode cX9_hasRoom 24 = .ok (.ifCond .ne 7, 3) := by decide +kernel
theorem dX9_hasRoom_27 : decode cX9_hasRoom 27 = .ok (.iconst 1, 1) := by decide +kernel
theorem dX9_hasRoom_28 : decode cX9_hasRoom 28 = .ok (.goto 4, 3) := by decide +kernel
theorem dX9_hasRoom_31 : decode cX9_hasRoom 31 = .ok (.iconst 0, 1) := by decide +kernel
theorem dX9_hasRoom_32 : decode cX9_hasRoom 32 = .ok (.ireturn, 1) := by decide +kernel
theorem dX9_draft_0 : decode cX9_draft 0 = .ok (.aload_n 0, 1) := by decide +kernel
theorem dX9_draft_1 : decode cX9_draft 1 = .ok (.iload_n 2, 1) := by decide +kernel
theorem dX9_draft_2 : decode cX9_draft 2 = .ok (.invokevirtual 137, 3) := by decide +kernel
theorem dX9_draft_5 : decode cX9_draft 5 = .ok (.ifCond .eq 24, 3) := by decide +kernel
theorem dX9_draft_8 : decode cX9_draft 8 = .ok (.aload_n 0, 1) := by decide +kernel
theorem dX9_draft_9 : decode cX9_draft 9 = .ok (.iload_n 3, 1) := by decide +kernel
theorem dX9_draft_10 : decode cX9_draft 10 = .ok (.invokevirtual 137, 3) := by decide +kernel
theorem dX9_draft_13 : decode cX9_draft 13 = .ok (.ifCond .eq 16, 3) := by decide +kernel
theorem dX9_draft_16 : decode cX9_draft 16 = .ok (.aload_n 0, 1) := by decide +kernel
theorem dX9_draft_17 : decode cX9_draft 17 = .ok (.iload 4, 2) := by decide +kernel
theorem dX9_draft_19 : decode cX9_draft 19 = .ok (.invokevirtual 149, 3) := by decide +kernel
theorem dX9_draft_22 : decode cX9_draft 22 = .ok (.ifCond .eq 7, 3) := by decide +kernel
theorem dX9_draft_25 : decode cX9_draft 25 = .ok (.iconst 1, 1) := by decide +kernel
theorem dX9_draft_26 : decode cX9_draft 26 = .ok (.goto 4, 3) := by decide +kernel
theorem dX9_draft_29 : decode cX9_draft 29 = .ok (.iconst 0, 1) := by decide +kernel
theorem dX9_draft_30 : decode cX9_draft 30 = .ok (.istore 7, 2) := by decide +kernel
theorem dX9_draft_32 : decode cX9_draft 32 = .ok (.aload_n 0, 1) := by decide +kernel
theorem dX9_draft_33 : decode cX9_draft 33 = .ok (.iload 7, 2) := by decide +kernel
theorem dX9_draft_35 : decode cX9_draft 35 = .ok (.ifCond .ne 7, 3) := by decide +kernel
theorem dX9_draft_38 : decode cX9_draft 38 = .ok (.iconst 1, 1) := by decide +kernel
theorem dX9_draft_39 : decode cX9_draft 39 = .ok (.goto 57, 3) := by decide +kernel
theorem dX9_draft_42 : decode cX9_draft 42 = .ok (.iload_n 1, 1) := by decide +kernel
theorem dX9_draft_43 : decode cX9_draft 43 = .ok (.iconst 0, 1) := by decide +kernel
theorem dX9_draft_44 : decode cX9_draft 44 = .ok (.iconst 2, 1) := by decide +kernel
theorem dX9_draft_45 : decode cX9_draft 45 = .ok (.invokestatic 124, 3) := by decide +kernel
theorem dX9_draft_48 : decode cX9_draft 48 = .ok (.ifCond .eq 30, 3) := by decide +kernel
theorem dX9_draft_51 : decode cX9_draft 51 = .ok (.iload 6, 2) := by decide +kernel
theorem dX9_draft_53 : decode cX9_draft 53 = .ok (.iconst 1, 1) := by decide +kernel
theorem dX9_draft_54 : decode cX9_draft 54 = .ok (.bipush 100, 2) := by decide +kernel
theorem dX9_draft_56 : decode cX9_draft 56 = .ok (.invokestatic 124, 3) := by decide +kernel
theorem dX9_draft_59 : decode cX9_draft 59 = .ok (.ifCond .eq 19, 3) := by decide +kernel
theorem dX9_draft_62 : decode cX9_draft 62 = .ok (.iload 5, 2) := by decide +kernel
theorem dX9_draft_64 : decode cX9_draft 64 = .ok (.iconst 1, 1) := by decide +kernel
theorem dX9_draft_65 : decode cX9_draft 65 = .ok (.iload 6, 2) := by decide +kernel
theorem dX9_draft_67 : decode cX9_draft 67 = .ok (.invokestatic 124, 3) := by decide +kernel
theorem dX9_draft_70 : decode cX9_draft 70 = .ok (.ifCond .eq 8, 3) := by decide +kernel
theorem dX9_draft_73 : decode cX9_draft 73 = .ok (.iload_n 2, 1) := by decide +kernel
theorem dX9_draft_74 : decode cX9_draft 74 = .ok (.iload_n 3, 1) := by decide +kernel
theorem dX9_draft_75 : decode cX9_draft 75 = .ok (.if_icmp .ne 7, 3) := by decide +kernel
theorem dX9_draft_78 : decode cX9_draft 78 = .ok (.iconst 2, 1) := by decide +kernel
theorem dX9_draft_79 : decode cX9_draft 79 = .ok (.goto 17, 3) := by decide +kernel
theorem dX9_draft_82 : decode cX9_draft 82 = .ok (.aload_n 0, 1) := by decide +kernel
theorem dX9_draft_83 : decode cX9_draft 83 = .ok (.iload_n 2, 1) := by decide +kernel
theorem dX9_draft_84 : decode cX9_draft 84 = .ok (.iload_n 3, 1) := by decide +kernel
theorem dX9_draft_85 : decode cX9_draft 85 = .ok (.invokevirtual 152, 3) := by decide +kernel
theorem dX9_draft_88 : decode cX9_draft 88 = .ok (.ifCond .ne 7, 3) := by decide +kernel
theorem dX9_draft_91 : decode cX9_draft 91 = .ok (.iconst 3, 1) := by decide +kernel
theorem dX9_draft_92 : decode cX9_draft 92 = .ok (.goto 4, 3) := by decide +kernel
theorem dX9_draft_95 : decode cX9_draft 95 = .ok (.iconst 0, 1) := by decide +kernel
theorem dX9_draft_96 : decode cX9_draft 96 = .ok (.putfield 117, 3) := by decide +kernel
theorem dX9_draft_99 : decode cX9_draft 99 = .ok (.aload_n 0, 1) := by decide +kernel
theorem dX9_draft_100 : decode cX9_draft 100 = .ok (.getfield 117, 3) := by decide +kernel
theorem dX9_draft_103 : decode cX9_draft 103 = .ok (.ifCond .le 5, 3) := by decide +kernel
theorem dX9_draft_106 : decode cX9_draft 106 = .ok (.iconst 0, 1) := by decide +kernel
theorem dX9_draft_107 : decode cX9_draft 107 = .ok (.ireturn, 1) := by decide +kernel
theorem dX9_draft_108 : decode cX9_draft 108 = .ok (.aload_n 0, 1) := by decide +kernel
theorem dX9_draft_109 : decode cX9_draft 109 = .ok (.getfield 41, 3) := by decide +kernel
theorem dX9_draft_112 : decode cX9_draft 112 = .ok (.aload_n 0, 1) := by decide +kernel
theorem dX9_draft_113 : decode cX9_draft 113 = .ok (.getfield 128, 3) := by decide +kernel
theorem dX9_draft_116 : decode cX9_draft 116 = .ok (.iload 4, 2) := by decide +kernel
theorem dX9_draft_118 : decode cX9_draft 118 = .ok (.iastore, 1) := by decide +kernel
theorem dX9_draft_119 : decode cX9_draft 119 = .ok (.aload_n 0, 1) := by decide +kernel
theorem dX9_draft_120 : decode cX9_draft 120 = .ok (.getfield 44, 3) := by decide +kernel
theorem dX9_draft_123 : decode cX9_draft 123 = .ok (.aload_n 0, 1) := by decide +kernel
theorem dX9_draft_124 : decode cX9_draft 124 = .ok (.getfield 128, 3) := by decide +kernel
theorem dX9_draft_127 : decode cX9_draft 127 = .ok (.iload 5, 2) := by decide +kernel
theorem dX9_draft_129 : decode cX9_draft 129 = .ok (.iastore, 1) := by decide +kernel
theorem dX9_draft_130 : decode cX9_draft 130 = .ok (.aload_n 0, 1) := by decide +kernel
theorem dX9_draft_131 : decode cX9_draft 131 = .ok (.getfield 47, 3) := by decide +kernel
theorem dX9_draft_134 : decode cX9_draft 134 = .ok (.aload_n 0, 1) := by decide +kernel
theorem dX9_draft_135 : decode cX9_draft 135 = .ok (.getfield 128, 3) := by decide +kernel
theorem dX9_draft_138 : decode cX9_draft 138 = .ok (.iload 6, 2) := by decide +kernel
theorem dX9_draft_140 : decode cX9_draft 140 = .ok (.iastore, 1) := by decide +kernel
theorem dX9_draft_141 : decode cX9_draft 141 = .ok (.aload_n 0, 1) := by decide +kernel
theorem dX9_draft_142 : decode cX9_draft 142 = .ok (.iload_n 1, 1) := by decide +kernel
theorem dX9_draft_143 : decode cX9_draft 143 = .ok (.iload_n 2, 1) := by decide +kernel
theorem dX9_draft_144 : decode cX9_draft 144 = .ok (.iload_n 3, 1) := by decide +kernel
theorem dX9_draft_145 : decode cX9_draft 145 = .ok (.invokevirtual 155, 3) := by decide +kernel
theorem dX9_draft_148 : decode cX9_draft 148 = .ok (.ireturn, 1) := by decide +kernel
theorem dX9_power_0 : decode cX9_power 0 = .ok (.aload_n 0, 1) := by decide +kernel
theorem dX9_power_1 : decode cX9_power 1 = .ok (.iload_n 1, 1) := by decide +kernel
theorem dX9_power_2 : decode cX9_power 2 = .ok (.invokevirtual 137, 3) := by decide +kernel
theorem dX9_power_5 : decode cX9_power 5 = .ok (.ifCond .eq 28, 3) := by decide +kernel
theorem dX9_power_8 : decode cX9_power 8 = .ok (.aload_n 0, 1) := by decide +kernel
theorem dX9_power_9 : decode cX9_power 9 = .ok (.iload_n 2, 1) := by decide +kernel
theorem dX9_power_10 : decode cX9_power 10 = .ok (.invokevirtual 137, 3) := by decide +kernel
theorem dX9_power_13 : decode cX9_power 13 = .ok (.ifCond .eq 20, 3) := by decide +kernel
theorem dX9_power_16 : decode cX9_power 16 = .ok (.iload_n 3, 1) := by decide +kernel
theorem dX9_power_17 : decode cX9_power 17 = .ok (.iconst (-1), 1) := by decide +kernel
theorem dX9_power_18 : decode cX9_power 18 = .ok (.if_icmp .eq 11, 3) := by decide +kernel
theorem dX9_power_21 : decode cX9_power 21 = .ok (.aload_n 0, 1) := by decide +kernel
theorem dX9_power_22 : decode cX9_power 22 = .ok (.iload_n 3, 1) := by decide +kernel
theorem dX9_power_23 : decode cX9_power 23 = .ok (.invokevirtual 149, 3) := by decide +kernel
theorem dX9_power_26 : decode cX9_power 26 = .ok (.ifCond .eq 7, 3) := by decide +kernel
theorem dX9_power_29 : decode cX9_power 29 = .ok (.iconst 1, 1) := by decide +kernel
theorem dX9_power_30 : decode cX9_power 30 = .ok (.goto 4, 3) := by decide +kernel
theorem dX9_power_33 : decode cX9_power 33 = .ok (.iconst 0, 1) := by decide +kernel
theorem dX9_power_34 : decode cX9_power 34 = .ok (.istore 6, 2) := by decide +kernel
theorem dX9_power_36 : decode cX9_power 36 = .ok (.aload_n 0, 1) := by decide +kernel
theorem dX9_power_37 : decode cX9_power 37 = .ok (.iload 6, 2) := by decide +kernel
theorem dX9_power_39 : decode cX9_power 39 = .ok (.ifCond .ne 7, 3) := by decide +kernel
theorem dX9_power_42 : decode cX9_power 42 = .ok (.iconst 1, 1) := by decide +kernel
theorem dX9_power_43 : decode cX9_power 43 = .ok (.goto 38, 3) := by decide +kernel
theorem dX9_power_46 : decode cX9_power 46 = .ok (.iload 4, 2) := by decide +kernel
theorem dX9_power_48 : decode cX9_power 48 = .ok (.iconst 1, 1) := by decide +kernel
theorem dX9_power_49 : decode cX9_power 49 = .ok (.sipush 1000, 3) := by decide +kernel
theorem dX9_power_52 : decode cX9_power 52 = .ok (.invokestatic 124, 3) := by decide +kernel
theorem dX9_power_55 : decode cX9_power 55 = .ok (.ifCond .eq 8, 3) := by decide +kernel
theorem dX9_power_58 : decode cX9_power 58 = .ok (.iload_n 1, 1) := by decide +kernel
theorem dX9_power_59 : decode cX9_power 59 = .ok (.iload_n 2, 1) := by decide +kernel
theorem dX9_power_60 : decode cX9_power 60 = .ok (.if_icmp .ne 7, 3) := by decide +kernel
theorem dX9_power_63 : decode cX9_power 63 = .ok (.iconst 2, 1) := by decide +kernel
theorem dX9_power_64 : decode cX9_power 64 = .ok (.goto 17, 3) := by decide +kernel
theorem dX9_power_67 : decode cX9_power 67 = .ok (.aload_n 0, 1) := by decide +kernel
theorem dX9_power_68 : decode cX9_power 68 = .ok (.iload_n 1, 1) := by decide +kernel
theorem dX9_power_69 : decode cX9_power 69 = .ok (.iload_n 2, 1) := by decide +kernel
theorem dX9_power_70 : decode cX9_power 70 = .ok (.invokevirtual 152, 3) := by decide +kernel
theorem dX9_power_73 : decode cX9_power 73 = .ok (.ifCond .ne 7, 3) := by decide +kernel
theorem dX9_power_76 : decode cX9_power 76 = .ok (.iconst 3, 1) := by decide +kernel
theorem dX9_power_77 : decode cX9_power 77 = .ok (.goto 4, 3) := by decide +kernel
theorem dX9_power_80 : decode cX9_power 80 = .ok (.iconst 0, 1) := by decide +kernel
theorem dX9_power_81 : decode cX9_power 81 = .ok (.putfield 117, 3) := by decide +kernel
theorem dX9_power_84 : decode cX9_power 84 = .ok (.aload_n 0, 1) := by decide +kernel
theorem dX9_power_85 : decode cX9_power 85 = .ok (.getfield 117, 3) := by decide +kernel
theorem dX9_power_88 : decode cX9_power 88 = .ok (.ifCond .le 5, 3) := by decide +kernel
theorem dX9_power_91 : decode cX9_power 91 = .ok (.iconst 0, 1) := by decide +kernel
theorem dX9_power_92 : decode cX9_power 92 = .ok (.ireturn, 1) := by decide +kernel
theorem dX9_power_93 : decode cX9_power 93 = .ok (.aload_n 0, 1) := by decide +kernel
theorem dX9_power_94 : decode cX9_power 94 = .ok (.getfield 41, 3) := by decide +kernel
theorem dX9_power_97 : decode cX9_power 97 = .ok (.aload_n 0, 1) := by decide +kernel
theorem dX9_power_98 : decode cX9_power 98 = .ok (.getfield 128, 3) := by decide +kernel
theorem dX9_power_101 : decode cX9_power 101 = .ok (.iload_n 3, 1) := by decide +kernel
theorem dX9_power_102 : decode cX9_power 102 = .ok (.iastore, 1) := by decide +kernel
theorem dX9_power_103 : decode cX9_power 103 = .ok (.aload_n 0, 1) := by decide +kernel
theorem dX9_power_104 : decode cX9_power 104 = .ok (.getfield 50, 3) := by decide +kernel
theorem dX9_power_107 : decode cX9_power 107 = .ok (.aload_n 0, 1) := by decide +kernel
theorem dX9_power_108 : decode cX9_power 108 = .ok (.getfield 128, 3) := by decide +kernel
theorem dX9_power_111 : decode cX9_power 111 = .ok (.aload_n 0, 1) := by decide +kernel
theorem dX9_power_112 : decode cX9_power 112 = .ok (.getfield 134, 3) := by decide +kernel
theorem dX9_power_115 : decode cX9_power 115 = .ok (.iload 4, 2) := by decide +kernel
theorem dX9_power_117 : decode cX9_power 117 = .ok (.iadd, 1) := by decide +kernel
theorem dX9_power_118 : decode cX9_power 118 = .ok (.iastore, 1) := by decide +kernel
theorem dX9_power_119 : decode cX9_power 119 = .ok (.aload_n 0, 1) := by decide +kernel
theorem dX9_power_120 : decode cX9_power 120 = .ok (.getfield 53, 3) := by decide +kernel
theorem dX9_power_123 : decode cX9_power 123 = .ok (.aload_n 0, 1) := by decide +kernel
theorem dX9_power_124 : decode cX9_power 124 = .ok (.getfield 128, 3) := by decide +kernel
theorem dX9_power_127 : decode cX9_power 127 = .ok (.iload 5, 2) := by decide +kernel
theorem dX9_power_129 : decode cX9_power 129 = .ok (.bastore, 1) := by decide +kernel
theorem dX9_power_130 : decode cX9_power 130 = .ok (.aload_n 0, 1) := by decide +kernel
theorem dX9_power_131 : decode cX9_power 131 = .ok (.iconst 3, 1) := by decide +kernel
theorem dX9_power_132 : decode cX9_power 132 = .ok (.iload_n 1, 1) := by decide +kernel
theorem dX9_power_133 : decode cX9_power 133 = .ok (.iload_n 2, 1) := by decide +kernel
theorem dX9_power_134 : decode cX9_power 134 = .ok (.invokevirtual 155, 3) := by decide +kernel
theorem dX9_power_137 : decode cX9_power 137 = .ok (.ireturn, 1) := by decide +kernel
theorem dX9_will_0 : decode cX9_will 0 = .ok (.aload_n 0, 1) := by decide +kernel
theorem dX9_will_1 : decode cX9_will 1 = .ok (.aload_n 0, 1) := by decide +kernel
theorem dX9_will_2 : decode cX9_will 2 = .ok (.iload_n 1, 1) := by decide +kernel
theorem dX9_will_3 : decode cX9_will 3 = .ok (.invokevirtual 137, 3) := by decide +kernel
theorem dX9_will_6 : decode cX9_will 6 = .ok (.ifCond .eq 11, 3) := by decide +kernel
theorem dX9_will_9 : decode cX9_will 9 = .ok (.aload_n 0, 1) := by decide +kernel
theorem dX9_will_10 : decode cX9_will 10 = .ok (.iload_n 2, 1) := by decide +kernel
theorem dX9_will_11 : decode cX9_will 11 = .ok (.invokevirtual 137, 3) := by decide +kernel
theorem dX9_will_14 : decode cX9_will 14 = .ok (.ifCond .ne 7, 3) := by decide +kernel
theorem dX9_will_17 : decode cX9_will 17 = .ok (.iconst 1, 1) := by decide +kernel
theorem dX9_will_18 : decode cX9_will 18 = .ok (.goto 47, 3) := by decide +kernel
theorem dX9_will_21 : decode cX9_will 21 = .ok (.iload 4, 2) := by decide +kernel
theorem dX9_will_23 : decode cX9_will 23 = .ok (.iconst 1, 1) := by decide +kernel
theorem dX9_will_24 : decode cX9_will 24 = .ok (.bipush 100, 2) := by decide +kernel
theorem dX9_will_26 : decode cX9_will 26 = .ok (.invokestatic 124, 3) := by decide +kernel
theorem dX9_will_29 : decode cX9_will 29 = .ok (.ifCond .eq 18, 3) := by decide +kernel
theorem dX9_will_32 : decode cX9_will 32 = .ok (.iload_n 3, 1) := by decide +kernel
theorem dX9_will_33 : decode cX9_will 33 = .ok (.iconst 1, 1) := by decide +kernel
theorem dX9_will_34 : decode cX9_will 34 = .ok (.iload 4, 2) := by decide +kernel
theorem dX9_will_36 : decode cX9_will 36 = .ok (.invokestatic 124, 3) := by decide +kernel
theorem dX9_will_39 : decode cX9_will 39 = .ok (.ifCond .eq 8, 3) := by decide +kernel
theorem dX9_will_42 : decode cX9_will 42 = .ok (.iload_n 1, 1) := by decide +kernel
theorem dX9_will_43 : decode cX9_will 43 = .ok (.iload_n 2, 1) := by decide +kernel
theorem dX9_will_44 : decode cX9_will 44 = .ok (.if_icmp .ne 7, 3) := by decide +kernel
theorem dX9_will_47 : decode cX9_will 47 = .ok (.iconst 2, 1) := by decide +kernel
theorem dX9_will_48 : decode cX9_will 48 = .ok (.goto 17, 3) := by decide +kernel
theorem dX9_will_51 : decode cX9_will 51 = .ok (.aload_n 0, 1) := by decide +kernel
theorem dX9_will_52 : decode cX9_will 52 = .ok (.iload_n 1, 1) := by decide +kernel
theorem dX9_will_53 : decode cX9_will 53 = .ok (.iload_n 2, 1) := by decide +kernel
theorem dX9_will_54 : decode cX9_will 54 = .ok (.invokevirtual 152, 3) := by decide +kernel
theorem dX9_will_57 : decode cX9_will 57 = .ok (.ifCond .ne 7, 3) := by decide +kernel
theorem dX9_will_60 : decode cX9_will 60 = .ok (.iconst 3, 1) := by decide +kernel
theorem dX9_will_61 : decode cX9_will 61 = .ok (.goto 4, 3) := by decide +kernel
theorem dX9_will_64 : decode cX9_will 64 = .ok (.iconst 0, 1) := by decide +kernel
theorem dX9_will_65 : decode cX9_will 65 = .ok (.putfield 117, 3) := by decide +kernel
theorem dX9_will_68 : decode cX9_will 68 = .ok (.aload_n 0, 1) := by decide +kernel
theorem dX9_will_69 : decode cX9_will 69 = .ok (.getfield 117, 3) := by decide +kernel
theorem dX9_will_72 : decode cX9_will 72 = .ok (.ifCond .le 5, 3) := by decide +kernel
theorem dX9_will_75 : decode cX9_will 75 = .ok (.iconst 0, 1) := by decide +kernel
theorem dX9_will_76 : decode cX9_will 76 = .ok (.ireturn, 1) := by decide +kernel
theorem dX9_will_77 : decode cX9_will 77 = .ok (.aload_n 0, 1) := by decide +kernel
theorem dX9_will_78 : decode cX9_will 78 = .ok (.getfield 41, 3) := by decide +kernel
theorem dX9_will_81 : decode cX9_will 81 = .ok (.aload_n 0, 1) := by decide +kernel
theorem dX9_will_82 : decode cX9_will 82 = .ok (.getfield 128, 3) := by decide +kernel
theorem dX9_will_85 : decode cX9_will 85 = .ok (.iconst (-1), 1) := by decide +kernel
theorem dX9_will_86 : decode cX9_will 86 = .ok (.iastore, 1) := by decide +kernel
theorem dX9_will_87 : decode cX9_will 87 = .ok (.aload_n 0, 1) := by decide +kernel
theorem dX9_will_88 : decode cX9_will 88 = .ok (.getfield 44, 3) := by decide +kernel
theorem dX9_will_91 : decode cX9_will 91 = .ok (.aload_n 0, 1) := by decide +kernel
theorem dX9_will_92 : decode cX9_will 92 = .ok (.getfield 128, 3) := by decide +kernel
theorem dX9_will_95 : decode cX9_will 95 = .ok (.iload_n 3, 1) := by decide +kernel
theorem dX9_will_96 : decode cX9_will 96 = .ok (.iastore, 1) := by decide +kernel
theorem dX9_will_97 : decode cX9_will 97 = .ok (.aload_n 0, 1) := by decide +kernel
theorem dX9_will_98 : decode cX9_will 98 = .ok (.getfield 47, 3) := by decide +kernel
theorem dX9_will_101 : decode cX9_will 101 = .ok (.aload_n 0, 1) := by decide +kernel
theorem dX9_will_102 : decode cX9_will 102 = .ok (.getfield 128, 3) := by decide +kernel
theorem dX9_will_105 : decode cX9_will 105 = .ok (.iload 4, 2) := by decide +kernel
theorem dX9_will_107 : decode cX9_will 107 = .ok (.iastore, 1) := by decide +kernel
theorem dX9_will_108 : decode cX9_will 108 = .ok (.aload_n 0, 1) := by decide +kernel
theorem dX9_will_109 : decode cX9_will 109 = .ok (.iconst 4, 1) := by decide +kernel
theorem dX9_will_110 : decode cX9_will 110 = .ok (.iload_n 1, 1) := by decide +kernel
theorem dX9_will_111 : decode cX9_will 111 = .ok (.iload_n 2, 1) := by decide +kernel
theorem dX9_will_112 : decode cX9_will 112 = .ok (.invokevirtual 155, 3) := by decide +kernel
theorem dX9_will_115 : decode cX9_will 115 = .ok (.ireturn, 1) := by decide +kernel
theorem dX9_isGoodAlone_0 : decode cX9_isGoodAlone 0 = .ok (.aload_n 0, 1) := by decide +kernel
theorem dX9_isGoodAlone_1 : decode cX9_isGoodAlone 1 = .ok (.getfield 32, 3) := by decide +kernel
theorem dX9_isGoodAlone_4 : decode cX9_isGoodAlone 4 = .ok (.iload_n 1, 1) := by decide +kernel
theorem dX9_isGoodAlone_5 : decode cX9_isGoodAlone 5 = .ok (.iaload, 1) := by decide +kernel
theorem dX9_isGoodAlone_6 : decode cX9_isGoodAlone 6 = .ok (.iconst 3, 1) := by decide +kernel
theorem dX9_isGoodAlone_7 : decode cX9_isGoodAlone 7 = .ok (.if_icmp .ne 23, 3) := by decide +kernel
theorem dX9_isGoodAlone_10 : decode cX9_isGoodAlone 10 = .ok (.aload_n 0, 1) := by decide +kernel
theorem dX9_isGoodAlone_11 : decode cX9_isGoodAlone 11 = .ok (.getfield 65, 3) := by decide +kernel
theorem dX9_isGoodAlone_14 : decode cX9_isGoodAlone 14 = .ok (.iload_n 1, 1) := by decide +kernel
theorem dX9_isGoodAlone_15 : decode cX9_isGoodAlone 15 = .ok (.iaload, 1) := by decide +kernel
theorem dX9_isGoodAlone_16 : decode cX9_isGoodAlone 16 = .ok (.iconst 1, 1) := by decide +kernel
theorem dX9_isGoodAlone_17 : decode cX9_isGoodAlone 17 = .ok (.if_icmp .eq 15, 3) := by decide +kernel
theorem dX9_isGoodAlone_20 : decode cX9_isGoodAlone 20 = .ok (.aload_n 0, 1) := by decide +kernel
theorem dX9_isGoodAlone_21 : decode cX9_isGoodAlone 21 = .ok (.getfield 65, 3) := by decide +kernel
theorem dX9_isGoodAlone_24 : decode cX9_isGoodAlone 24 = .ok (.iload_n 1, 1) := by decide +kernel
theorem dX9_isGoodAlone_25 : decode cX9_isGoodAlone 25 = .ok (.iaload, 1) := by decide +kernel
theorem dX9_isGoodAlone_26 : decode cX9_isGoodAlone 26 = .ok (.iconst 2, 1) := by decide +kernel
theorem dX9_isGoodAlone_27 : decode cX9_isGoodAlone 27 = .ok (.if_icmp .eq 5, 3) := by decide +kernel
theorem dX9_isGoodAlone_30 : decode cX9_isGoodAlone 30 = .ok (.iconst 0, 1) := by decide +kernel
theorem dX9_isGoodAlone_31 : decode cX9_isGoodAlone 31 = .ok (.ireturn, 1) := by decide +kernel
theorem dX9_isGoodAlone_32 : decode cX9_isGoodAlone 32 = .ok (.aload_n 0, 1) := by decide +kernel
theorem dX9_isGoodAlone_33 : decode cX9_isGoodAlone 33 = .ok (.getfield 65, 3) := by decide +kernel
theorem dX9_isGoodAlone_36 : decode cX9_isGoodAlone 36 = .ok (.iload_n 1, 1) := by decide +kernel
theorem dX9_isGoodAlone_37 : decode cX9_isGoodAlone 37 = .ok (.iaload, 1) := by decide +kernel
theorem dX9_isGoodAlone_38 : decode cX9_isGoodAlone 38 = .ok (.iconst 2, 1) := by decide +kernel
theorem dX9_isGoodAlone_39 : decode cX9_isGoodAlone 39 = .ok (.if_icmp .ne 33, 3) := by decide +kernel
theorem dX9_isGoodAlone_42 : decode cX9_isGoodAlone 42 = .ok (.aload_n 0, 1) := by decide +kernel
theorem dX9_isGoodAlone_43 : decode cX9_isGoodAlone 43 = .ok (.getfield 71, 3) := by decide +kernel
theorem dX9_isGoodAlone_46 : decode cX9_isGoodAlone 46 = .ok (.iload_n 1, 1) := by decide +kernel
theorem dX9_isGoodAlone_47 : decode cX9_isGoodAlone 47 = .ok (.iaload, 1) := by decide +kernel
theorem dX9_isGoodAlone_48 : decode cX9_isGoodAlone 48 = .ok (.bipush 30, 2) := by decide +kernel
theorem dX9_isGoodAlone_50 : decode cX9_isGoodAlone 50 = .ok (.iadd, 1) := by decide +kernel
theorem dX9_isGoodAlone_51 : decode cX9_isGoodAlone 51 = .ok (.aload_n 0, 1) := by decide +kernel
theorem dX9_isGoodAlone_52 : decode cX9_isGoodAlone 52 = .ok (.getfield 50, 3) := by decide +kernel
theorem dX9_isGoodAlone_55 : decode cX9_isGoodAlone 55 = .ok (.iload_n 1, 1) := by decide +kernel
theorem dX9_isGoodAlone_56 : decode cX9_isGoodAlone 56 = .ok (.iaload, 1) := by decide +kernel
theorem dX9_isGoodAlone_57 : decode cX9_isGoodAlone 57 = .ok (.if_icmp .ge 15, 3) := by decide +kernel
theorem dX9_isGoodAlone_60 : decode cX9_isGoodAlone 60 = .ok (.aload_n 0, 1) := by decide +kernel
theorem dX9_isGoodAlone_61 : decode cX9_isGoodAlone 61 = .ok (.getfield 71, 3) := by decide +kernel
theorem dX9_isGoodAlone_64 : decode cX9_isGoodAlone 64 = .ok (.iload_n 1, 1) := by decide +kernel
theorem dX9_isGoodAlone_65 : decode cX9_isGoodAlone 65 = .ok (.iaload, 1) := by decide +kernel
theorem dX9_isGoodAlone_66 : decode cX9_isGoodAlone 66 = .ok (.bipush 30, 2) := by decide +kernel
theorem dX9_isGoodAlone_68 : decode cX9_isGoodAlone 68 = .ok (.iadd, 1) := by decide +kernel
theorem dX9_isGoodAlone_69 : decode cX9_isGoodAlone 69 = .ok (.goto 9, 3) := by decide +kernel
theorem dX9_isGoodAlone_72 : decode cX9_isGoodAlone 72 = .ok (.aload_n 0, 1) := by decide +kernel
theorem dX9_isGoodAlone_73 : decode cX9_isGoodAlone 73 = .ok (.getfield 50, 3) := by decide +kernel
theorem dX9_isGoodAlone_76 : decode cX9_isGoodAlone 76 = .ok (.iload_n 1, 1) := by decide +kernel
theorem dX9_isGoodAlone_77 : decode cX9_isGoodAlone 77 = .ok (.iaload, 1) := by decide +kernel
theorem dX9_isGoodAlone_78 : decode cX9_isGoodAlone 78 = .ok (.istore_n 2, 1) := by decide +kernel
theorem dX9_isGoodAlone_79 : decode cX9_isGoodAlone 79 = .ok (.aload_n 0, 1) := by decide +kernel
theorem dX9_isGoodAlone_80 : decode cX9_isGoodAlone 80 = .ok (.getfield 134, 3) := by decide +kernel
theorem dX9_isGoodAlone_83 : decode cX9_isGoodAlone 83 = .ok (.iload_n 2, 1) := by decide +kernel
theorem dX9_isGoodAlone_84 : decode cX9_isGoodAlone 84 = .ok (.if_icmp .gt 39, 3) := by decide +kernel
theorem dX9_isGoodAlone_87 : decode cX9_isGoodAlone 87 = .ok (.aload_n 0, 1) := by decide +kernel
theorem dX9_isGoodAlone_88 : decode cX9_isGoodAlone 88 = .ok (.getfield 77, 3) := by decide +kernel
theorem dX9_isGoodAlone_91 : decode cX9_isGoodAlone 91 = .ok (.iload_n 1, 1) := by decide +kernel
theorem dX9_isGoodAlone_92 : decode cX9_isGoodAlone 92 = .ok (.baload, 1) := by decide +kernel
theorem dX9_isGoodAlone_93 : decode cX9_isGoodAlone 93 = .ok (.ifCond .eq 12, 3) := by decide +kernel
theorem dX9_isGoodAlone_96 : decode cX9_isGoodAlone 96 = .ok (.aload_n 0, 1) := by decide +kernel
theorem dX9_isGoodAlone_97 : decode cX9_isGoodAlone 97 = .ok (.getfield 80, 3) := by decide +kernel
theorem dX9_isGoodAlone_100 : decode cX9_isGoodAlone 100 = .ok (.iload_n 1, 1) := by decide +kernel
theorem dX9_isGoodAlone_101 : decode cX9_isGoodAlone 101 = .ok (.baload, 1) := by decide +kernel
theorem dX9_isGoodAlone_102 : decode cX9_isGoodAlone 102 = .ok (.ifCond .ne 21, 3) := by decide +kernel
theorem dX9_isGoodAlone_105 : decode cX9_isGoodAlone 105 = .ok (.aload_n 0, 1) := by decide +kernel
theorem dX9_isGoodAlone_106 : decode cX9_isGoodAlone 106 = .ok (.getfield 20, 3) := by decide +kernel
theorem dX9_isGoodAlone_109 : decode cX9_isGoodAlone 109 = .ok (.aload_n 0, 1) := by decide +kernel
theorem dX9_isGoodAlone_110 : decode cX9_isGoodAlone 110 = .ok (.getfield 35, 3) := by decide +kernel
theorem dX9_isGoodAlone_113 : decode cX9_isGoodAlone 113 = .ok (.iload_n 1, 1) := by decide +kernel
theorem dX9_isGoodAlone_114 : decode cX9_isGoodAlone 114 = .ok (.iaload, 1) := by decide +kernel
theorem dX9_isGoodAlone_115 : decode cX9_isGoodAlone 115 = .ok (.baload, 1) := by decide +kernel
theorem dX9_isGoodAlone_116 : decode cX9_isGoodAlone 116 = .ok (.ifCond .ne 7, 3) := by decide +kernel
theorem dX9_isGoodAlone_119 : decode cX9_isGoodAlone 119 = .ok (.iconst 1, 1) := by decide +kernel
theorem dX9_isGoodAlone_120 : decode cX9_isGoodAlone 120 = .ok (.goto 4, 3) := by decide +kernel
theorem dX9_isGoodAlone_123 : decode cX9_isGoodAlone 123 = .ok (.iconst 0, 1) := by decide +kernel
theorem dX9_isGoodAlone_124 : decode cX9_isGoodAlone 124 = .ok (.ireturn, 1) := by decide +kernel
theorem dX9_good_0 : decode cX9_good 0 = .ok (.iload_n 1, 1) := by decide +kernel
theorem dX9_good_1 : decode cX9_good 1 = .ok (.istore_n 2, 1) := by decide +kernel
theorem dX9_good_2 : decode cX9_good 2 = .ok (.aload_n 0, 1) := by decide +kernel
theorem dX9_good_3 : decode cX9_good 3 = .ok (.iload_n 2, 1) := by decide +kernel
theorem dX9_good_4 : decode cX9_good 4 = .ok (.invokevirtual 159, 3) := by decide +kernel
theorem dX9_good_7 : decode cX9_good 7 = .ok (.istore_n 3, 1) := by decide +kernel
theorem dX9_good_8 : decode cX9_good 8 = .ok (.iload_n 3, 1) := by decide +kernel
theorem dX9_good_9 : decode cX9_good 9 = .ok (.ifCond .eq 46, 3) := by decide +kernel
theorem dX9_good_12 : decode cX9_good 12 = .ok (.aload_n 0, 1) := by decide +kernel
theorem dX9_good_13 : decode cX9_good 13 = .ok (.getfield 56, 3) := by decide +kernel
theorem dX9_good_16 : decode cX9_good 16 = .ok (.iload_n 2, 1) := by decide +kernel
theorem dX9_good_17 : decode cX9_good 17 = .ok (.iaload, 1) := by decide +kernel
theorem dX9_good_18 : decode cX9_good 18 = .ok (.iconst (-1), 1) := by decide +kernel
theorem dX9_good_19 : decode cX9_good 19 = .ok (.if_icmp .eq 36, 3) := by decide +kernel
theorem dX9_good_22 : decode cX9_good 22 = .ok (.aload_n 0, 1) := by decide +kernel
theorem dX9_good_23 : decode cX9_good 23 = .ok (.getfield 56, 3) := by decide +kernel
theorem dX9_good_26 : decode cX9_good 26 = .ok (.iload_n 2, 1) := by decide +kernel
theorem dX9_good_27 : decode cX9_good 27 = .ok (.iaload, 1) := by decide +kernel
theorem dX9_good_28 : decode cX9_good 28 = .ok (.istore_n 2, 1) := by decide +kernel
theorem dX9_good_29 : decode cX9_good 29 = .ok (.aload_n 0, 1) := by decide +kernel
theorem dX9_good_30 : decode cX9_good 30 = .ok (.iload_n 2, 1) := by decide +kernel
theorem dX9_good_31 : decode cX9_good 31 = .ok (.invokevirtual 159, 3) := by decide +kernel
theorem dX9_good_34 : decode cX9_good 34 = .ok (.ifCond .eq 16, 3) := by decide +kernel
theorem dX9_good_37 : decode cX9_good 37 = .ok (.aload_n 0, 1) := by decide +kernel
theorem dX9_good_38 : decode cX9_good 38 = .ok (.getfield 53, 3) := by decide +kernel
theorem dX9_good_41 : decode cX9_good 41 = .ok (.iload_n 2, 1) := by decide +kernel
theorem dX9_good_42 : decode cX9_good 42 = .ok (.baload, 1) := by decide +kernel
theorem dX9_good_43 : decode cX9_good 43 = .ok (.ifCond .eq 7, 3) := by decide +kernel
theorem dX9_good_46 : decode cX9_good 46 = .ok (.iconst 1, 1) := by decide +kernel
theorem dX9_good_47 : decode cX9_good 47 = .ok (.goto 4, 3) := by decide +kernel
theorem dX9_good_50 : decode cX9_good 50 = .ok (.iconst 0, 1) := by decide +kernel
theorem dX9_good_51 : decode cX9_good 51 = .ok (.istore_n 3, 1) := by decide +kernel
theorem dX9_good_52 : decode cX9_good 52 = .ok (.goto (-44), 3) := by decide +kernel
theorem dX9_good_55 : decode cX9_good 55 = .ok (.iload_n 3, 1) := by decide +kernel
theorem dX9_good_56 : decode cX9_good 56 = .ok (.ireturn, 1) := by decide +kernel
theorem dX9_isGuardian_0 : decode cX9_isGuardian 0 = .ok (.aload_n 0, 1) := by decide +kernel
theorem dX9_isGuardian_1 : decode cX9_isGuardian 1 = .ok (.getfield 20, 3) := by decide +kernel
theorem dX9_isGuardian_4 : decode cX9_isGuardian 4 = .ok (.iload_n 2, 1) := by decide +kernel
theorem dX9_isGuardian_5 : decode cX9_isGuardian 5 = .ok (.baload, 1) := by decide +kernel
theorem dX9_isGuardian_6 : decode cX9_isGuardian 6 = .ok (.ifCond .ne 25, 3) := by decide +kernel
theorem dX9_isGuardian_9 : decode cX9_isGuardian 9 = .ok (.aload_n 0, 1) := by decide +kernel
theorem dX9_isGuardian_10 : decode cX9_isGuardian 10 = .ok (.getfield 29, 3) := by decide +kernel
theorem dX9_isGuardian_13 : decode cX9_isGuardian 13 = .ok (.iload_n 2, 1) := by decide +kernel
theorem dX9_isGuardian_14 : decode cX9_isGuardian 14 = .ok (.iaload, 1) := by decide +kernel
theorem dX9_isGuardian_15 : decode cX9_isGuardian 15 = .ok (.iload_n 1, 1) := by decide +kernel
theorem dX9_isGuardian_16 : decode cX9_isGuardian 16 = .ok (.if_icmp .ne 15, 3) := by decide +kernel
theorem dX9_isGuardian_19 : decode cX9_isGuardian 19 = .ok (.aload_n 0, 1) := by decide +kernel
theorem dX9_isGuardian_20 : decode cX9_isGuardian 20 = .ok (.iload_n 1, 1) := by decide +kernel
theorem dX9_isGuardian_21 : decode cX9_isGuardian 21 = .ok (.invokevirtual 146, 3) := by decide +kernel
theorem dX9_isGuardian_24 : decode cX9_isGuardian 24 = .ok (.ifCond .eq 7, 3) := by decide +kernel
theorem dX9_isGuardian_27 : decode cX9_isGuardian 27 = .ok (.iconst 1, 1) := by decide +kernel
theorem dX9_isGuardian_28 : decode cX9_isGuardian 28 = .ok (.goto 4, 3) := by decide +kernel
theorem dX9_isGuardian_31 : decode cX9_isGuardian 31 = .ok (.iconst 0, 1) := by decide +kernel
theorem dX9_isGuardian_32 : decode cX9_isGuardian 32 = .ok (.ireturn, 1) := by decide +kernel
theorem dX9_signsBy_0 : decode cX9_signsBy 0 = .ok (.iload 4, 2) := by decide +kernel
theorem dX9_signsBy_2 : decode cX9_signsBy 2 = .ok (.iconst (-1), 1) := by decide +kernel
theorem dX9_signsBy_3 : decode cX9_signsBy 3 = .ok (.if_icmp .eq 29, 3) := by decide +kernel
theorem dX9_signsBy_6 : decode cX9_signsBy 6 = .ok (.aload_n 0, 1) := by decide +kernel
theorem dX9_signsBy_7 : decode cX9_signsBy 7 = .ok (.getfield 20, 3) := by decide +kernel
theorem dX9_signsBy_10 : decode cX9_signsBy 10 = .ok (.iload_n 3, 1) := by decide +kernel
theorem dX9_signsBy_11 : decode cX9_signsBy 11 = .ok (.baload, 1) := by decide +kernel
theorem dX9_signsBy_12 : decode cX9_signsBy 12 = .ok (.ifCond .ne 20, 3) := by decide +kernel
theorem dX9_signsBy_15 : decode cX9_signsBy 15 = .ok (.aload_n 0, 1) := by decide +kernel
theorem dX9_signsBy_16 : decode cX9_signsBy 16 = .ok (.iload_n 2, 1) := by decide +kernel
theorem dX9_signsBy_17 : decode cX9_signsBy 17 = .ok (.invokevirtual 146, 3) := by decide +kernel
theorem dX9_signsBy_20 : decode cX9_signsBy 20 = .ok (.ifCond .eq 12, 3) := by decide +kernel
theorem dX9_signsBy_23 : decode cX9_signsBy 23 = .ok (.aload_n 0, 1) := by decide +kernel
theorem dX9_signsBy_24 : decode cX9_signsBy 24 = .ok (.iload 4, 2) := by decide +kernel
theorem dX9_signsBy_26 : decode cX9_signsBy 26 = .ok (.invokevirtual 162, 3) := by decide +kernel
theorem dX9_signsBy_29 : decode cX9_signsBy 29 = .ok (.ifCond .ne 5, 3) := by decide +kernel
theorem dX9_signsBy_32 : decode cX9_signsBy 32 = .ok (.iconst 0, 1) := by decide +kernel
theorem dX9_signsBy_33 : decode cX9_signsBy 33 = .ok (.ireturn, 1) := by decide +kernel
theorem dX9_signsBy_34 : decode cX9_signsBy 34 = .ok (.aload_n 0, 1) := by decide +kernel
theorem dX9_signsBy_35 : decode cX9_signsBy 35 = .ok (.getfield 35, 3) := by decide +kernel
theorem dX9_signsBy_38 : decode cX9_signsBy 38 = .ok (.iload 4, 2) := by decide +kernel
theorem dX9_signsBy_40 : decode cX9_signsBy 40 = .ok (.iaload, 1) := by decide +kernel
theorem dX9_signsBy_41 : decode cX9_signsBy 41 = .ok (.iload_n 3, 1) := by decide +kernel
theorem dX9_signsBy_42 : decode cX9_signsBy 42 = .ok (.if_icmp .ne 45, 3) := by decide +kernel
theorem dX9_signsBy_45 : decode cX9_signsBy 45 = .ok (.aload_n 0, 1) := by decide +kernel
theorem dX9_signsBy_46 : decode cX9_signsBy 46 = .ok (.getfield 38, 3) := by decide +kernel
theorem dX9_signsBy_49 : decode cX9_signsBy 49 = .ok (.iload 4, 2) := by decide +kernel
theorem dX9_signsBy_51 : decode cX9_signsBy 51 = .ok (.iaload, 1) := by decide +kernel
theorem dX9_signsBy_52 : decode cX9_signsBy 52 = .ok (.iload_n 2, 1) := by decide +kernel
theorem dX9_signsBy_53 : decode cX9_signsBy 53 = .ok (.if_icmp .ne 34, 3) := by decide +kernel
theorem dX9_signsBy_56 : decode cX9_signsBy 56 = .ok (.aload_n 0, 1) := by decide +kernel
theorem dX9_signsBy_57 : decode cX9_signsBy 57 = .ok (.getfield 41, 3) := by decide +kernel
theorem dX9_signsBy_60 : decode cX9_signsBy 60 = .ok (.iload 4, 2) := by decide +kernel
theorem dX9_signsBy_62 : decode cX9_signsBy 62 = .ok (.iaload, 1) := by decide +kernel
theorem dX9_signsBy_63 : decode cX9_signsBy 63 = .ok (.iconst (-1), 1) := by decide +kernel
theorem dX9_signsBy_64 : decode cX9_signsBy 64 = .ok (.if_icmp .eq 19, 3) := by decide +kernel
theorem dX9_signsBy_67 : decode cX9_signsBy 67 = .ok (.aload_n 0, 1) := by decide +kernel
theorem dX9_signsBy_68 : decode cX9_signsBy 68 = .ok (.getfield 41, 3) := by decide +kernel
theorem dX9_signsBy_71 : decode cX9_signsBy 71 = .ok (.iload 4, 2) := by decide +kernel
theorem dX9_signsBy_73 : decode cX9_signsBy 73 = .ok (.iaload, 1) := by decide +kernel
theorem dX9_signsBy_74 : decode cX9_signsBy 74 = .ok (.aload_n 0, 1) := by decide +kernel
theorem dX9_signsBy_75 : decode cX9_signsBy 75 = .ok (.getfield 41, 3) := by decide +kernel
theorem dX9_signsBy_78 : decode cX9_signsBy 78 = .ok (.iload_n 1, 1) := by decide +kernel
theorem dX9_signsBy_79 : decode cX9_signsBy 79 = .ok (.iaload, 1) := by decide +kernel
theorem dX9_signsBy_80 : decode cX9_signsBy 80 = .ok (.if_icmp .ne 7, 3) := by decide +kernel
theorem dX9_signsBy_83 : decode cX9_signsBy 83 = .ok (.iconst 1, 1) := by decide +kernel
theorem dX9_signsBy_84 : decode cX9_signsBy 84 = .ok (.goto 4, 3) := by decide +kernel
theorem dX9_signsBy_87 : decode cX9_signsBy 87 = .ok (.iconst 0, 1) := by decide +kernel
theorem dX9_signsBy_88 : decode cX9_signsBy 88 = .ok (.ireturn, 1) := by decide +kernel
theorem dX9_sign_0 : decode cX9_sign 0 = .ok (.aload_n 0, 1) := by decide +kernel
theorem dX9_sign_1 : decode cX9_sign 1 = .ok (.iload_n 1, 1) := by decide +kernel
theorem dX9_sign_2 : decode cX9_sign 2 = .ok (.invokevirtual 165, 3) := by decide +kernel
theorem dX9_sign_5 : decode cX9_sign 5 = .ok (.ifCond .eq 30, 3) := by decide +kernel
theorem dX9_sign_8 : decode cX9_sign 8 = .ok (.aload_n 0, 1) := by decide +kernel
theorem dX9_sign_9 : decode cX9_sign 9 = .ok (.iload_n 2, 1) := by decide +kernel
theorem dX9_sign_10 : decode cX9_sign 10 = .ok (.invokevirtual 137, 3) := by decide +kernel
theorem dX9_sign_13 : decode cX9_sign 13 = .ok (.ifCond .eq 22, 3) := by decide +kernel
theorem dX9_sign_16 : decode cX9_sign 16 = .ok (.iload 4, 2) := by decide +kernel
theorem dX9_sign_18 : decode cX9_sign 18 = .ok (.iconst (-1), 1) := by decide +kernel
theorem dX9_sign_19 : decode cX9_sign 19 = .ok (.if_icmp .eq 12, 3) := by decide +kernel
theorem dX9_sign_22 : decode cX9_sign 22 = .ok (.aload_n 0, 1) := by decide +kernel
theorem dX9_sign_23 : decode cX9_sign 23 = .ok (.iload 4, 2) := by decide +kernel
theorem dX9_sign_25 : decode cX9_sign 25 = .ok (.invokevirtual 165, 3) := by decide +kernel
theorem dX9_sign_28 : decode cX9_sign 28 = .ok (.ifCond .eq 7, 3) := by decide +kernel
theorem dX9_sign_31 : decode cX9_sign 31 = .ok (.iconst 1, 1) := by decide +kernel
theorem dX9_sign_32 : decode cX9_sign 32 = .ok (.goto 4, 3) := by decide +kernel
theorem dX9_sign_35 : decode cX9_sign 35 = .ok (.iconst 0, 1) := by decide +kernel
theorem dX9_sign_36 : decode cX9_sign 36 = .ok (.istore 5, 2) := by decide +kernel
theorem dX9_sign_38 : decode cX9_sign 38 = .ok (.iload 5, 2) := by decide +kernel
theorem dX9_sign_40 : decode cX9_sign 40 = .ok (.ifCond .ne 10, 3) := by decide +kernel
theorem dX9_sign_43 : decode cX9_sign 43 = .ok (.aload_n 0, 1) := by decide +kernel
theorem dX9_sign_44 : decode cX9_sign 44 = .ok (.iconst 1, 1) := by decide +kernel
theorem dX9_sign_45 : decode cX9_sign 45 = .ok (.putfield 117, 3) := by decide +kernel
theorem dX9_sign_48 : decode cX9_sign 48 = .ok (.iconst 0, 1) := by decide +kernel
theorem dX9_sign_49 : decode cX9_sign 49 = .ok (.ireturn, 1) := by decide +kernel
theorem dX9_sign_50 : decode cX9_sign 50 = .ok (.iload_n 3, 1) := by decide +kernel
theorem dX9_sign_51 : decode cX9_sign 51 = .ok (.ifCond .eq 7, 3) := by decide +kernel
theorem dX9_sign_54 : decode cX9_sign 54 = .ok (.iconst 1, 1) := by decide +kernel
theorem dX9_sign_55 : decode cX9_sign 55 = .ok (.goto 4, 3) := by decide +kernel
theorem dX9_sign_58 : decode cX9_sign 58 = .ok (.iconst 2, 1) := by decide +kernel
theorem dX9_sign_59 : decode cX9_sign 59 = .ok (.istore 6, 2) := by decide +kernel
theorem dX9_sign_61 : decode cX9_sign 61 = .ok (.iload_n 3, 1) := by decide +kernel
theorem dX9_sign_62 : decode cX9_sign 62 = .ok (.ifCond .eq 12, 3) := by decide +kernel
theorem dX9_sign_65 : decode cX9_sign 65 = .ok (.aload_n 0, 1) := by decide +kernel
theorem dX9_sign_66 : decode cX9_sign 66 = .ok (.getfield 35, 3) := by decide +kernel
theorem dX9_sign_69 : decode cX9_sign 69 = .ok (.iload_n 1, 1) := by decide +kernel
theorem dX9_sign_70 : decode cX9_sign 70 = .ok (.iaload, 1) := by decide +kernel
theorem dX9_sign_71 : decode cX9_sign 71 = .ok (.goto 9, 3) := by decide +kernel
theorem dX9_sign_74 : decode cX9_sign 74 = .ok (.aload_n 0, 1) := by decide +kernel
theorem dX9_sign_75 : decode cX9_sign 75 = .ok (.getfield 38, 3) := by decide +kernel
theorem dX9_sign_78 : decode cX9_sign 78 = .ok (.iload_n 1, 1) := by decide +kernel
theorem dX9_sign_79 : decode cX9_sign 79 = .ok (.iaload, 1) := by decide +kernel
theorem dX9_sign_80 : decode cX9_sign 80 = .ok (.istore 7, 2) := by decide +kernel
theorem dX9_sign_82 : decode cX9_sign 82 = .ok (.iload_n 3, 1) := by decide +kernel
theorem dX9_sign_83 : decode cX9_sign 83 = .ok (.ifCond .eq 12, 3) := by decide +kernel
theorem dX9_sign_86 : decode cX9_sign 86 = .ok (.aload_n 0, 1) := by decide +kernel
theorem dX9_sign_87 : decode cX9_sign 87 = .ok (.getfield 38, 3) := by decide +kernel
theorem dX9_sign_90 : decode cX9_sign 90 = .ok (.iload_n 1, 1) := by decide +kernel
theorem dX9_sign_91 : decode cX9_sign 91 = .ok (.iaload, 1) := by decide +kernel
theorem dX9_sign_92 : decode cX9_sign 92 = .ok (.goto 9, 3) := by decide +kernel
theorem dX9_sign_95 : decode cX9_sign 95 = .ok (.aload_n 0, 1) := by decide +kernel
theorem dX9_sign_96 : decode cX9_sign 96 = .ok (.getfield 35, 3) := by decide +kernel
theorem dX9_sign_99 : decode cX9_sign 99 = .ok (.iload_n 1, 1) := by decide +kernel
theorem dX9_sign_100 : decode cX9_sign 100 = .ok (.iaload, 1) := by decide +kernel
theorem dX9_sign_101 : decode cX9_sign 101 = .ok (.istore 8, 2) := by decide +kernel
theorem dX9_sign_103 : decode cX9_sign 103 = .ok (.iload_n 2, 1) := by decide +kernel
theorem dX9_sign_104 : decode cX9_sign 104 = .ok (.iload 7, 2) := by decide +kernel
theorem dX9_sign_106 : decode cX9_sign 106 = .ok (.if_icmp .ne 16, 3) := by decide +kernel
theorem dX9_sign_109 : decode cX9_sign 109 = .ok (.aload_n 0, 1) := by decide +kernel
theorem dX9_sign_110 : decode cX9_sign 110 = .ok (.iload 7, 2) := by decide +kernel
theorem dX9_sign_112 : decode cX9_sign 112 = .ok (.invokevirtual 146, 3) := by decide +kernel
theorem dX9_sign_115 : decode cX9_sign 115 = .ok (.ifCond .eq 7, 3) := by decide +kernel
theorem dX9_sign_118 : decode cX9_sign 118 = .ok (.iconst 1, 1) := by decide +kernel
theorem dX9_sign_119 : decode cX9_sign 119 = .ok (.goto 4, 3) := by decide +kernel
theorem dX9_sign_122 : decode cX9_sign 122 = .ok (.iconst 0, 1) := by decide +kernel
theorem dX9_sign_123 : decode cX9_sign 123 = .ok (.istore 9, 2) := by decide +kernel
theorem dX9_sign_125 : decode cX9_sign 125 = .ok (.iload_n 2, 1) := by decide +kernel
theorem dX9_sign_126 : decode cX9_sign 126 = .ok (.iload 8, 2) := by decide +kernel
theorem dX9_sign_128 : decode cX9_sign 128 = .ok (.if_icmp .eq 27, 3) := by decide +kernel
theorem dX9_sign_131 : decode cX9_sign 131 = .ok (.aload_n 0, 1) := by decide +kernel
theorem dX9_sign_132 : decode cX9_sign 132 = .ok (.iload_n 2, 1) := by decide +kernel
theorem dX9_sign_133 : decode cX9_sign 133 = .ok (.iload 7, 2) := by decide +kernel
theorem dX9_sign_135 : decode cX9_sign 135 = .ok (.invokevirtual 168, 3) := by decide +kernel
theorem dX9_sign_138 : decode cX9_sign 138 = .ok (.ifCond .eq 17, 3) := by decide +kernel
theorem dX9_sign_141 : decode cX9_sign 141 = .ok (.aload_n 0, 1) := by decide +kernel
theorem dX9_sign_142 : decode cX9_sign 142 = .ok (.getfield 32, 3) := by decide +kernel
theorem dX9_sign_145 : decode cX9_sign 145 = .ok (.iload_n 1, 1) := by decide +kernel
theorem dX9_sign_146 : decode cX9_sign 146 = .ok (.iaload, 1) := by decide +kernel
theorem dX9_sign_147 : decode cX9_sign 147 = .ok (.iconst 4, 1) := by decide +kernel
theorem dX9_sign_148 : decode cX9_sign 148 = .ok (.if_icmp .eq 7, 3) := by decide +kernel
theorem dX9_sign_151 : decode cX9_sign 151 = .ok (.iconst 1, 1) := by decide +kernel
theorem dX9_sign_152 : decode cX9_sign 152 = .ok (.goto 4, 3) := by decide +kernel
theorem dX9_sign_155 : decode cX9_sign 155 = .ok (.iconst 0, 1) := by decide +kernel
theorem dX9_sign_156 : decode cX9_sign 156 = .ok (.istore 10, 2) := by decide +kernel
theorem dX9_sign_158 : decode cX9_sign 158 = .ok (.iload_n 2, 1) := by decide +kernel
theorem dX9_sign_159 : decode cX9_sign 159 = .ok (.iload 8, 2) := by decide +kernel
theorem dX9_sign_161 : decode cX9_sign 161 = .ok (.if_icmp .eq 30, 3) := by decide +kernel
theorem dX9_sign_164 : decode cX9_sign 164 = .ok (.aload_n 0, 1) := by decide +kernel
theorem dX9_sign_165 : decode cX9_sign 165 = .ok (.iload_n 1, 1) := by decide +kernel
theorem dX9_sign_166 : decode cX9_sign 166 = .ok (.iload_n 2, 1) := by decide +kernel
theorem dX9_sign_167 : decode cX9_sign 167 = .ok (.iload 7, 2) := by decide +kernel
theorem dX9_sign_169 : decode cX9_sign 169 = .ok (.iload 4, 2) := by decide +kernel
theorem dX9_sign_171 : decode cX9_sign 171 = .ok (.invokevirtual 171, 3) := by decide +kernel
theorem dX9_sign_174 : decode cX9_sign 174 = .ok (.ifCond .eq 17, 3) := by decide +kernel
theorem dX9_sign_177 : decode cX9_sign 177 = .ok (.aload_n 0, 1) := by decide +kernel
theorem dX9_sign_178 : decode cX9_sign 178 = .ok (.getfield 32, 3) := by decide +kernel
theorem dX9_sign_181 : decode cX9_sign 181 = .ok (.iload_n 1, 1) := by decide +kernel
theorem dX9_sign_182 : decode cX9_sign 182 = .ok (.iaload, 1) := by decide +kernel
theorem dX9_sign_183 : decode cX9_sign 183 = .ok (.iconst 4, 1) := by decide +kernel
theorem dX9_sign_184 : decode cX9_sign 184 = .ok (.if_icmp .eq 7, 3) := by decide +kernel
theorem dX9_sign_187 : decode cX9_sign 187 = .ok (.iconst 1, 1) := by decide +kernel
theorem dX9_sign_188 : decode cX9_sign 188 = .ok (.goto 4, 3) := by decide +kernel
theorem dX9_sign_191 : decode cX9_sign 191 = .ok (.iconst 0, 1) := by decide +kernel
theorem dX9_sign_192 : decode cX9_sign 192 = .ok (.istore 11, 2) := by decide +kernel
theorem dX9_sign_194 : decode cX9_sign 194 = .ok (.iload 9, 2) := by decide +kernel
theorem dX9_sign_196 : decode cX9_sign 196 = .ok (.ifCond .ne 13, 3) := by decide +kernel
theorem dX9_sign_199 : decode cX9_sign 199 = .ok (.iload 10, 2) := by decide +kernel
theorem dX9_sign_201 : decode cX9_sign 201 = .ok (.ifCond .ne 8, 3) := by decide +kernel
theorem dX9_sign_204 : decode cX9_sign 204 = .ok (.iload 11, 2) := by decide +kernel
theorem dX9_sign_206 : decode cX9_sign 206 = .ok (.ifCond .eq 21, 3) := by decide +kernel
theorem dX9_sign_209 : decode cX9_sign 209 = .ok (.aload_n 0, 1) := by decide +kernel
theorem dX9_sign_210 : decode cX9_sign 210 = .ok (.getfield 32, 3) := by decide +kernel
theorem dX9_sign_213 : decode cX9_sign 213 = .ok (.iload_n 1, 1) := by decide +kernel
theorem dX9_sign_214 : decode cX9_sign 214 = .ok (.iaload, 1) := by decide +kernel
theorem dX9_sign_215 : decode cX9_sign 215 = .ok (.iconst 4, 1) := by decide +kernel
theorem dX9_sign_216 : decode cX9_sign 216 = .ok (.if_icmp .ne 7, 3) := by decide +kernel
theorem dX9_sign_219 : decode cX9_sign 219 = .ok (.iload_n 3, 1) := by decide +kernel
theorem dX9_sign_220 : decode cX9_sign 220 = .ok (.ifCond .eq 7, 3) := by decide +kernel
theorem dX9_sign_223 : decode cX9_sign 223 = .ok (.iconst 1, 1) := by decide +kernel
theorem dX9_sign_224 : decode cX9_sign 224 = .ok (.goto 4, 3) := by decide +kernel
theorem dX9_sign_227 : decode cX9_sign 227 = .ok (.iconst 0, 1) := by decide +kernel
theorem dX9_sign_228 : decode cX9_sign 228 = .ok (.istore 12, 2) := by decide +kernel
theorem dX9_sign_230 : decode cX9_sign 230 = .ok (.aload_n 0, 1) := by decide +kernel
theorem dX9_sign_231 : decode cX9_sign 231 = .ok (.aload_n 0, 1) := by decide +kernel
theorem dX9_sign_232 : decode cX9_sign 232 = .ok (.getfield 65, 3) := by decide +kernel
theorem dX9_sign_235 : decode cX9_sign 235 = .ok (.iload_n 1, 1) := by decide +kernel
theorem dX9_sign_236 : decode cX9_sign 236 = .ok (.iaload, 1) := by decide +kernel
theorem dX9_sign_237 : decode cX9_sign 237 = .ok (.ifCond .ne 20, 3) := by decide +kernel
theorem dX9_sign_240 : decode cX9_sign 240 = .ok (.aload_n 0, 1) := by decide +kernel
theorem dX9_sign_241 : decode cX9_sign 241 = .ok (.getfield 59, 3) := by decide +kernel
theorem dX9_sign_244 : decode cX9_sign 244 = .ok (.iload_n 1, 1) := by decide +kernel
theorem dX9_sign_245 : decode cX9_sign 245 = .ok (.iaload, 1) := by decide +kernel
theorem dX9_sign_246 : decode cX9_sign 246 = .ok (.iload 6, 2) := by decide +kernel
theorem dX9_sign_248 : decode cX9_sign 248 = .ok (.iand, 1) := by decide +kernel
theorem dX9_sign_249 : decode cX9_sign 249 = .ok (.ifCond .gt 8, 3) := by decide +kernel
theorem dX9_sign_252 : decode cX9_sign 252 = .ok (.iload 12, 2) := by decide +kernel
theorem dX9_sign_254 : decode cX9_sign 254 = .ok (.ifCond .ne 7, 3) := by decide +kernel
theorem dX9_sign_257 : decode cX9_sign 257 = .ok (.iconst 2, 1) := by decide +kernel
theorem dX9_sign_258 : decode cX9_sign 258 = .ok (.goto 4, 3) := by decide +kernel
theorem dX9_sign_261 : decode cX9_sign 261 = .ok (.iconst 0, 1) := by decide +kernel
theorem dX9_sign_262 : decode cX9_sign 262 = .ok (.putfield 117, 3) := by decide +kernel
theorem dX9_sign_265 : decode cX9_sign 265 = .ok (.aload_n 0, 1) := by decide +kernel
theorem dX9_sign_266 : decode cX9_sign 266 = .ok (.getfield 117, 3) := by decide +kernel
theorem dX9_sign_269 : decode cX9_sign 269 = .ok (.ifCond .le 5, 3) := by decide +kernel
theorem dX9_sign_272 : decode cX9_sign 272 = .ok (.iconst 0, 1) := by decide +kernel
theorem dX9_sign_273 : decode cX9_sign 273 = .ok (.ireturn, 1) := by decide +kernel
theorem dX9_sign_274 : decode cX9_sign 274 = .ok (.aload_n 0, 1) := by decide +kernel
theorem dX9_sign_275 : decode cX9_sign 275 = .ok (.getfield 59, 3) := by decide +kernel
theorem dX9_sign_278 : decode cX9_sign 278 = .ok (.iload_n 1, 1) := by decide +kernel
theorem dX9_sign_279 : decode cX9_sign 279 = .ok (.dup2, 1) := by decide +kernel
theorem dX9_sign_280 : decode cX9_sign 280 = .ok (.iaload, 1) := by decide +kernel
theorem dX9_sign_281 : decode cX9_sign 281 = .ok (.iload 6, 2) := by decide +kernel
theorem dX9_sign_283 : decode cX9_sign 283 = .ok (.ior, 1) := by decide +kernel
theorem dX9_sign_284 : decode cX9_sign 284 = .ok (.iastore, 1) := by decide +kernel
theorem dX9_sign_285 : decode cX9_sign 285 = .ok (.iload_n 3, 1) := by decide +kernel
theorem dX9_sign_286 : decode cX9_sign 286 = .ok (.ifCond .eq 21, 3) := by decide +kernel
theorem dX9_sign_289 : decode cX9_sign 289 = .ok (.iload 9, 2) := by decide +kernel
theorem dX9_sign_291 : decode cX9_sign 291 = .ok (.ifCond .ne 16, 3) := by decide +kernel
theorem dX9_sign_294 : decode cX9_sign 294 = .ok (.iload 10, 2) := by decide +kernel
theorem dX9_sign_296 : decode cX9_sign 296 = .ok (.ifCond .ne 11, 3) := by decide +kernel
theorem dX9_sign_299 : decode cX9_sign 299 = .ok (.aload_n 0, 1) := by decide +kernel
theorem dX9_sign_300 : decode cX9_sign 300 = .ok (.getfield 56, 3) := by decide +kernel
theorem dX9_sign_303 : decode cX9_sign 303 = .ok (.iload_n 1, 1) := by decide +kernel
theorem dX9_sign_304 : decode cX9_sign 304 = .ok (.iload 4, 2) := by decide +kernel
theorem dX9_sign_306 : decode cX9_sign 306 = .ok (.iastore, 1) := by decide +kernel
theorem dX9_sign_307 : decode cX9_sign 307 = .ok (.aload_n 0, 1) := by decide +kernel
theorem dX9_sign_308 : decode cX9_sign 308 = .ok (.getfield 59, 3) := by decide +kernel
theorem dX9_sign_311 : decode cX9_sign 311 = .ok (.iload_n 1, 1) := by decide +kernel
theorem dX9_sign_312 : decode cX9_sign 312 = .ok (.iaload, 1) := by decide +kernel
theorem dX9_sign_313 : decode cX9_sign 313 = .ok (.ireturn, 1) := by decide +kernel
theorem dX9_add_0 : decode cX9_add 0 = .ok (.aload_n 0, 1) := by decide +kernel
theorem dX9_add_1 : decode cX9_add 1 = .ok (.aload_n 0, 1) := by decide +kernel
theorem dX9_add_2 : decode cX9_add 2 = .ok (.iload_n 1, 1) := by decide +kernel
theorem dX9_add_3 : decode cX9_add 3 = .ok (.invokevirtual 165, 3) := by decide +kernel
theorem dX9_add_6 : decode cX9_add 6 = .ok (.ifCond .ne 7, 3) := by decide +kernel
theorem dX9_add_9 : decode cX9_add 9 = .ok (.iconst 1, 1) := by decide +kernel
theorem dX9_add_10 : decode cX9_add 10 = .ok (.goto 43, 3) := by decide +kernel
theorem dX9_add_13 : decode cX9_add 13 = .ok (.iload_n 2, 1) := by decide +kernel
theorem dX9_add_14 : decode cX9_add 14 = .ok (.iconst 4, 1) := by decide +kernel
theorem dX9_add_15 : decode cX9_add 15 = .ok (.if_icmp .eq 13, 3) := by decide +kernel
theorem dX9_add_18 : decode cX9_add 18 = .ok (.iload_n 2, 1) := by decide +kernel
theorem dX9_add_19 : decode cX9_add 19 = .ok (.bipush 16, 2) := by decide +kernel
theorem dX9_add_21 : decode cX9_add 21 = .ok (.if_icmp .eq 7, 3) := by decide +kernel
theorem dX9_add_24 : decode cX9_add 24 = .ok (.iconst 2, 1) := by decide +kernel
theorem dX9_add_25 : decode cX9_add 25 = .ok (.goto 28, 3) := by decide +kernel
theorem dX9_add_28 : decode cX9_add 28 = .ok (.aload_n 0, 1) := by decide +kernel
theorem dX9_add_29 : decode cX9_add 29 = .ok (.getfield 65, 3) := by decide +kernel
theorem dX9_add_32 : decode cX9_add 32 = .ok (.iload_n 1, 1) := by decide +kernel
theorem dX9_add_33 : decode cX9_add 33 = .ok (.iaload, 1) := by decide +kernel
theorem dX9_add_34 : decode cX9_add 34 = .ok (.ifCond .ne 14, 3) := by decide +kernel
theorem dX9_add_37 : decode cX9_add 37 = .ok (.aload_n 0, 1) := by decide +kernel
theorem dX9_add_38 : decode cX9_add 38 = .ok (.getfield 59, 3) := by decide +kernel
theorem dX9_add_41 : decode cX9_add 41 = .ok (.iload_n 1, 1) := by decide +kernel
theorem dX9_add_42 : decode cX9_add 42 = .ok (.iaload, 1) := by decide +kernel
theorem dX9_add_43 : decode cX9_add 43 = .ok (.iload_n 2, 1) := by decide +kernel
theorem dX9_add_44 : decode cX9_add 44 = .ok (.iand, 1) := by decide +kernel
theorem dX9_add_45 : decode cX9_add 45 = .ok (.ifCond .le 7, 3) := by decide +kernel
theorem dX9_add_48 : decode cX9_add 48 = .ok (.iconst 3, 1) := by decide +kernel
theorem dX9_add_49 : decode cX9_add 49 = .ok (.goto 4, 3) := by decide +kernel
theorem dX9_add_52 : decode cX9_add 52 = .ok (.iconst 0, 1) := by decide +kernel
theorem dX9_add_53 : decode cX9_add 53 = .ok (.putfield 117, 3) := by decide +kernel
theorem dX9_add_56 : decode cX9_add 56 = .ok (.aload_n 0, 1) := by decide +kernel
theorem dX9_add_57 : decode cX9_add 57 = .ok (.getfield 117, 3) := by decide +kernel
theorem dX9_add_60 : decode cX9_add 60 = .ok (.ifCond .le 5, 3) := by decide +kernel
theorem dX9_add_63 : decode cX9_add 63 = .ok (.iconst 0, 1) := by decide +kernel
theorem dX9_add_64 : decode cX9_add 64 = .ok (.ireturn, 1) := by decide +kernel
theorem dX9_add_65 : decode cX9_add 65 = .ok (.aload_n 0, 1) := by decide +kernel
theorem dX9_add_66 : decode cX9_add 66 = .ok (.getfield 59, 3) := by decide +kernel
theorem dX9_add_69 : decode cX9_add 69 = .ok (.iload_n 1, 1) := by decide +kernel
theorem dX9_add_70 : decode cX9_add 70 = .ok (.dup2, 1) := by decide +kernel
theorem dX9_add_71 : decode cX9_add 71 = .ok (.iaload, 1) := by decide +kernel
theorem dX9_add_72 : decode cX9_add 72 = .ok (.iload_n 2, 1) := by decide +kernel
theorem dX9_add_73 : decode cX9_add 73 = .ok (.ior, 1) := by decide +kernel
theorem dX9_add_74 : decode cX9_add 74 = .ok (.iastore, 1) := by decide +kernel
theorem dX9_add_75 : decode cX9_add 75 = .ok (.aload_n 0, 1) := by decide +kernel
theorem dX9_add_76 : decode cX9_add 76 = .ok (.getfield 59, 3) := by decide +kernel
theorem dX9_add_79 : decode cX9_add 79 = .ok (.iload_n 1, 1) := by decide +kernel
theorem dX9_add_80 : decode cX9_add 80 = .ok (.iaload, 1) := by decide +kernel
theorem dX9_add_81 : decode cX9_add 81 = .ok (.ireturn, 1) := by decide +kernel
theorem dX9_isKin_0 : decode cX9_isKin 0 = .ok (.aload_n 0, 1) := by decide +kernel
theorem dX9_isKin_1 : decode cX9_isKin 1 = .ok (.iload_n 1, 1) := by decide +kernel
theorem dX9_isKin_2 : decode cX9_isKin 2 = .ok (.iload_n 2, 1) := by decide +kernel
theorem dX9_isKin_3 : decode cX9_isKin 3 = .ok (.invokevirtual 141, 3) := by decide +kernel
theorem dX9_isKin_6 : decode cX9_isKin 6 = .ok (.ifCond .ne 12, 3) := by decide +kernel
theorem dX9_isKin_9 : decode cX9_isKin 9 = .ok (.aload_n 0, 1) := by decide +kernel
theorem dX9_isKin_10 : decode cX9_isKin 10 = .ok (.iload_n 2, 1) := by decide +kernel
theorem dX9_isKin_11 : decode cX9_isKin 11 = .ok (.iload_n 1, 1) := by decide +kernel
theorem dX9_isKin_12 : decode cX9_isKin 12 = .ok (.invokevirtual 141, 3) := by decide +kernel
theorem dX9_isKin_15 : decode cX9_isKin 15 = .ok (.ifCond .eq 7, 3) := by decide +kernel
theorem dX9_isKin_18 : decode cX9_isKin 18 = .ok (.iconst 1, 1) := by decide +kernel
theorem dX9_isKin_19 : decode cX9_isKin 19 = .ok (.goto 4, 3) := by decide +kernel
theorem dX9_isKin_22 : decode cX9_isKin 22 = .ok (.iconst 0, 1) := by decide +kernel
theorem dX9_isKin_23 : decode cX9_isKin 23 = .ok (.ireturn, 1) := by decide +kernel
theorem dX9_witness_0 : decode cX9_witness 0 = .ok (.aload_n 0, 1) := by decide +kernel
theorem dX9_witness_1 : decode cX9_witness 1 = .ok (.aload_n 0, 1) := by decide +kernel
theorem dX9_witness_2 : decode cX9_witness 2 = .ok (.iload_n 1, 1) := by decide +kernel
theorem dX9_witness_3 : decode cX9_witness 3 = .ok (.invokevirtual 165, 3) := by decide +kernel
theorem dX9_witness_6 : decode cX9_witness 6 = .ok (.ifCond .eq 15, 3) := by decide +kernel
theorem dX9_witness_9 : decode cX9_witness 9 = .ok (.aload_n 0, 1) := by decide +kernel
theorem dX9_witness_10 : decode cX9_witness 10 = .ok (.iload_n 2, 1) := by decide +kernel
theorem dX9_witness_11 : decode cX9_witness 11 = .ok (.invokevirtual 137, 3) := by decide +kernel
theorem dX9_witness_14 : decode cX9_witness 14 = .ok (.ifCond .eq 7, 3) := by decide +kernel
theorem dX9_witness_17 : decode cX9_witness 17 = .ok (.iconst 0, 1) := by decide +kernel
theorem dX9_witness_18 : decode cX9_witness 18 = .ok (.goto 4, 3) := by decide +kernel
theorem dX9_witness_21 : decode cX9_witness 21 = .ok (.iconst 1, 1) := by decide +kernel
theorem dX9_witness_22 : decode cX9_witness 22 = .ok (.putfield 117, 3) := by decide +kernel
theorem dX9_witness_25 : decode cX9_witness 25 = .ok (.aload_n 0, 1) := by decide +kernel
theorem dX9_witness_26 : decode cX9_witness 26 = .ok (.getfield 117, 3) := by decide +kernel
theorem dX9_witness_29 : decode cX9_witness 29 = .ok (.ifCond .le 5, 3) := by decide +kernel
theorem dX9_witness_32 : decode cX9_witness 32 = .ok (.iconst 0, 1) := by decide +kernel
theorem dX9_witness_33 : decode cX9_witness 33 = .ok (.ireturn, 1) := by decide +kernel
theorem dX9_witness_34 : decode cX9_witness 34 = .ok (.aload_n 0, 1) := by decide +kernel
theorem dX9_witness_35 : decode cX9_witness 35 = .ok (.iload_n 2, 1) := by decide +kernel
theorem dX9_witness_36 : decode cX9_witness 36 = .ok (.invokevirtual 146, 3) := by decide +kernel
theorem dX9_witness_39 : decode cX9_witness 39 = .ok (.ifCond .eq 55, 3) := by decide +kernel
theorem dX9_witness_42 : decode cX9_witness 42 = .ok (.iload_n 2, 1) := by decide +kernel
theorem dX9_witness_43 : decode cX9_witness 43 = .ok (.aload_n 0, 1) := by decide +kernel
theorem dX9_witness_44 : decode cX9_witness 44 = .ok (.getfield 35, 3) := by decide +kernel
theorem dX9_witness_47 : decode cX9_witness 47 = .ok (.iload_n 1, 1) := by decide +kernel
theorem dX9_witness_48 : decode cX9_witness 48 = .ok (.iaload, 1) := by decide +kernel
theorem dX9_witness_49 : decode cX9_witness 49 = .ok (.if_icmp .eq 45, 3) := by decide +kernel
theorem dX9_witness_52 : decode cX9_witness 52 = .ok (.iload_n 2, 1) := by decide +kernel
theorem dX9_witness_53 : decode cX9_witness 53 = .ok (.aload_n 0, 1) := by decide +kernel
theorem dX9_witness_54 : decode cX9_witness 54 = .ok (.getfield 38, 3) := by decide +kernel
theorem dX9_witness_57 : decode cX9_witness 57 = .ok (.iload_n 1, 1) := by decide +kernel
theorem dX9_witness_58 : decode cX9_witness 58 = .ok (.iaload, 1) := by decide +kernel
theorem dX9_witness_59 : decode cX9_witness 59 = .ok (.if_icmp .eq 35, 3) := by decide +kernel
theorem dX9_witness_62 : decode cX9_witness 62 = .ok (.aload_n 0, 1) := by decide +kernel
theorem dX9_witness_63 : decode cX9_witness 63 = .ok (.iload_n 2, 1) := by decide +kernel
theorem dX9_witness_64 : decode cX9_witness 64 = .ok (.aload_n 0, 1) := by decide +kernel
theorem dX9_witness_65 : decode cX9_witness 65 = .ok (.getfield 35, 3) := by decide +kernel
theorem dX9_witness_68 : decode cX9_witness 68 = .ok (.iload_n 1, 1) := by decide +kernel
theorem dX9_witness_69 : decode cX9_witness 69 = .ok (.iaload, 1) := by decide +kernel
theorem dX9_witness_70 : decode cX9_witness 70 = .ok (.invokevirtual 175, 3) := by decide +kernel
theorem dX9_witness_73 : decode cX9_witness 73 = .ok (.ifCond .ne 21, 3) := by decide +kernel
theorem dX9_witness_76 : decode cX9_witness 76 = .ok (.aload_n 0, 1) := by decide +kernel
theorem dX9_witness_77 : decode cX9_witness 77 = .ok (.iload_n 2, 1) := by decide +kernel
theorem dX9_witness_78 : decode cX9_witness 78 = .ok (.aload_n 0, 1) := by decide +kernel
theorem dX9_witness_79 : decode cX9_witness 79 = .ok (.getfield 38, 3) := by decide +kernel
theorem dX9_witness_82 : decode cX9_witness 82 = .ok (.iload_n 1, 1) := by decide +kernel
theorem dX9_witness_83 : decode cX9_witness 83 = .ok (.iaload, 1) := by decide +kernel
theorem dX9_witness_84 : decode cX9_witness 84 = .ok (.invokevirtual 175, 3) := by decide +kernel
theorem dX9_witness_87 : decode cX9_witness 87 = .ok (.ifCond .ne 7, 3) := by decide +kernel
theorem dX9_witness_90 : decode cX9_witness 90 = .ok (.iconst 1, 1) := by decide +kernel
theorem dX9_witness_91 : decode cX9_witness 91 = .ok (.goto 4, 3) := by decide +kernel
theorem dX9_witness_94 : decode cX9_witness 94 = .ok (.iconst 0, 1) := by decide +kernel
theorem dX9_witness_95 : decode cX9_witness 95 = .ok (.istore_n 3, 1) := by decide +kernel
theorem dX9_witness_96 : decode cX9_witness 96 = .ok (.aload_n 0, 1) := by decide +kernel
theorem dX9_witness_97 : decode cX9_witness 97 = .ok (.aload_n 0, 1) := by decide +kernel
theorem dX9_witness_98 : decode cX9_witness 98 = .ok (.getfield 65, 3) := by decide +kernel
theorem dX9_witness_101 : decode cX9_witness 101 = .ok (.iload_n 1, 1) := by decide +kernel
theorem dX9_witness_102 : decode cX9_witness 102 = .ok (.iaload, 1) := by decide +kernel
theorem dX9_witness_103 : decode cX9_witness 103 = .ok (.ifCond .ne 21, 3) := by decide +kernel
theorem dX9_witness_106 : decode cX9_witness 106 = .ok (.aload_n 0, 1) := by decide +kernel
theorem dX9_witness_107 : decode cX9_witness 107 = .ok (.getfield 62, 3) := by decide +kernel
theorem dX9_witness_110 : decode cX9_witness 110 = .ok (.iload_n 1, 1) := by decide +kernel
theorem dX9_witness_111 : decode cX9_witness 111 = .ok (.iaload, 1) := by decide +kernel
theorem dX9_witness_112 : decode cX9_witness 112 = .ok (.iload_n 2, 1) := by decide +kernel
theorem dX9_witness_113 : decode cX9_witness 113 = .ok (.ishr, 1) := by decide +kernel
theorem dX9_witness_114 : decode cX9_witness 114 = .ok (.iconst 1, 1) := by decide +kernel
theorem dX9_witness_115 : decode cX9_witness 115 = .ok (.iand, 1) := by decide +kernel
theorem dX9_witness_116 : decode cX9_witness 116 = .ok (.iconst 1, 1) := by decide +kernel
theorem dX9_witness_117 : decode cX9_witness 117 = .ok (.if_icmp .eq 7, 3) := by decide +kernel
theorem dX9_witness_120 : decode cX9_witness 120 = .ok (.iload_n 3, 1) := by decide +kernel
theorem dX9_witness_121 : decode cX9_witness 121 = .ok (.ifCond .ne 7, 3) := by decide +kernel
theorem dX9_witness_124 : decode cX9_witness 124 = .ok (.iconst 2, 1) := by decide +kernel
theorem dX9_witness_125 : decode cX9_witness 125 = .ok (.goto 4, 3) := by decide +kernel
theorem dX9_witness_128 : decode cX9_witness 128 = .ok (.iconst 0, 1) := by decide +kernel
theorem dX9_witness_129 : decode cX9_witness 129 = .ok (.putfield 117, 3) := by decide +kernel
theorem dX9_witness_132 : decode cX9_witness 132 = .ok (.aload_n 0, 1) := by decide +kernel
theorem dX9_witness_133 : decode cX9_witness 133 = .ok (.getfield 117, 3) := by decide +kernel
theorem dX9_witness_136 : decode cX9_witness 136 = .ok (.ifCond .le 5, 3) := by decide +kernel
theorem dX9_witness_139 : decode cX9_witness 139 = .ok (.iconst 0, 1) := by decide +kernel
theorem dX9_witness_140 : decode cX9_witness 140 = .ok (.ireturn, 1) := by decide +kernel
theorem dX9_witness_141 : decode cX9_witness 141 = .ok (.aload_n 0, 1) := by decide +kernel
theorem dX9_witness_142 : decode cX9_witness 142 = .ok (.getfield 59, 3) := by decide +kernel
theorem dX9_witness_145 : decode cX9_witness 145 = .ok (.iload_n 1, 1) := by decide +kernel
theorem dX9_witness_146 : decode cX9_witness 146 = .ok (.dup2, 1) := by decide +kernel
theorem dX9_witness_147 : decode cX9_witness 147 = .ok (.iaload, 1) := by decide +kernel
theorem dX9_witness_148 : decode cX9_witness 148 = .ok (.aload_n 0, 1) := by decide +kernel
theorem dX9_witness_149 : decode cX9_witness 149 = .ok (.getfield 62, 3) := by decide +kernel
theorem dX9_witness_152 : decode cX9_witness 152 = .ok (.iload_n 1, 1) := by decide +kernel
theorem dX9_witness_153 : decode cX9_witness 153 = .ok (.iaload, 1) := by decide +kernel
theorem dX9_witness_154 : decode cX9_witness 154 = .ok (.ifCond .eq 8, 3) := by decide +kernel
theorem dX9_witness_157 : decode cX9_witness 157 = .ok (.bipush 8, 2) := by decide +kernel
theorem dX9_witness_159 : decode cX9_witness 159 = .ok (.goto 4, 3) := by decide +kernel
theorem dX9_witness_162 : decode cX9_witness 162 = .ok (.iconst 0, 1) := by decide +kernel
theorem dX9_witness_163 : decode cX9_witness 163 = .ok (.ior, 1) := by decide +kernel
theorem dX9_witness_164 : decode cX9_witness 164 = .ok (.iastore, 1) := by decide +kernel
theorem dX9_witness_165 : decode cX9_witness 165 = .ok (.aload_n 0, 1) := by decide +kernel
theorem dX9_witness_166 : decode cX9_witness 166 = .ok (.getfield 62, 3) := by decide +kernel
theorem dX9_witness_169 : decode cX9_witness 169 = .ok (.iload_n 1, 1) := by decide +kernel
theorem dX9_witness_170 : decode cX9_witness 170 = .ok (.dup2, 1) := by decide +kernel
theorem dX9_witness_171 : decode cX9_witness 171 = .ok (.iaload, 1) := by decide +kernel
theorem dX9_witness_172 : decode cX9_witness 172 = .ok (.iconst 1, 1) := by decide +kernel
theorem dX9_witness_173 : decode cX9_witness 173 = .ok (.iload_n 2, 1) := by decide +kernel
theorem dX9_witness_174 : decode cX9_witness 174 = .ok (.ishl, 1) := by decide +kernel
theorem dX9_witness_175 : decode cX9_witness 175 = .ok (.ior, 1) := by decide +kernel
theorem dX9_witness_176 : decode cX9_witness 176 = .ok (.iastore, 1) := by decide +kernel
theorem dX9_witness_177 : decode cX9_witness 177 = .ok (.aload_n 0, 1) := by decide +kernel
theorem dX9_witness_178 : decode cX9_witness 178 = .ok (.getfield 59, 3) := by decide +kernel
theorem dX9_witness_181 : decode cX9_witness 181 = .ok (.iload_n 1, 1) := by decide +kernel
theorem dX9_witness_182 : decode cX9_witness 182 = .ok (.iaload, 1) := by decide +kernel
theorem dX9_witness_183 : decode cX9_witness 183 = .ok (.ireturn, 1) := by decide +kernel
theorem dX9_isOfThing_0 : decode cX9_isOfThing 0 = .ok (.aload_n 0, 1) := by decide +kernel
theorem dX9_isOfThing_1 : decode cX9_isOfThing 1 = .ok (.getfield 32, 3) := by decide +kernel
theorem dX9_isOfThing_4 : decode cX9_isOfThing 4 = .ok (.iload_n 1, 1) := by decide +kernel
theorem dX9_isOfThing_5 : decode cX9_isOfThing 5 = .ok (.iaload, 1) := by decide +kernel
theorem dX9_isOfThing_6 : decode cX9_isOfThing 6 = .ok (.iconst 2, 1) := by decide +kernel
theorem dX9_isOfThing_7 : decode cX9_isOfThing 7 = .ok (.if_icmp .gt 7, 3) := by decide +kernel
theorem dX9_isOfThing_10 : decode cX9_isOfThing 10 = .ok (.iconst 1, 1) := by decide +kernel
theorem dX9_isOfThing_11 : decode cX9_isOfThing 11 = .ok (.goto 4, 3) := by decide +kernel
theorem dX9_isOfThing_14 : decode cX9_isOfThing 14 = .ok (.iconst 0, 1) := by decide +kernel
theorem dX9_isOfThing_15 : decode cX9_isOfThing 15 = .ok (.ireturn, 1) := by decide +kernel
theorem dX9_needs_0 : decode cX9_needs 0 = .ok (.iconst 5, 1) := by decide +kernel
theorem dX9_needs_1 : decode cX9_needs 1 = .ok (.istore_n 2, 1) := by decide +kernel
theorem dX9_needs_2 : decode cX9_needs 2 = .ok (.iload_n 2, 1) := by decide +kernel
theorem dX9_needs_3 : decode cX9_needs 3 = .ok (.aload_n 0, 1) := by decide +kernel
theorem dX9_needs_4 : decode cX9_needs 4 = .ok (.iload_n 1, 1) := by decide +kernel
theorem dX9_needs_5 : decode cX9_needs 5 = .ok (.invokevirtual 178, 3) := by decide +kernel
theorem dX9_needs_8 : decode cX9_needs 8 = .ok (.ifCond .eq 7, 3) := by decide +kernel
theorem dX9_needs_11 : decode cX9_needs 11 = .ok (.iconst 2, 1) := by decide +kernel
theorem dX9_needs_12 : decode cX9_needs 12 = .ok (.goto 4, 3) := by decide +kernel
theorem dX9_needs_15 : decode cX9_needs 15 = .ok (.iconst 0, 1) := by decide +kernel
theorem dX9_needs_16 : decode cX9_needs 16 = .ok (.ior, 1) := by decide +kernel
theorem dX9_needs_17 : decode cX9_needs 17 = .ok (.istore_n 2, 1) := by decide +kernel
theorem dX9_needs_18 : decode cX9_needs 18 = .ok (.iload_n 2, 1) := by decide +kernel
theorem dX9_needs_19 : decode cX9_needs 19 = .ok (.aload_n 0, 1) := by decide +kernel
theorem dX9_needs_20 : decode cX9_needs 20 = .ok (.getfield 32, 3) := by decide +kernel
theorem dX9_needs_23 : decode cX9_needs 23 = .ok (.iload_n 1, 1) := by decide +kernel
theorem dX9_needs_24 : decode cX9_needs 24 = .ok (.iaload, 1) := by decide +kernel
theorem dX9_needs_25 : decode cX9_needs 25 = .ok (.iconst 1, 1) := by decide +kernel
theorem dX9_needs_26 : decode cX9_needs 26 = .ok (.if_icmp .eq 13, 3) := by decide +kernel
theorem dX9_needs_29 : decode cX9_needs 29 = .ok (.aload_n 0, 1) := by decide +kernel
theorem dX9_needs_30 : decode cX9_needs 30 = .ok (.getfield 32, 3) := by decide +kernel
theorem dX9_needs_33 : decode cX9_needs 33 = .ok (.iload_n 1, 1) := by decide +kernel
theorem dX9_needs_34 : decode cX9_needs 34 = .ok (.iaload, 1) := by decide +kernel
theorem dX9_needs_35 : decode cX9_needs 35 = .ok (.iconst 4, 1) := by decide +kernel
theorem dX9_needs_36 : decode cX9_needs 36 = .ok (.if_icmp .ne 8, 3) := by decide +kernel
theorem dX9_needs_39 : decode cX9_needs 39 = .ok (.bipush 8, 2) := by decide +kernel
theorem dX9_needs_41 : decode cX9_needs 41 = .ok (.goto 4, 3) := by decide +kernel
theorem dX9_needs_44 : decode cX9_needs 44 = .ok (.iconst 0, 1) := by decide +kernel
theorem dX9_needs_45 : decode cX9_needs 45 = .ok (.ior, 1) := by decide +kernel
theorem dX9_needs_46 : decode cX9_needs 46 = .ok (.istore_n 2, 1) := by decide +kernel
theorem dX9_needs_47 : decode cX9_needs 47 = .ok (.iload_n 2, 1) := by decide +kernel
theorem dX9_needs_48 : decode cX9_needs 48 = .ok (.aload_n 0, 1) := by decide +kernel
theorem dX9_needs_49 : decode cX9_needs 49 = .ok (.getfield 16, 3) := by decide +kernel
theorem dX9_needs_52 : decode cX9_needs 52 = .ok (.aload_n 0, 1) := by decide +kernel
theorem dX9_needs_53 : decode cX9_needs 53 = .ok (.getfield 35, 3) := by decide +kernel
theorem dX9_needs_56 : decode cX9_needs 56 = .ok (.iload_n 1, 1) := by decide +kernel
theorem dX9_needs_57 : decode cX9_needs 57 = .ok (.iaload, 1) := by decide +kernel
theorem dX9_needs_58 : decode cX9_needs 58 = .ok (.baload, 1) := by decide +kernel
theorem dX9_needs_59 : decode cX9_needs 59 = .ok (.ifCond .ne 25, 3) := by decide +kernel
theorem dX9_needs_62 : decode cX9_needs 62 = .ok (.aload_n 0, 1) := by decide +kernel
theorem dX9_needs_63 : decode cX9_needs 63 = .ok (.iload_n 1, 1) := by decide +kernel
theorem dX9_needs_64 : decode cX9_needs 64 = .ok (.invokevirtual 178, 3) := by decide +kernel
theorem dX9_needs_67 : decode cX9_needs 67 = .ok (.ifCond .eq 22, 3) := by decide +kernel
theorem dX9_needs_70 : decode cX9_needs 70 = .ok (.aload_n 0, 1) := by decide +kernel
theorem dX9_needs_71 : decode cX9_needs 71 = .ok (.getfield 16, 3) := by decide +kernel
theorem dX9_needs_74 : decode cX9_needs 74 = .ok (.aload_n 0, 1) := by decide +kernel
theorem dX9_needs_75 : decode cX9_needs 75 = .ok (.getfield 38, 3) := by decide +kernel
theorem dX9_needs_78 : decode cX9_needs 78 = .ok (.iload_n 1, 1) := by decide +kernel
theorem dX9_needs_79 : decode cX9_needs 79 = .ok (.iaload, 1) := by decide +kernel
theorem dX9_needs_80 : decode cX9_needs 80 = .ok (.baload, 1) := by decide +kernel
theorem dX9_needs_81 : decode cX9_needs 81 = .ok (.ifCond .eq 8, 3) := by decide +kernel
theorem dX9_needs_84 : decode cX9_needs 84 = .ok (.bipush 16, 2) := by decide +kernel
theorem dX9_needs_86 : decode cX9_needs 86 = .ok (.goto 4, 3) := by decide +kernel
theorem dX9_needs_89 : decode cX9_needs 89 = .ok (.iconst 0, 1) := by decide +kernel
theorem dX9_needs_90 : decode cX9_needs 90 = .ok (.ior, 1) := by decide +kernel
theorem dX9_needs_91 : decode cX9_needs 91 = .ok (.istore_n 2, 1) := by decide +kernel
theorem dX9_needs_92 : decode cX9_needs 92 = .ok (.iload_n 2, 1) := by decide +kernel
theorem dX9_needs_93 : decode cX9_needs 93 = .ok (.ireturn, 1) := by decide +kernel
theorem dX9_close_0 : decode cX9_close 0 = .ok (.aload_n 0, 1) := by decide +kernel
theorem dX9_close_1 : decode cX9_close 1 = .ok (.aload_n 0, 1) := by decide +kernel
theorem dX9_close_2 : decode cX9_close 2 = .ok (.iload_n 1, 1) := by decide +kernel
theorem dX9_close_3 : decode cX9_close 3 = .ok (.invokevirtual 165, 3) := by decide +kernel
theorem dX9_close_6 : decode cX9_close 6 = .ok (.ifCond .ne 7, 3) := by decide +kernel
theorem dX9_close_9 : decode cX9_close 9 = .ok (.iconst 1, 1) := by decide +kernel
theorem dX9_close_10 : decode cX9_close 10 = .ok (.goto 45, 3) := by decide +kernel
theorem dX9_close_13 : decode cX9_close 13 = .ok (.aload_n 0, 1) := by decide +kernel
theorem dX9_close_14 : decode cX9_close 14 = .ok (.getfield 65, 3) := by decide +kernel
theorem dX9_close_17 : decode cX9_close 17 = .ok (.iload_n 1, 1) := by decide +kernel
theorem dX9_close_18 : decode cX9_close 18 = .ok (.iaload, 1) := by decide +kernel
theorem dX9_close_19 : decode cX9_close 19 = .ok (.ifCond .ne 31, 3) := by decide +kernel
theorem dX9_close_22 : decode cX9_close 22 = .ok (.aload_n 0, 1) := by decide +kernel
theorem dX9_close_23 : decode cX9_close 23 = .ok (.getfield 20, 3) := by decide +kernel
theorem dX9_close_26 : decode cX9_close 26 = .ok (.aload_n 0, 1) := by decide +kernel
theorem dX9_close_27 : decode cX9_close 27 = .ok (.getfield 35, 3) := by decide +kernel
theorem dX9_close_30 : decode cX9_close 30 = .ok (.iload_n 1, 1) := by decide +kernel
theorem dX9_close_31 : decode cX9_close 31 = .ok (.iaload, 1) := by decide +kernel
theorem dX9_close_32 : decode cX9_close 32 = .ok (.baload, 1) := by decide +kernel
theorem dX9_close_33 : decode cX9_close 33 = .ok (.ifCond .ne 17, 3) := by decide +kernel
theorem dX9_close_36 : decode cX9_close 36 = .ok (.aload_n 0, 1) := by decide +kernel
theorem dX9_close_37 : decode cX9_close 37 = .ok (.getfield 20, 3) := by decide +kernel
theorem dX9_close_40 : decode cX9_close 40 = .ok (.aload_n 0, 1) := by decide +kernel
theorem dX9_close_41 : decode cX9_close 41 = .ok (.getfield 38, 3) := by decide +kernel
theorem dX9_close_44 : decode cX9_close 44 = .ok (.iload_n 1, 1) := by decide +kernel
theorem dX9_close_45 : decode cX9_close 45 = .ok (.iaload, 1) := by decide +kernel
theorem dX9_close_46 : decode cX9_close 46 = .ok (.baload, 1) := by decide +kernel
theorem dX9_close_47 : decode cX9_close 47 = .ok (.ifCond .eq 7, 3) := by decide +kernel
theorem dX9_close_50 : decode cX9_close 50 = .ok (.iconst 2, 1) := by decide +kernel
theorem dX9_close_51 : decode cX9_close 51 = .ok (.goto 4, 3) := by decide +kernel
theorem dX9_close_54 : decode cX9_close 54 = .ok (.iconst 0, 1) := by decide +kernel
theorem dX9_close_55 : decode cX9_close 55 = .ok (.putfield 117, 3) := by decide +kernel
theorem dX9_close_58 : decode cX9_close 58 = .ok (.aload_n 0, 1) := by decide +kernel
theorem dX9_close_59 : decode cX9_close 59 = .ok (.getfield 117, 3) := by decide +kernel
theorem dX9_close_62 : decode cX9_close 62 = .ok (.ifCond .le 5, 3) := by decide +kernel
theorem dX9_close_65 : decode cX9_close 65 = .ok (.iconst 0, 1) := by decide +kernel
theorem dX9_close_66 : decode cX9_close 66 = .ok (.ireturn, 1) := by decide +kernel
theorem dX9_close_67 : decode cX9_close 67 = .ok (.aload_n 0, 1) := by decide +kernel
theorem dX9_close_68 : decode cX9_close 68 = .ok (.iload_n 1, 1) := by decide +kernel
theorem dX9_close_69 : decode cX9_close 69 = .ok (.invokevirtual 178, 3) := by decide +kernel
theorem dX9_close_72 : decode cX9_close 72 = .ok (.ifCond .eq 7, 3) := by decide +kernel
theorem dX9_close_75 : decode cX9_close 75 = .ok (.iconst 3, 1) := by decide +kernel
theorem dX9_close_76 : decode cX9_close 76 = .ok (.goto 4, 3) := by decide +kernel
theorem dX9_close_79 : decode cX9_close 79 = .ok (.iconst 1, 1) := by decide +kernel
theorem dX9_close_80 : decode cX9_close 80 = .ok (.istore_n 2, 1) := by decide +kernel
theorem dX9_close_81 : decode cX9_close 81 = .ok (.aload_n 0, 1) := by decide +kernel
theorem dX9_close_82 : decode cX9_close 82 = .ok (.getfield 65, 3) := by decide +kernel
theorem dX9_close_85 : decode cX9_close 85 = .ok (.iload_n 1, 1) := by decide +kernel
theorem dX9_close_86 : decode cX9_close 86 = .ok (.aload_n 0, 1) := by decide +kernel
theorem dX9_close_87 : decode cX9_close 87 = .ok (.getfield 59, 3) := by decide +kernel
theorem dX9_close_90 : decode cX9_close 90 = .ok (.iload_n 1, 1) := by decide +kernel
theorem dX9_close_91 : decode cX9_close 91 = .ok (.iaload, 1) := by decide +kernel
theorem dX9_close_92 : decode cX9_close 92 = .ok (.aload_n 0, 1) := by decide +kernel
theorem dX9_close_93 : decode cX9_close 93 = .ok (.iload_n 1, 1) := by decide +kernel
theorem dX9_close_94 : decode cX9_close 94 = .ok (.invokevirtual 181, 3) := by decide +kernel
theorem dX9_close_97 : decode cX9_close 97 = .ok (.iand, 1) := by decide +kernel
theorem dX9_close_98 : decode cX9_close 98 = .ok (.aload_n 0, 1) := by decide +kernel
theorem dX9_close_99 : decode cX9_close 99 = .ok (.iload_n 1, 1) := by decide +kernel
theorem dX9_close_100 : decode cX9_close 100 = .ok (.invokevirtual 181, 3) := by decide +kernel
theorem dX9_close_103 : decode cX9_close 103 = .ok (.if_icmp .ne 7, 3) := by decide +kernel
theorem dX9_close_106 : decode cX9_close 106 = .ok (.iconst 1, 1) := by decide +kernel
theorem dX9_close_107 : decode cX9_close 107 = .ok (.goto 20, 3) := by decide +kernel
theorem dX9_close_110 : decode cX9_close 110 = .ok (.aload_n 0, 1) := by decide +kernel
theorem dX9_close_111 : decode cX9_close 111 = .ok (.getfield 59, 3) := by decide +kernel
theorem dX9_close_114 : decode cX9_close 114 = .ok (.iload_n 1, 1) := by decide +kernel
theorem dX9_close_115 : decode cX9_close 115 = .ok (.iaload, 1) := by decide +kernel
theorem dX9_close_116 : decode cX9_close 116 = .ok (.iload_n 2, 1) := by decide +kernel
theorem dX9_close_117 : decode cX9_close 117 = .ok (.iand, 1) := by decide +kernel
theorem dX9_close_118 : decode cX9_close 118 = .ok (.iload_n 2, 1) := by decide +kernel
theorem dX9_close_119 : decode cX9_close 119 = .ok (.if_icmp .ne 7, 3) := by decide +kernel
theorem dX9_close_122 : decode cX9_close 122 = .ok (.iconst 2, 1) := by decide +kernel
theorem dX9_close_123 : decode cX9_close 123 = .ok (.goto 4, 3) := by decide +kernel
theorem dX9_close_126 : decode cX9_close 126 = .ok (.iconst 3, 1) := by decide +kernel
theorem dX9_close_127 : decode cX9_close 127 = .ok (.iastore, 1) := by decide +kernel
theorem dX9_close_128 : decode cX9_close 128 = .ok (.aload_n 0, 1) := by decide +kernel
theorem dX9_close_129 : decode cX9_close 129 = .ok (.dup, 1) := by decide +kernel
theorem dX9_close_130 : decode cX9_close 130 = .ok (.getfield 185, 3) := by decide +kernel
theorem dX9_close_133 : decode cX9_close 133 = .ok (.iconst 1, 1) := by decide +kernel
theorem dX9_close_134 : decode cX9_close 134 = .ok (.iadd, 1) := by decide +kernel
theorem dX9_close_135 : decode cX9_close 135 = .ok (.putfield 185, 3) := by decide +kernel
theorem dX9_close_138 : decode cX9_close 138 = .ok (.aload_n 0, 1) := by decide +kernel
theorem dX9_close_139 : decode cX9_close 139 = .ok (.getfield 68, 3) := by decide +kernel
theorem dX9_close_142 : decode cX9_close 142 = .ok (.iload_n 1, 1) := by decide +kernel
theorem dX9_close_143 : decode cX9_close 143 = .ok (.aload_n 0, 1) := by decide +kernel
theorem dX9_close_144 : decode cX9_close 144 = .ok (.getfield 185, 3) := by decide +kernel
theorem dX9_close_147 : decode cX9_close 147 = .ok (.iastore, 1) := by decide +kernel
theorem dX9_close_148 : decode cX9_close 148 = .ok (.aload_n 0, 1) := by decide +kernel
theorem dX9_close_149 : decode cX9_close 149 = .ok (.getfield 71, 3) := by decide +kernel
theorem dX9_close_152 : decode cX9_close 152 = .ok (.iload_n 1, 1) := by decide +kernel
theorem dX9_close_153 : decode cX9_close 153 = .ok (.aload_n 0, 1) := by decide +kernel
theorem dX9_close_154 : decode cX9_close 154 = .ok (.getfield 134, 3) := by decide +kernel
theorem dX9_close_157 : decode cX9_close 157 = .ok (.iastore, 1) := by decide +kernel
theorem dX9_close_158 : decode cX9_close 158 = .ok (.aload_n 0, 1) := by decide +kernel
theorem dX9_close_159 : decode cX9_close 159 = .ok (.getfield 86, 3) := by decide +kernel
theorem dX9_close_162 : decode cX9_close 162 = .ok (.iload_n 1, 1) := by decide +kernel
theorem dX9_close_163 : decode cX9_close 163 = .ok (.iconst 1, 1) := by decide +kernel
theorem dX9_close_164 : decode cX9_close 164 = .ok (.iastore, 1) := by decide +kernel
theorem dX9_close_165 : decode cX9_close 165 = .ok (.aload_n 0, 1) := by decide +kernel
theorem dX9_close_166 : decode cX9_close 166 = .ok (.getfield 65, 3) := by decide +kernel
theorem dX9_close_169 : decode cX9_close 169 = .ok (.iload_n 1, 1) := by decide +kernel
theorem dX9_close_170 : decode cX9_close 170 = .ok (.iaload, 1) := by decide +kernel
theorem dX9_close_171 : decode cX9_close 171 = .ok (.ireturn, 1) := by decide +kernel
theorem dX9_deed_0 : decode cX9_deed 0 = .ok (.aload_n 0, 1) := by decide +kernel
theorem dX9_deed_1 : decode cX9_deed 1 = .ok (.aload_n 0, 1) := by decide +kernel
theorem dX9_deed_2 : decode cX9_deed 2 = .ok (.iload_n 1, 1) := by decide +kernel
theorem dX9_deed_3 : decode cX9_deed 3 = .ok (.invokevirtual 165, 3) := by decide +kernel
theorem dX9_deed_6 : decode cX9_deed 6 = .ok (.ifCond .ne 7, 3) := by decide +kernel
theorem dX9_deed_9 : decode cX9_deed 9 = .ok (.iconst 1, 1) := by decide +kernel
theorem dX9_deed_10 : decode cX9_deed 10 = .ok (.goto 17, 3) := by decide +kernel
theorem dX9_deed_13 : decode cX9_deed 13 = .ok (.iload_n 2, 1) := by decide +kernel
theorem dX9_deed_14 : decode cX9_deed 14 = .ok (.iconst 0, 1) := by decide +kernel
theorem dX9_deed_15 : decode cX9_deed 15 = .ok (.iconst 5, 1) := by decide +kernel
theorem dX9_deed_16 : decode cX9_deed 16 = .ok (.invokestatic 124, 3) := by decide +kernel
theorem dX9_deed_19 : decode cX9_deed 19 = .ok (.ifCond .ne 7, 3) := by decide +kernel
theorem dX9_deed_22 : decode cX9_deed 22 = .ok (.iconst 2, 1) := by decide +kernel
theorem dX9_deed_23 : decode cX9_deed 23 = .ok (.goto 4, 3) := by decide +kernel
theorem dX9_deed_26 : decode cX9_deed 26 = .ok (.iconst 0, 1) := by decide +kernel
theorem dX9_deed_27 : decode cX9_deed 27 = .ok (.putfield 117, 3) := by decide +kernel
theorem dX9_deed_30 : decode cX9_deed 30 = .ok (.aload_n 0, 1) := by decide +kernel
theorem dX9_deed_31 : decode cX9_deed 31 = .ok (.getfield 117, 3) := by decide +kernel
theorem dX9_deed_34 : decode cX9_deed 34 = .ok (.ifCond .le 5, 3) := by decide +kernel
theorem dX9_deed_37 : decode cX9_deed 37 = .ok (.iconst 0, 1) := by decide +kernel
theorem dX9_deed_38 : decode cX9_deed 38 = .ok (.ireturn, 1) := by decide +kernel
theorem dX9_deed_39 : decode cX9_deed 39 = .ok (.iload_n 2, 1) := by decide +kernel
theorem dX9_deed_40 : decode cX9_deed 40 = .ok (.tableswitch 71 0 4 #[36, 43, 50, 57, 64], 36) := by decide +kernel
theorem dX9_deed_76 : decode cX9_deed 76 = .ok (.aload_n 0, 1) := by decide +kernel
theorem dX9_deed_77 : decode cX9_deed 77 = .ok (.getfield 65, 3) := by decide +kernel
theorem dX9_deed_80 : decode cX9_deed 80 = .ok (.iload_n 1, 1) := by decide +kernel
theorem dX9_deed_81 : decode cX9_deed 81 = .ok (.iaload, 1) := by decide +kernel
theorem dX9_deed_82 : decode cX9_deed 82 = .ok (.ireturn, 1) := by decide +kernel
theorem dX9_deed_83 : decode cX9_deed 83 = .ok (.aload_n 0, 1) := by decide +kernel
theorem dX9_deed_84 : decode cX9_deed 84 = .ok (.getfield 32, 3) := by decide +kernel
theorem dX9_deed_87 : decode cX9_deed 87 = .ok (.iload_n 1, 1) := by decide +kernel
theorem dX9_deed_88 : decode cX9_deed 88 = .ok (.iaload, 1) := by decide +kernel
theorem dX9_deed_89 : decode cX9_deed 89 = .ok (.ireturn, 1) := by decide +kernel
theorem dX9_deed_90 : decode cX9_deed 90 = .ok (.aload_n 0, 1) := by decide +kernel
theorem dX9_deed_91 : decode cX9_deed 91 = .ok (.getfield 59, 3) := by decide +kernel
theorem dX9_deed_94 : decode cX9_deed 94 = .ok (.iload_n 1, 1) := by decide +kernel
theorem dX9_deed_95 : decode cX9_deed 95 = .ok (.iaload, 1) := by decide +kernel
theorem dX9_deed_96 : decode cX9_deed 96 = .ok (.ireturn, 1) := by decide +kernel
theorem dX9_deed_97 : decode cX9_deed 97 = .ok (.aload_n 0, 1) := by decide +kernel
theorem dX9_deed_98 : decode cX9_deed 98 = .ok (.getfield 68, 3) := by decide +kernel
theorem dX9_deed_101 : decode cX9_deed 101 = .ok (.iload_n 1, 1) := by decide +kernel
theorem dX9_deed_102 : decode cX9_deed 102 = .ok (.iaload, 1) := by decide +kernel
theorem dX9_deed_103 : decode cX9_deed 103 = .ok (.ireturn, 1) := by decide +kernel
theorem dX9_deed_104 : decode cX9_deed 104 = .ok (.aload_n 0, 1) := by decide +kernel
theorem dX9_deed_105 : decode cX9_deed 105 = .ok (.getfield 71, 3) := by decide +kernel
theorem dX9_deed_108 : decode cX9_deed 108 = .ok (.iload_n 1, 1) := by decide +kernel
theorem dX9_deed_109 : decode cX9_deed 109 = .ok (.iaload, 1) := by decide +kernel
theorem dX9_deed_110 : decode cX9_deed 110 = .ok (.ireturn, 1) := by decide +kernel
theorem dX9_deed_111 : decode cX9_deed 111 = .ok (.aload_n 0, 1) := by decide +kernel
theorem dX9_deed_112 : decode cX9_deed 112 = .ok (.getfield 74, 3) := by decide +kernel
theorem dX9_deed_115 : decode cX9_deed 115 = .ok (.iload_n 1, 1) := by decide +kernel
theorem dX9_deed_116 : decode cX9_deed 116 = .ok (.iaload, 1) := by decide +kernel
theorem dX9_deed_117 : decode cX9_deed 117 = .ok (.ireturn, 1) := by decide +kernel
theorem dX9_letter_0 : decode cX9_letter 0 = .ok (.iload_n 0, 1) := by decide +kernel
theorem dX9_letter_1 : decode cX9_letter 1 = .ok (.ifCond .ne 8, 3) := by decide +kernel
theorem dX9_letter_4 : decode cX9_letter 4 = .ok (.bipush 83, 2) := by decide +kernel
theorem dX9_letter_6 : decode cX9_letter 6 = .ok (.goto 35, 3) := by decide +kernel
theorem dX9_letter_9 : decode cX9_letter 9 = .ok (.iload_n 0, 1) := by decide +kernel
theorem dX9_letter_10 : decode cX9_letter 10 = .ok (.iconst 1, 1) := by decide +kernel
theorem dX9_letter_11 : decode cX9_letter 11 = .ok (.if_icmp .ne 8, 3) := by decide +kernel
theorem dX9_letter_14 : decode cX9_letter 14 = .ok (.bipush 71, 2) := by decide +kernel
theorem dX9_letter_16 : decode cX9_letter 16 = .ok (.goto 25, 3) := by decide +kernel
theorem dX9_letter_19 : decode cX9_letter 19 = .ok (.iload_n 0, 1) := by decide +kernel
theorem dX9_letter_20 : decode cX9_letter 20 = .ok (.iconst 2, 1) := by decide +kernel
theorem dX9_letter_21 : decode cX9_letter 21 = .ok (.if_icmp .ne 8, 3) := by decide +kernel
theorem dX9_letter_24 : decode cX9_letter 24 = .ok (.bipush 80, 2) := by decide +kernel
theorem dX9_letter_26 : decode cX9_letter 26 = .ok (.goto 15, 3) := by decide +kernel
theorem dX9_letter_29 : decode cX9_letter 29 = .ok (.iload_n 0, 1) := by decide +kernel
theorem dX9_letter_30 : decode cX9_letter 30 = .ok (.iconst 3, 1) := by decide +kernel
theorem dX9_letter_31 : decode cX9_letter 31 = .ok (.if_icmp .ne 8, 3) := by decide +kernel
theorem dX9_letter_34 : decode cX9_letter 34 = .ok (.bipush 65, 2) := by decide +kernel
theorem dX9_letter_36 : decode cX9_letter 36 = .ok (.goto 5, 3) := by decide +kernel
theorem dX9_letter_39 : decode cX9_letter 39 = .ok (.bipush 87, 2) := by decide +kernel
theorem dX9_letter_41 : decode cX9_letter 41 = .ok (.ireturn, 1) := by decide +kernel
theorem dX9_label_0 : decode cX9_label 0 = .ok (.aload_n 0, 1) := by decide +kernel
theorem dX9_label_1 : decode cX9_label 1 = .ok (.aload_n 0, 1) := by decide +kernel
theorem dX9_label_2 : decode cX9_label 2 = .ok (.iload_n 1, 1) := by decide +kernel
theorem dX9_label_3 : decode cX9_label 3 = .ok (.invokevirtual 165, 3) := by decide +kernel
theorem dX9_label_6 : decode cX9_label 6 = .ok (.ifCond .eq 11, 3) := by decide +kernel
theorem dX9_label_9 : decode cX9_label 9 = .ok (.iload_n 2, 1) := by decide +kernel
theorem dX9_label_10 : decode cX9_label 10 = .ok (.ifCond .lt 7, 3) := by decide +kernel
theorem dX9_label_13 : decode cX9_label 13 = .ok (.iconst 0, 1) := by decide +kernel
theorem dX9_label_14 : decode cX9_label 14 = .ok (.goto 4, 3) := by decide +kernel
theorem dX9_label_17 : decode cX9_label 17 = .ok (.iconst 1, 1) := by decide +kernel
theorem dX9_label_18 : decode cX9_label 18 = .ok (.putfield 117, 3) := by decide +kernel
theorem dX9_label_21 : decode cX9_label 21 = .ok (.aload_n 0, 1) := by decide +kernel
theorem dX9_label_22 : decode cX9_label 22 = .ok (.getfield 117, 3) := by decide +kernel
theorem dX9_label_25 : decode cX9_label 25 = .ok (.ifCond .le 5, 3) := by decide +kernel
theorem dX9_label_28 : decode cX9_label 28 = .ok (.iconst 0, 1) := by decide +kernel
theorem dX9_label_29 : decode cX9_label 29 = .ok (.ireturn, 1) := by decide +kernel
theorem dX9_label_30 : decode cX9_label 30 = .ok (.aload_n 0, 1) := by decide +kernel
theorem dX9_label_31 : decode cX9_label 31 = .ok (.getfield 68, 3) := by decide +kernel
theorem dX9_label_34 : decode cX9_label 34 = .ok (.iload_n 1, 1) := by decide +kernel
theorem dX9_label_35 : decode cX9_label 35 = .ok (.iaload, 1) := by decide +kernel
theorem dX9_label_36 : decode cX9_label 36 = .ok (.bipush 9, 2) := by decide +kernel
theorem dX9_label_38 : decode cX9_label 38 = .ok (.if_icmp .le 7, 3) := by decide +kernel
theorem dX9_label_41 : decode cX9_label 41 = .ok (.iconst 2, 1) := by decide +kernel
theorem dX9_label_42 : decode cX9_label 42 = .ok (.goto 4, 3) := by decide +kernel
theorem dX9_label_45 : decode cX9_label 45 = .ok (.iconst 1, 1) := by decide +kernel
theorem dX9_label_46 : decode cX9_label 46 = .ok (.istore_n 3, 1) := by decide +kernel
theorem dX9_label_47 : decode cX9_label 47 = .ok (.iload_n 2, 1) := by decide +kernel
theorem dX9_label_48 : decode cX9_label 48 = .ok (.ifCond .ne 13, 3) := by decide +kernel
theorem dX9_label_51 : decode cX9_label 51 = .ok (.aload_n 0, 1) := by decide +kernel
theorem dX9_label_52 : decode cX9_label 52 = .ok (.getfield 32, 3) := by decide +kernel
theorem dX9_label_55 : decode cX9_label 55 = .ok (.iload_n 1, 1) := by decide +kernel
theorem dX9_label_56 : decode cX9_label 56 = .ok (.iaload, 1) := by decide +kernel
theorem dX9_label_57 : decode cX9_label 57 = .ok (.invokestatic 188, 3) := by decide +kernel
theorem dX9_label_60 : decode cX9_label 60 = .ok (.ireturn, 1) := by decide +kernel
theorem dX9_label_61 : decode cX9_label 61 = .ok (.iload_n 2, 1) := by decide +kernel
theorem dX9_label_62 : decode cX9_label 62 = .ok (.iload_n 3, 1) := by decide +kernel
theorem dX9_label_63 : decode cX9_label 63 = .ok (.if_icmp .gt 34, 3) := by decide +kernel
theorem dX9_label_66 : decode cX9_label 66 = .ok (.bipush 48, 2) := by decide +kernel
theorem dX9_label_68 : decode cX9_label 68 = .ok (.iload_n 2, 1) := by decide +kernel
theorem dX9_label_69 : decode cX9_label 69 = .ok (.iload_n 3, 1) := by decide +kernel
theorem dX9_label_70 : decode cX9_label 70 = .ok (.if_icmp .ge 15, 3) := by decide +kernel
theorem dX9_label_73 : decode cX9_label 73 = .ok (.aload_n 0, 1) := by decide +kernel
theorem dX9_label_74 : decode cX9_label 74 = .ok (.getfield 68, 3) := by decide +kernel
theorem dX9_label_77 : decode cX9_label 77 = .ok (.iload_n 1, 1) := by decide +kernel
theorem dX9_label_78 : decode cX9_label 78 = .ok (.iaload, 1) := by decide +kernel
theorem dX9_label_79 : decode cX9_label 79 = .ok (.bipush 10, 2) := by decide +kernel
theorem dX9_label_81 : decode cX9_label 81 = .ok (.idiv, 1) := by decide +kernel
theorem dX9_label_82 : decode cX9_label 82 = .ok (.goto 12, 3) := by decide +kernel
theorem dX9_label_85 : decode cX9_label 85 = .ok (.aload_n 0, 1) := by decide +kernel
theorem dX9_label_86 : decode cX9_label 86 = .ok (.getfield 68, 3) := by decide +kernel
theorem dX9_label_89 : decode cX9_label 89 = .ok (.iload_n 1, 1) := by decide +kernel
theorem dX9_label_90 : decode cX9_label 90 = .ok (.iaload, 1) := by decide +kernel
theorem dX9_label_91 : decode cX9_label 91 = .ok (.bipush 10, 2) := by decide +kernel
theorem dX9_label_93 : decode cX9_label 93 = .ok (.irem, 1) := by decide +kernel
theorem dX9_label_94 : decode cX9_label 94 = .ok (.iadd, 1) := by decide +kernel
theorem dX9_label_95 : decode cX9_label 95 = .ok (.i2c, 1) := by decide +kernel
theorem dX9_label_96 : decode cX9_label 96 = .ok (.ireturn, 1) := by decide +kernel
theorem dX9_label_97 : decode cX9_label 97 = .ok (.aload_n 0, 1) := by decide +kernel
theorem dX9_label_98 : decode cX9_label 98 = .ok (.getfield 65, 3) := by decide +kernel
theorem dX9_label_101 : decode cX9_label 101 = .ok (.iload_n 1, 1) := by decide +kernel
theorem dX9_label_102 : decode cX9_label 102 = .ok (.iaload, 1) := by decide +kernel
theorem dX9_label_103 : decode cX9_label 103 = .ok (.ifCond .eq 10, 3) := by decide +kernel
theorem dX9_label_106 : decode cX9_label 106 = .ok (.iload_n 2, 1) := by decide +kernel
theorem dX9_label_107 : decode cX9_label 107 = .ok (.iload_n 3, 1) := by decide +kernel
theorem dX9_label_108 : decode cX9_label 108 = .ok (.iconst 2, 1) := by decide +kernel
theorem dX9_label_109 : decode cX9_label 109 = .ok (.iadd, 1) := by decide +kernel
theorem dX9_label_110 : decode cX9_label 110 = .ok (.if_icmp .le 6, 3) := by decide +kernel
theorem dX9_label_113 : decode cX9_label 113 = .ok (.bipush 46, 2) := by decide +kernel
theorem dX9_label_115 : decode cX9_label 115 = .ok (.ireturn, 1) := by decide +kernel
theorem dX9_label_116 : decode cX9_label 116 = .ok (.iload_n 2, 1) := by decide +kernel
theorem dX9_label_117 : decode cX9_label 117 = .ok (.iload_n 3, 1) := by decide +kernel
theorem dX9_label_118 : decode cX9_label 118 = .ok (.iconst 1, 1) := by decide +kernel
theorem dX9_label_119 : decode cX9_label 119 = .ok (.iadd, 1) := by decide +kernel
theorem dX9_label_120 : decode cX9_label 120 = .ok (.if_icmp .ne 8, 3) := by decide +kernel
theorem dX9_label_123 : decode cX9_label 123 = .ok (.bipush 44, 2) := by decide +kernel
theorem dX9_label_125 : decode cX9_label 125 = .ok (.goto 35, 3) := by decide +kernel
theorem dX9_label_128 : decode cX9_label 128 = .ok (.aload_n 0, 1) := by decide +kernel
theorem dX9_label_129 : decode cX9_label 129 = .ok (.getfield 65, 3) := by decide +kernel
theorem dX9_label_132 : decode cX9_label 132 = .ok (.iload_n 1, 1) := by decide +kernel
theorem dX9_label_133 : decode cX9_label 133 = .ok (.iaload, 1) := by decide +kernel
theorem dX9_label_134 : decode cX9_label 134 = .ok (.iconst 1, 1) := by decide +kernel
theorem dX9_label_135 : decode cX9_label 135 = .ok (.if_icmp .ne 8, 3) := by decide +kernel
theorem dX9_label_138 : decode cX9_label 138 = .ok (.bipush 102, 2) := by decide +kernel
theorem dX9_label_140 : decode cX9_label 140 = .ok (.goto 20, 3) := by decide +kernel
theorem dX9_label_143 : decode cX9_label 143 = .ok (.aload_n 0, 1) := by decide +kernel
theorem dX9_label_144 : decode cX9_label 144 = .ok (.getfield 65, 3) := by decide +kernel
theorem dX9_label_147 : decode cX9_label 147 = .ok (.iload_n 1, 1) := by decide +kernel
theorem dX9_label_148 : decode cX9_label 148 = .ok (.iaload, 1) := by decide +kernel
theorem dX9_label_149 : decode cX9_label 149 = .ok (.iconst 2, 1) := by decide +kernel
theorem dX9_label_150 : decode cX9_label 150 = .ok (.if_icmp .ne 8, 3) := by decide +kernel
theorem dX9_label_153 : decode cX9_label 153 = .ok (.bipush 108, 2) := by decide +kernel
theorem dX9_label_155 : decode cX9_label 155 = .ok (.goto 5, 3) := by decide +kernel
theorem dX9_label_158 : decode cX9_label 158 = .ok (.bipush 118, 2) := by decide +kernel
theorem dX9_label_160 : decode cX9_label 160 = .ok (.ireturn, 1) := by decide +kernel
theorem dX9_revoke_0 : decode cX9_revoke 0 = .ok (.aload_n 0, 1) := by decide +kernel
theorem dX9_revoke_1 : decode cX9_revoke 1 = .ok (.aload_n 0, 1) := by decide +kernel
theorem dX9_revoke_2 : decode cX9_revoke 2 = .ok (.iload_n 1, 1) := by decide +kernel
theorem dX9_revoke_3 : decode cX9_revoke 3 = .ok (.invokevirtual 165, 3) := by decide +kernel
theorem dX9_revoke_6 : decode cX9_revoke 6 = .ok (.ifCond .ne 7, 3) := by decide +kernel
theorem dX9_revoke_9 : decode cX9_revoke 9 = .ok (.iconst 1, 1) := by decide +kernel
theorem dX9_revoke_10 : decode cX9_revoke 10 = .ok (.goto 27, 3) := by decide +kernel
theorem dX9_revoke_13 : decode cX9_revoke 13 = .ok (.aload_n 0, 1) := by decide +kernel
theorem dX9_revoke_14 : decode cX9_revoke 14 = .ok (.getfield 32, 3) := by decide +kernel
theorem dX9_revoke_17 : decode cX9_revoke 17 = .ok (.iload_n 1, 1) := by decide +kernel
theorem dX9_revoke_18 : decode cX9_revoke 18 = .ok (.iaload, 1) := by decide +kernel
theorem dX9_revoke_19 : decode cX9_revoke 19 = .ok (.iconst 3, 1) := by decide +kernel
theorem dX9_revoke_20 : decode cX9_revoke 20 = .ok (.if_icmp .ne 12, 3) := by decide +kernel
theorem dX9_revoke_23 : decode cX9_revoke 23 = .ok (.aload_n 0, 1) := by decide +kernel
theorem dX9_revoke_24 : decode cX9_revoke 24 = .ok (.getfield 65, 3) := by decide +kernel
theorem dX9_revoke_27 : decode cX9_revoke 27 = .ok (.iload_n 1, 1) := by decide +kernel
theorem dX9_revoke_28 : decode cX9_revoke 28 = .ok (.iaload, 1) := by decide +kernel
theorem dX9_revoke_29 : decode cX9_revoke 29 = .ok (.ifCond .ne 7, 3) := by decide +kernel
theorem dX9_revoke_32 : decode cX9_revoke 32 = .ok (.iconst 2, 1) := by decide +kernel
theorem dX9_revoke_33 : decode cX9_revoke 33 = .ok (.goto 4, 3) := by decide +kernel
theorem dX9_revoke_36 : decode cX9_revoke 36 = .ok (.iconst 0, 1) := by decide +kernel
theorem dX9_revoke_37 : decode cX9_revoke 37 = .ok (.putfield 117, 3) := by decide +kernel
theorem dX9_revoke_40 : decode cX9_revoke 40 = .ok (.aload_n 0, 1) := by decide +kernel
theorem dX9_revoke_41 : decode cX9_revoke 41 = .ok (.getfield 117, 3) := by decide +kernel
theorem dX9_revoke_44 : decode cX9_revoke 44 = .ok (.ifCond .le 5, 3) := by decide +kernel
theorem dX9_revoke_47 : decode cX9_revoke 47 = .ok (.iconst 0, 1) := by decide +kernel
theorem dX9_revoke_48 : decode cX9_revoke 48 = .ok (.ireturn, 1) := by decide +kernel
theorem dX9_revoke_49 : decode cX9_revoke 49 = .ok (.aload_n 0, 1) := by decide +kernel
theorem dX9_revoke_50 : decode cX9_revoke 50 = .ok (.getfield 77, 3) := by decide +kernel
theorem dX9_revoke_53 : decode cX9_revoke 53 = .ok (.iload_n 1, 1) := by decide +kernel
theorem dX9_revoke_54 : decode cX9_revoke 54 = .ok (.baload, 1) := by decide +kernel
theorem dX9_revoke_55 : decode cX9_revoke 55 = .ok (.istore_n 3, 1) := by decide +kernel
theorem dX9_revoke_56 : decode cX9_revoke 56 = .ok (.aload_n 0, 1) := by decide +kernel
theorem dX9_revoke_57 : decode cX9_revoke 57 = .ok (.getfield 77, 3) := by decide +kernel
theorem dX9_revoke_60 : decode cX9_revoke 60 = .ok (.iload_n 1, 1) := by decide +kernel
theorem dX9_revoke_61 : decode cX9_revoke 61 = .ok (.iconst 1, 1) := by decide +kernel
theorem dX9_revoke_62 : decode cX9_revoke 62 = .ok (.bastore, 1) := by decide +kernel
theorem dX9_revoke_63 : decode cX9_revoke 63 = .ok (.aload_n 0, 1) := by decide +kernel
theorem dX9_revoke_64 : decode cX9_revoke 64 = .ok (.getfield 80, 3) := by decide +kernel
theorem dX9_revoke_67 : decode cX9_revoke 67 = .ok (.iload_n 1, 1) := by decide +kernel
theorem dX9_revoke_68 : decode cX9_revoke 68 = .ok (.aload_n 0, 1) := by decide +kernel
theorem dX9_revoke_69 : decode cX9_revoke 69 = .ok (.getfield 80, 3) := by decide +kernel
theorem dX9_revoke_72 : decode cX9_revoke 72 = .ok (.iload_n 1, 1) := by decide +kernel
theorem dX9_revoke_73 : decode cX9_revoke 73 = .ok (.baload, 1) := by decide +kernel
theorem dX9_revoke_74 : decode cX9_revoke 74 = .ok (.ifCond .ne 7, 3) := by decide +kernel
theorem dX9_revoke_77 : decode cX9_revoke 77 = .ok (.iload_n 2, 1) := by decide +kernel
theorem dX9_revoke_78 : decode cX9_revoke 78 = .ok (.ifCond .eq 7, 3) := by decide +kernel
theorem dX9_revoke_81 : decode cX9_revoke 81 = .ok (.iconst 1, 1) := by decide +kernel
theorem dX9_revoke_82 : decode cX9_revoke 82 = .ok (.goto 4, 3) := by decide +kernel
theorem dX9_revoke_85 : decode cX9_revoke 85 = .ok (.iconst 0, 1) := by decide +kernel
theorem dX9_revoke_86 : decode cX9_revoke 86 = .ok (.bastore, 1) := by decide +kernel
theorem dX9_revoke_87 : decode cX9_revoke 87 = .ok (.iload_n 3, 1) := by decide +kernel
theorem dX9_revoke_88 : decode cX9_revoke 88 = .ok (.ireturn, 1) := by decide +kernel
theorem dX9_isGood_0 : decode cX9_isGood 0 = .ok (.aload_n 0, 1) := by decide +kernel
theorem dX9_isGood_1 : decode cX9_isGood 1 = .ok (.aload_n 0, 1) := by decide +kernel
theorem dX9_isGood_2 : decode cX9_isGood 2 = .ok (.iload_n 1, 1) := by decide +kernel
theorem dX9_isGood_3 : decode cX9_isGood 3 = .ok (.invokevirtual 165, 3) := by decide +kernel
theorem dX9_isGood_6 : decode cX9_isGood 6 = .ok (.ifCond .eq 7, 3) := by decide +kernel
theorem dX9_isGood_9 : decode cX9_isGood 9 = .ok (.iconst 0, 1) := by decide +kernel
theorem dX9_isGood_10 : decode cX9_isGood 10 = .ok (.goto 4, 3) := by decide +kernel
theorem dX9_isGood_13 : decode cX9_isGood 13 = .ok (.iconst 1, 1) := by decide +kernel
theorem dX9_isGood_14 : decode cX9_isGood 14 = .ok (.putfield 117, 3) := by decide +kernel
theorem dX9_isGood_17 : decode cX9_isGood 17 = .ok (.aload_n 0, 1) := by decide +kernel
theorem dX9_isGood_18 : decode cX9_isGood 18 = .ok (.getfield 117, 3) := by decide +kernel
theorem dX9_isGood_21 : decode cX9_isGood 21 = .ok (.ifCond .ne 15, 3) := by decide +kernel
theorem dX9_isGood_24 : decode cX9_isGood 24 = .ok (.aload_n 0, 1) := by decide +kernel
theorem dX9_isGood_25 : decode cX9_isGood 25 = .ok (.iload_n 1, 1) := by decide +kernel
theorem dX9_isGood_26 : decode cX9_isGood 26 = .ok (.invokevirtual 162, 3) := by decide +kernel
theorem dX9_isGood_29 : decode cX9_isGood 29 = .ok (.ifCond .eq 7, 3) := by decide +kernel
theorem dX9_isGood_32 : decode cX9_isGood 32 = .ok (.iconst 1, 1) := by decide +kernel
theorem dX9_isGood_33 : decode cX9_isGood 33 = .ok (.goto 4, 3) := by decide +kernel
theorem dX9_isGood_36 : decode cX9_isGood 36 = .ok (.iconst 0, 1) := by decide +kernel
theorem dX9_isGood_37 : decode cX9_isGood 37 = .ok (.ireturn, 1) := by decide +kernel
theorem dX9_copy_0 : decode cX9_copy 0 = .ok (.aload_n 0, 1) := by decide +kernel
theorem dX9_copy_1 : decode cX9_copy 1 = .ok (.aload_n 0, 1) := by decide +kernel
theorem dX9_copy_2 : decode cX9_copy 2 = .ok (.iload_n 1, 1) := by decide +kernel
theorem dX9_copy_3 : decode cX9_copy 3 = .ok (.invokevirtual 165, 3) := by decide +kernel
theorem dX9_copy_6 : decode cX9_copy 6 = .ok (.ifCond .ne 7, 3) := by decide +kernel
theorem dX9_copy_9 : decode cX9_copy 9 = .ok (.iconst 1, 1) := by decide +kernel
theorem dX9_copy_10 : decode cX9_copy 10 = .ok (.goto 27, 3) := by decide +kernel
theorem dX9_copy_13 : decode cX9_copy 13 = .ok (.aload_n 0, 1) := by decide +kernel
theorem dX9_copy_14 : decode cX9_copy 14 = .ok (.getfield 86, 3) := by decide +kernel
theorem dX9_copy_17 : decode cX9_copy 17 = .ok (.iload_n 1, 1) := by decide +kernel
theorem dX9_copy_18 : decode cX9_copy 18 = .ok (.iaload, 1) := by decide +kernel
theorem dX9_copy_19 : decode cX9_copy 19 = .ok (.ifCond .eq 13, 3) := by decide +kernel
theorem dX9_copy_22 : decode cX9_copy 22 = .ok (.aload_n 0, 1) := by decide +kernel
theorem dX9_copy_23 : decode cX9_copy 23 = .ok (.getfield 86, 3) := by decide +kernel
theorem dX9_copy_26 : decode cX9_copy 26 = .ok (.iload_n 1, 1) := by decide +kernel
theorem dX9_copy_27 : decode cX9_copy 27 = .ok (.iaload, 1) := by decide +kernel
theorem dX9_copy_28 : decode cX9_copy 28 = .ok (.iconst 4, 1) := by decide +kernel
theorem dX9_copy_29 : decode cX9_copy 29 = .ok (.if_icmp .ne 7, 3) := by decide +kernel
theorem dX9_copy_32 : decode cX9_copy 32 = .ok (.iconst 2, 1) := by decide +kernel
theorem dX9_copy_33 : decode cX9_copy 33 = .ok (.goto 4, 3) := by decide +kernel
theorem dX9_copy_36 : decode cX9_copy 36 = .ok (.iconst 0, 1) := by decide +kernel
theorem dX9_copy_37 : decode cX9_copy 37 = .ok (.putfield 117, 3) := by decide +kernel
theorem dX9_copy_40 : decode cX9_copy 40 = .ok (.aload_n 0, 1) := by decide +kernel
theorem dX9_copy_41 : decode cX9_copy 41 = .ok (.getfield 117, 3) := by decide +kernel
theorem dX9_copy_44 : decode cX9_copy 44 = .ok (.ifCond .le 5, 3) := by decide +kernel
theorem dX9_copy_47 : decode cX9_copy 47 = .ok (.iconst 0, 1) := by decide +kernel
theorem dX9_copy_48 : decode cX9_copy 48 = .ok (.ireturn, 1) := by decide +kernel
theorem dX9_copy_49 : decode cX9_copy 49 = .ok (.aload_n 0, 1) := by decide +kernel
theorem dX9_copy_50 : decode cX9_copy 50 = .ok (.getfield 83, 3) := by decide +kernel
theorem dX9_copy_53 : decode cX9_copy 53 = .ok (.iconst 4, 1) := by decide +kernel
theorem dX9_copy_54 : decode cX9_copy 54 = .ok (.iload_n 1, 1) := by decide +kernel
theorem dX9_copy_55 : decode cX9_copy 55 = .ok (.imul, 1) := by decide +kernel
theorem dX9_copy_56 : decode cX9_copy 56 = .ok (.iaload, 1) := by decide +kernel
theorem dX9_copy_57 : decode cX9_copy 57 = .ok (.iconst 1, 1) := by decide +kernel
theorem dX9_copy_58 : decode cX9_copy 58 = .ok (.iadd, 1) := by decide +kernel
theorem dX9_copy_59 : decode cX9_copy 59 = .ok (.istore_n 2, 1) := by decide +kernel
theorem dX9_copy_60 : decode cX9_copy 60 = .ok (.aload_n 0, 1) := by decide +kernel
theorem dX9_copy_61 : decode cX9_copy 61 = .ok (.getfield 86, 3) := by decide +kernel
theorem dX9_copy_64 : decode cX9_copy 64 = .ok (.iload_n 1, 1) := by decide +kernel
theorem dX9_copy_65 : decode cX9_copy 65 = .ok (.iaload, 1) := by decide +kernel
theorem dX9_copy_66 : decode cX9_copy 66 = .ok (.istore_n 3, 1) := by decide +kernel
theorem dX9_copy_67 : decode cX9_copy 67 = .ok (.aload_n 0, 1) := by decide +kernel
theorem dX9_copy_68 : decode cX9_copy 68 = .ok (.getfield 83, 3) := by decide +kernel
theorem dX9_copy_71 : decode cX9_copy 71 = .ok (.iconst 4, 1) := by decide +kernel
theorem dX9_copy_72 : decode cX9_copy 72 = .ok (.iload_n 1, 1) := by decide +kernel
theorem dX9_copy_73 : decode cX9_copy 73 = .ok (.imul, 1) := by decide +kernel
theorem dX9_copy_74 : decode cX9_copy 74 = .ok (.iload_n 3, 1) := by decide +kernel
theorem dX9_copy_75 : decode cX9_copy 75 = .ok (.iadd, 1) := by decide +kernel
theorem dX9_copy_76 : decode cX9_copy 76 = .ok (.iconst 1, 1) := by decide +kernel
theorem dX9_copy_77 : decode cX9_copy 77 = .ok (.isub, 1) := by decide +kernel
theorem dX9_copy_78 : decode cX9_copy 78 = .ok (.iaload, 1) := by decide +kernel
theorem dX9_copy_79 : decode cX9_copy 79 = .ok (.iload_n 2, 1) := by decide +kernel
theorem dX9_copy_80 : decode cX9_copy 80 = .ok (.if_icmp .le 31, 3) := by decide +kernel
theorem dX9_copy_83 : decode cX9_copy 83 = .ok (.aload_n 0, 1) := by decide +kernel
theorem dX9_copy_84 : decode cX9_copy 84 = .ok (.getfield 83, 3) := by decide +kernel
theorem dX9_copy_87 : decode cX9_copy 87 = .ok (.iconst 4, 1) := by decide +kernel
theorem dX9_copy_88 : decode cX9_copy 88 = .ok (.iload_n 1, 1) := by decide +kernel
theorem dX9_copy_89 : decode cX9_copy 89 = .ok (.imul, 1) := by decide +kernel
theorem dX9_copy_90 : decode cX9_copy 90 = .ok (.iload_n 3, 1) := by decide +kernel
theorem dX9_copy_91 : decode cX9_copy 91 = .ok (.iadd, 1) := by decide +kernel
theorem dX9_copy_92 : decode cX9_copy 92 = .ok (.aload_n 0, 1) := by decide +kernel
theorem dX9_copy_93 : decode cX9_copy 93 = .ok (.getfield 83, 3) := by decide +kernel
theorem dX9_copy_96 : decode cX9_copy 96 = .ok (.iconst 4, 1) := by decide +kernel
theorem dX9_copy_97 : decode cX9_copy 97 = .ok (.iload_n 1, 1) := by decide +kernel
theorem dX9_copy_98 : decode cX9_copy 98 = .ok (.imul, 1) := by decide +kernel
theorem dX9_copy_99 : decode cX9_copy 99 = .ok (.iload_n 3, 1) := by decide +kernel
theorem dX9_copy_100 : decode cX9_copy 100 = .ok (.iadd, 1) := by decide +kernel
theorem dX9_copy_101 : decode cX9_copy 101 = .ok (.iconst 1, 1) := by decide +kernel
theorem dX9_copy_102 : decode cX9_copy 102 = .ok (.isub, 1) := by decide +kernel
theorem dX9_copy_103 : decode cX9_copy 103 = .ok (.iaload, 1) := by decide +kernel
theorem dX9_copy_104 : decode cX9_copy 104 = .ok (.iastore, 1) := by decide +kernel
theorem dX9_copy_105 : decode cX9_copy 105 = .ok (.iinc 3 (-1), 3) := by decide +kernel
theorem dX9_copy_108 : decode cX9_copy 108 = .ok (.goto (-41), 3) := by decide +kernel
theorem dX9_copy_111 : decode cX9_copy 111 = .ok (.aload_n 0, 1) := by decide +kernel
theorem dX9_copy_112 : decode cX9_copy 112 = .ok (.getfield 83, 3) := by decide +kernel
theorem dX9_copy_115 : decode cX9_copy 115 = .ok (.iconst 4, 1) := by decide +kernel
theorem dX9_copy_116 : decode cX9_copy 116 = .ok (.iload_n 1, 1) := by decide +kernel
theorem dX9_copy_117 : decode cX9_copy 117 = .ok (.imul, 1) := by decide +kernel
theorem dX9_copy_118 : decode cX9_copy 118 = .ok (.iload_n 3, 1) := by decide +kernel
theorem dX9_copy_119 : decode cX9_copy 119 = .ok (.iadd, 1) := by decide +kernel
theorem dX9_copy_120 : decode cX9_copy 120 = .ok (.iload_n 2, 1) := by decide +kernel
theorem dX9_copy_121 : decode cX9_copy 121 = .ok (.iastore, 1) := by decide +kernel
theorem dX9_copy_122 : decode cX9_copy 122 = .ok (.aload_n 0, 1) := by decide +kernel
theorem dX9_copy_123 : decode cX9_copy 123 = .ok (.getfield 86, 3) := by decide +kernel
theorem dX9_copy_126 : decode cX9_copy 126 = .ok (.iload_n 1, 1) := by decide +kernel
theorem dX9_copy_127 : decode cX9_copy 127 = .ok (.dup2, 1) := by decide +kernel
theorem dX9_copy_128 : decode cX9_copy 128 = .ok (.iaload, 1) := by decide +kernel
theorem dX9_copy_129 : decode cX9_copy 129 = .ok (.iconst 1, 1) := by decide +kernel
theorem dX9_copy_130 : decode cX9_copy 130 = .ok (.iadd, 1) := by decide +kernel
theorem dX9_copy_131 : decode cX9_copy 131 = .ok (.iastore, 1) := by decide +kernel
theorem dX9_copy_132 : decode cX9_copy 132 = .ok (.iload_n 2, 1) := by decide +kernel
theorem dX9_copy_133 : decode cX9_copy 133 = .ok (.ireturn, 1) := by decide +kernel
theorem dX9_lose_0 : decode cX9_lose 0 = .ok (.aload_n 0, 1) := by decide +kernel
theorem dX9_lose_1 : decode cX9_lose 1 = .ok (.aload_n 0, 1) := by decide +kernel
theorem dX9_lose_2 : decode cX9_lose 2 = .ok (.iload_n 1, 1) := by decide +kernel
theorem dX9_lose_3 : decode cX9_lose 3 = .ok (.invokevirtual 165, 3) := by decide +kernel
theorem dX9_lose_6 : decode cX9_lose 6 = .ok (.ifCond .ne 7, 3) := by decide +kernel
theorem dX9_lose_9 : decode cX9_lose 9 = .ok (.iconst 1, 1) := by decide +kernel
theorem dX9_lose_10 : decode cX9_lose 10 = .ok (.goto 17, 3) := by decide +kernel
theorem dX9_lose_13 : decode cX9_lose 13 = .ok (.aload_n 0, 1) := by decide +kernel
theorem dX9_lose_14 : decode cX9_lose 14 = .ok (.getfield 86, 3) := by decide +kernel
theorem dX9_lose_17 : decode cX9_lose 17 = .ok (.iload_n 1, 1) := by decide +kernel
theorem dX9_lose_18 : decode cX9_lose 18 = .ok (.iaload, 1) := by decide +kernel
theorem dX9_lose_19 : decode cX9_lose 19 = .ok (.ifCond .ne 7, 3) := by decide +kernel
theorem dX9_lose_22 : decode cX9_lose 22 = .ok (.iconst 2, 1) := by decide +kernel
theorem dX9_lose_23 : decode cX9_lose 23 = .ok (.goto 4, 3) := by decide +kernel
theorem dX9_lose_26 : decode cX9_lose 26 = .ok (.iconst 0, 1) := by decide +kernel
theorem dX9_lose_27 : decode cX9_lose 27 = .ok (.putfield 117, 3) := by decide +kernel
theorem dX9_lose_30 : decode cX9_lose 30 = .ok (.aload_n 0, 1) := by decide +kernel
theorem dX9_lose_31 : decode cX9_lose 31 = .ok (.getfield 117, 3) := by decide +kernel
theorem dX9_lose_34 : decode cX9_lose 34 = .ok (.ifCond .le 5, 3) := by decide +kernel
theorem dX9_lose_37 : decode cX9_lose 37 = .ok (.iconst 0, 1) := by decide +kernel
theorem dX9_lose_38 : decode cX9_lose 38 = .ok (.ireturn, 1) := by decide +kernel
theorem dX9_lose_39 : decode cX9_lose 39 = .ok (.aload_n 0, 1) := by decide +kernel
theorem dX9_lose_40 : decode cX9_lose 40 = .ok (.getfield 86, 3) := by decide +kernel
theorem dX9_lose_43 : decode cX9_lose 43 = .ok (.iload_n 1, 1) := by decide +kernel
theorem dX9_lose_44 : decode cX9_lose 44 = .ok (.dup2, 1) := by decide +kernel
theorem dX9_lose_45 : decode cX9_lose 45 = .ok (.iaload, 1) := by decide +kernel
theorem dX9_lose_46 : decode cX9_lose 46 = .ok (.iconst 1, 1) := by decide +kernel
theorem dX9_lose_47 : decode cX9_lose 47 = .ok (.isub, 1) := by decide +kernel
theorem dX9_lose_48 : decode cX9_lose 48 = .ok (.iastore, 1) := by decide +kernel
theorem dX9_lose_49 : decode cX9_lose 49 = .ok (.iconst 0, 1) := by decide +kernel
theorem dX9_lose_50 : decode cX9_lose 50 = .ok (.istore_n 2, 1) := by decide +kernel
theorem dX9_lose_51 : decode cX9_lose 51 = .ok (.iload_n 2, 1) := by decide +kernel
theorem dX9_lose_52 : decode cX9_lose 52 = .ok (.aload_n 0, 1) := by decide +kernel
theorem dX9_lose_53 : decode cX9_lose 53 = .ok (.getfield 86, 3) := by decide +kernel
theorem dX9_lose_56 : decode cX9_lose 56 = .ok (.iload_n 1, 1) := by decide +kernel
theorem dX9_lose_57 : decode cX9_lose 57 = .ok (.iaload, 1) := by decide +kernel
theorem dX9_lose_58 : decode cX9_lose 58 = .ok (.if_icmp .ge 31, 3) := by decide +kernel
theorem dX9_lose_61 : decode cX9_lose 61 = .ok (.aload_n 0, 1) := by decide +kernel
theorem dX9_lose_62 : decode cX9_lose 62 = .ok (.getfield 83, 3) := by decide +kernel
theorem dX9_lose_65 : decode cX9_lose 65 = .ok (.iconst 4, 1) := by decide +kernel
theorem dX9_lose_66 : decode cX9_lose 66 = .ok (.iload_n 1, 1) := by decide +kernel
theorem dX9_lose_67 : decode cX9_lose 67 = .ok (.imul, 1) := by decide +kernel
theorem dX9_lose_68 : decode cX9_lose 68 = .ok (.iload_n 2, 1) := by decide +kernel
theorem dX9_lose_69 : decode cX9_lose 69 = .ok (.iadd, 1) := by decide +kernel
theorem dX9_lose_70 : decode cX9_lose 70 = .ok (.aload_n 0, 1) := by decide +kernel
theorem dX9_lose_71 : decode cX9_lose 71 = .ok (.getfield 83, 3) := by decide +kernel
theorem dX9_lose_74 : decode cX9_lose 74 = .ok (.iconst 4, 1) := by decide +kernel
theorem dX9_lose_75 : decode cX9_lose 75 = .ok (.iload_n 1, 1) := by decide +kernel
theorem dX9_lose_76 : decode cX9_lose 76 = .ok (.imul, 1) := by decide +kernel
theorem dX9_lose_77 : decode cX9_lose 77 = .ok (.iload_n 2, 1) := by decide +kernel
theorem dX9_lose_78 : decode cX9_lose 78 = .ok (.iadd, 1) := by decide +kernel
theorem dX9_lose_79 : decode cX9_lose 79 = .ok (.iconst 1, 1) := by decide +kernel
theorem dX9_lose_80 : decode cX9_lose 80 = .ok (.iadd, 1) := by decide +kernel
theorem dX9_lose_81 : decode cX9_lose 81 = .ok (.iaload, 1) := by decide +kernel
theorem dX9_lose_82 : decode cX9_lose 82 = .ok (.iastore, 1) := by decide +kernel
theorem dX9_lose_83 : decode cX9_lose 83 = .ok (.iinc 2 1, 3) := by decide +kernel
theorem dX9_lose_86 : decode cX9_lose 86 = .ok (.goto (-35), 3) := by decide +kernel
theorem dX9_lose_89 : decode cX9_lose 89 = .ok (.aload_n 0, 1) := by decide +kernel
theorem dX9_lose_90 : decode cX9_lose 90 = .ok (.iload_n 1, 1) := by decide +kernel
theorem dX9_lose_91 : decode cX9_lose 91 = .ok (.invokevirtual 192, 3) := by decide +kernel
theorem dX9_lose_94 : decode cX9_lose 94 = .ok (.ireturn, 1) := by decide +kernel
theorem dX9_least_0 : decode cX9_least 0 = .ok (.aload_n 0, 1) := by decide +kernel
theorem dX9_least_1 : decode cX9_least 1 = .ok (.getfield 86, 3) := by decide +kernel
theorem dX9_least_4 : decode cX9_least 4 = .ok (.iload_n 1, 1) := by decide +kernel
theorem dX9_least_5 : decode cX9_least 5 = .ok (.iaload, 1) := by decide +kernel
theorem dX9_least_6 : decode cX9_least 6 = .ok (.ifCond .ne 7, 3) := by decide +kernel
theorem dX9_least_9 : decode cX9_least 9 = .ok (.iconst (-1), 1) := by decide +kernel
theorem dX9_least_10 : decode cX9_least 10 = .ok (.goto 11, 3) := by decide +kernel
theorem dX9_least_13 : decode cX9_least 13 = .ok (.aload_n 0, 1) := by decide +kernel
theorem dX9_least_14 : decode cX9_least 14 = .ok (.getfield 83, 3) := by decide +kernel
theorem dX9_least_17 : decode cX9_least 17 = .ok (.iconst 4, 1) := by decide +kernel
theorem dX9_least_18 : decode cX9_least 18 = .ok (.iload_n 1, 1) := by decide +kernel
theorem dX9_least_19 : decode cX9_least 19 = .ok (.imul, 1) := by decide +kernel
theorem dX9_least_20 : decode cX9_least 20 = .ok (.iaload, 1) := by decide +kernel
theorem dX9_least_21 : decode cX9_least 21 = .ok (.ireturn, 1) := by decide +kernel
theorem dX9_proof_0 : decode cX9_proof 0 = .ok (.aload_n 0, 1) := by decide +kernel
theorem dX9_proof_1 : decode cX9_proof 1 = .ok (.aload_n 0, 1) := by decide +kernel
theorem dX9_proof_2 : decode cX9_proof 2 = .ok (.iload_n 1, 1) := by decide +kernel
theorem dX9_proof_3 : decode cX9_proof 3 = .ok (.invokevirtual 165, 3) := by decide +kernel
theorem dX9_proof_6 : decode cX9_proof 6 = .ok (.ifCond .eq 7, 3) := by decide +kernel
theorem dX9_proof_9 : decode cX9_proof 9 = .ok (.iconst 0, 1) := by decide +kernel
theorem dX9_proof_10 : decode cX9_proof 10 = .ok (.goto 4, 3) := by decide +kernel
theorem dX9_proof_13 : decode cX9_proof 13 = .ok (.iconst 1, 1) := by decide +kernel
theorem dX9_proof_14 : decode cX9_proof 14 = .ok (.putfield 117, 3) := by decide +kernel
theorem dX9_proof_17 : decode cX9_proof 17 = .ok (.aload_n 0, 1) := by decide +kernel
theorem dX9_proof_18 : decode cX9_proof 18 = .ok (.getfield 117, 3) := by decide +kernel
theorem dX9_proof_21 : decode cX9_proof 21 = .ok (.ifCond .le 7, 3) := by decide +kernel
theorem dX9_proof_24 : decode cX9_proof 24 = .ok (.iconst 0, 1) := by decide +kernel
theorem dX9_proof_25 : decode cX9_proof 25 = .ok (.goto 8, 3) := by decide +kernel
theorem dX9_proof_28 : decode cX9_proof 28 = .ok (.aload_n 0, 1) := by decide +kernel
theorem dX9_proof_29 : decode cX9_proof 29 = .ok (.iload_n 1, 1) := by decide +kernel
theorem dX9_proof_30 : decode cX9_proof 30 = .ok (.invokevirtual 192, 3) := by decide +kernel
theorem dX9_proof_33 : decode cX9_proof 33 = .ok (.ireturn, 1) := by decide +kernel
theorem dX9_common_0 : decode cX9_common 0 = .ok (.lload_n 0, 1) := by decide +kernel
theorem dX9_common_1 : decode cX9_common 1 = .ok (.lstore 4, 2) := by decide +kernel
theorem dX9_common_3 : decode cX9_common 3 = .ok (.lload_n 2, 1) := by decide +kernel
theorem dX9_common_4 : decode cX9_common 4 = .ok (.lstore 6, 2) := by decide +kernel
theorem dX9_common_6 : decode cX9_common 6 = .ok (.lload 6, 2) := by decide +kernel
theorem dX9_common_8 : decode cX9_common 8 = .ok (.lconst 0, 1) := by decide +kernel
theorem dX9_common_9 : decode cX9_common 9 = .ok (.lcmp, 1) := by decide +kernel
theorem dX9_common_10 : decode cX9_common 10 = .ok (.ifCond .le 21, 3) := by decide +kernel
theorem dX9_common_13 : decode cX9_common 13 = .ok (.lload 4, 2) := by decide +kernel
theorem dX9_common_15 : decode cX9_common 15 = .ok (.lload 6, 2) := by decide +kernel
theorem dX9_common_17 : decode cX9_common 17 = .ok (.lrem, 1) := by decide +kernel
theorem dX9_common_18 : decode cX9_common 18 = .ok (.lstore 8, 2) := by decide +kernel
theorem dX9_common_20 : decode cX9_common 20 = .ok (.lload 6, 2) := by decide +kernel
theorem dX9_common_22 : decode cX9_common 22 = .ok (.lstore 4, 2) := by decide +kernel
theorem dX9_common_24 : decode cX9_common 24 = .ok (.lload 8, 2) := by decide +kernel
theorem dX9_common_26 : decode cX9_common 26 = .ok (.lstore 6, 2) := by decide +kernel
theorem dX9_common_28 : decode cX9_common 28 = .ok (.goto (-22), 3) := by decide +kernel
theorem dX9_common_31 : decode cX9_common 31 = .ok (.lload 4, 2) := by decide +kernel
theorem dX9_common_33 : decode cX9_common 33 = .ok (.lreturn, 1) := by decide +kernel
theorem dX9_laysNew_0 : decode cX9_laysNew 0 = .ok (.iconst 0, 1) := by decide +kernel
theorem dX9_laysNew_1 : decode cX9_laysNew 1 = .ok (.istore_n 1, 1) := by decide +kernel
theorem dX9_laysNew_2 : decode cX9_laysNew 2 = .ok (.iload_n 1, 1) := by decide +kernel
theorem dX9_laysNew_3 : decode cX9_laysNew 3 = .ok (.bipush 104, 2) := by decide +kernel
theorem dX9_laysNew_5 : decode cX9_laysNew 5 = .ok (.if_icmp .ge 33, 3) := by decide +kernel
theorem dX9_laysNew_8 : decode cX9_laysNew 8 = .ok (.aload_n 0, 1) := by decide +kernel
theorem dX9_laysNew_9 : decode cX9_laysNew 9 = .ok (.getfield 111, 3) := by decide +kernel
theorem dX9_laysNew_12 : decode cX9_laysNew 12 = .ok (.iload_n 1, 1) := by decide +kernel
theorem dX9_laysNew_13 : decode cX9_laysNew 13 = .ok (.aload_n 0, 1) := by decide +kernel
theorem dX9_laysNew_14 : decode cX9_laysNew 14 = .ok (.getfield 92, 3) := by decide +kernel
theorem dX9_laysNew_17 : decode cX9_laysNew 17 = .ok (.iload_n 1, 1) := by decide +kernel
theorem dX9_laysNew_18 : decode cX9_laysNew 18 = .ok (.laload, 1) := by decide +kernel
theorem dX9_laysNew_19 : decode cX9_laysNew 19 = .ok (.lastore, 1) := by decide +kernel
theorem dX9_laysNew_20 : decode cX9_laysNew 20 = .ok (.aload_n 0, 1) := by decide +kernel
theorem dX9_laysNew_21 : decode cX9_laysNew 21 = .ok (.getfield 114, 3) := by decide +kernel
theorem dX9_laysNew_24 : decode cX9_laysNew 24 = .ok (.iload_n 1, 1) := by decide +kernel
theorem dX9_laysNew_25 : decode cX9_laysNew 25 = .ok (.aload_n 0, 1) := by decide +kernel
theorem dX9_laysNew_26 : decode cX9_laysNew 26 = .ok (.getfield 96, 3) := by decide +kernel
theorem dX9_laysNew_29 : decode cX9_laysNew 29 = .ok (.iload_n 1, 1) := by decide +kernel
theorem dX9_laysNew_30 : decode cX9_laysNew 30 = .ok (.laload, 1) := by decide +kernel
theorem dX9_laysNew_31 : decode cX9_laysNew 31 = .ok (.lastore, 1) := by decide +kernel
theorem dX9_laysNew_32 : decode cX9_laysNew 32 = .ok (.iinc 1 1, 3) := by decide +kernel
theorem dX9_laysNew_35 : decode cX9_laysNew 35 = .ok (.goto (-33), 3) := by decide +kernel
theorem dX9_laysNew_38 : decode cX9_laysNew 38 = .ok (.return_, 1) := by decide +kernel
theorem dX9_takesNew_0 : decode cX9_takesNew 0 = .ok (.iconst 0, 1) := by decide +kernel
theorem dX9_takesNew_1 : decode cX9_takesNew 1 = .ok (.istore_n 1, 1) := by decide +kernel
theorem dX9_takesNew_2 : decode cX9_takesNew 2 = .ok (.iload_n 1, 1) := by decide +kernel
theorem dX9_takesNew_3 : decode cX9_takesNew 3 = .ok (.bipush 104, 2) := by decide +kernel
theorem dX9_takesNew_5 : decode cX9_takesNew 5 = .ok (.if_icmp .ge 33, 3) := by decide +kernel
theorem dX9_takesNew_8 : decode cX9_takesNew 8 = .ok (.aload_n 0, 1) := by decide +kernel
theorem dX9_takesNew_9 : decode cX9_takesNew 9 = .ok (.getfield 92, 3) := by decide +kernel
theorem dX9_takesNew_12 : decode cX9_takesNew 12 = .ok (.iload_n 1, 1) := by decide +kernel
theorem dX9_takesNew_13 : decode cX9_takesNew 13 = .ok (.aload_n 0, 1) := by decide +kernel
theorem dX9_takesNew_14 : decode cX9_takesNew 14 = .ok (.getfield 111, 3) := by decide +kernel
theorem dX9_takesNew_17 : decode cX9_takesNew 17 = .ok (.iload_n 1, 1) := by decide +kernel
theorem dX9_takesNew_18 : decode cX9_takesNew 18 = .ok (.laload, 1) := by decide +kernel
theorem dX9_takesNew_19 : decode cX9_takesNew 19 = .ok (.lastore, 1) := by decide +kernel
theorem dX9_takesNew_20 : decode cX9_takesNew 20 = .ok (.aload_n 0, 1) := by decide +kernel
theorem dX9_takesNew_21 : decode cX9_takesNew 21 = .ok (.getfield 96, 3) := by decide +kernel
theorem dX9_takesNew_24 : decode cX9_takesNew 24 = .ok (.iload_n 1, 1) := by decide +kernel
theorem dX9_takesNew_25 : decode cX9_takesNew 25 = .ok (.aload_n 0, 1) := by decide +kernel
theorem dX9_takesNew_26 : decode cX9_takesNew 26 = .ok (.getfield 114, 3) := by decide +kernel
theorem dX9_takesNew_29 : decode cX9_takesNew 29 = .ok (.iload_n 1, 1) := by decide +kernel
theorem dX9_takesNew_30 : decode cX9_takesNew 30 = .ok (.laload, 1) := by decide +kernel
theorem dX9_takesNew_31 : decode cX9_takesNew 31 = .ok (.lastore, 1) := by decide +kernel
theorem dX9_takesNew_32 : decode cX9_takesNew 32 = .ok (.iinc 1 1, 3) := by decide +kernel
theorem dX9_takesNew_35 : decode cX9_takesNew 35 = .ok (.goto (-33), 3) := by decide +kernel
theorem dX9_takesNew_38 : decode cX9_takesNew 38 = .ok (.return_, 1) := by decide +kernel
theorem dX9_adds_0 : decode cX9_adds 0 = .ok (.aload_n 0, 1) := by decide +kernel
theorem dX9_adds_1 : decode cX9_adds 1 = .ok (.getfield 111, 3) := by decide +kernel
theorem dX9_adds_4 : decode cX9_adds 4 = .ok (.iload_n 1, 1) := by decide +kernel
theorem dX9_adds_5 : decode cX9_adds 5 = .ok (.laload, 1) := by decide +kernel
theorem dX9_adds_6 : decode cX9_adds 6 = .ok (.lload 4, 2) := by decide +kernel
theorem dX9_adds_8 : decode cX9_adds 8 = .ok (.lmul, 1) := by decide +kernel
theorem dX9_adds_9 : decode cX9_adds 9 = .ok (.lload_n 2, 1) := by decide +kernel
theorem dX9_adds_10 : decode cX9_adds 10 = .ok (.aload_n 0, 1) := by decide +kernel
theorem dX9_adds_11 : decode cX9_adds 11 = .ok (.getfield 114, 3) := by decide +kernel
theorem dX9_adds_14 : decode cX9_adds 14 = .ok (.iload_n 1, 1) := by decide +kernel
theorem dX9_adds_15 : decode cX9_adds 15 = .ok (.laload, 1) := by decide +kernel
theorem dX9_adds_16 : decode cX9_adds 16 = .ok (.lmul, 1) := by decide +kernel
theorem dX9_adds_17 : decode cX9_adds 17 = .ok (.ladd, 1) := by decide +kernel
theorem dX9_adds_18 : decode cX9_adds 18 = .ok (.lstore 6, 2) := by decide +kernel
theorem dX9_adds_20 : decode cX9_adds 20 = .ok (.aload_n 0, 1) := by decide +kernel
theorem dX9_adds_21 : decode cX9_adds 21 = .ok (.getfield 114, 3) := by decide +kernel
theorem dX9_adds_24 : decode cX9_adds 24 = .ok (.iload_n 1, 1) := by decide +kernel
theorem dX9_adds_25 : decode cX9_adds 25 = .ok (.laload, 1) := by decide +kernel
theorem dX9_adds_26 : decode cX9_adds 26 = .ok (.lload 4, 2) := by decide +kernel
theorem dX9_adds_28 : decode cX9_adds 28 = .ok (.lmul, 1) := by decide +kernel
theorem dX9_adds_29 : decode cX9_adds 29 = .ok (.lstore 8, 2) := by decide +kernel
theorem dX9_adds_31 : decode cX9_adds 31 = .ok (.lload 6, 2) := by decide +kernel
theorem dX9_adds_33 : decode cX9_adds 33 = .ok (.lconst 0, 1) := by decide +kernel
theorem dX9_adds_34 : decode cX9_adds 34 = .ok (.lcmp, 1) := by decide +kernel
theorem dX9_adds_35 : decode cX9_adds 35 = .ok (.ifCond .ge 9, 3) := by decide +kernel
theorem dX9_adds_38 : decode cX9_adds 38 = .ok (.lload 6, 2) := by decide +kernel
theorem dX9_adds_40 : decode cX9_adds 40 = .ok (.lneg, 1) := by decide +kernel
theorem dX9_adds_41 : decode cX9_adds 41 = .ok (.goto 5, 3) := by decide +kernel
theorem dX9_adds_44 : decode cX9_adds 44 = .ok (.lload 6, 2) := by decide +kernel
theorem dX9_adds_46 : decode cX9_adds 46 = .ok (.lload 8, 2) := by decide +kernel
theorem dX9_adds_48 : decode cX9_adds 48 = .ok (.invokestatic 195, 3) := by decide +kernel
theorem dX9_adds_51 : decode cX9_adds 51 = .ok (.lstore 10, 2) := by decide +kernel
theorem dX9_adds_53 : decode cX9_adds 53 = .ok (.aload_n 0, 1) := by decide +kernel
theorem dX9_adds_54 : decode cX9_adds 54 = .ok (.getfield 111, 3) := by decide +kernel
theorem dX9_adds_57 : decode cX9_adds 57 = .ok (.iload_n 1, 1) := by decide +kernel
theorem dX9_adds_58 : decode cX9_adds 58 = .ok (.lload 6, 2) := by decide +kernel
theorem dX9_adds_60 : decode cX9_adds 60 = .ok (.lload 10, 2) := by decide +kernel
theorem dX9_adds_62 : decode cX9_adds 62 = .ok (.ldiv, 1) := by decide +kernel
theorem dX9_adds_63 : decode cX9_adds 63 = .ok (.lastore, 1) := by decide +kernel
theorem dX9_adds_64 : decode cX9_adds 64 = .ok (.aload_n 0, 1) := by decide +kernel
theorem dX9_adds_65 : decode cX9_adds 65 = .ok (.getfield 114, 3) := by decide +kernel
theorem dX9_adds_68 : decode cX9_adds 68 = .ok (.iload_n 1, 1) := by decide +kernel
theorem dX9_adds_69 : decode cX9_adds 69 = .ok (.lload 8, 2) := by decide +kernel
theorem dX9_adds_71 : decode cX9_adds 71 = .ok (.lload 10, 2) := by decide +kernel
theorem dX9_adds_73 : decode cX9_adds 73 = .ok (.ldiv, 1) := by decide +kernel
theorem dX9_adds_74 : decode cX9_adds 74 = .ok (.lastore, 1) := by decide +kernel
theorem dX9_adds_75 : decode cX9_adds 75 = .ok (.aload_n 0, 1) := by decide +kernel
theorem dX9_adds_76 : decode cX9_adds 76 = .ok (.getfield 114, 3) := by decide +kernel
theorem dX9_adds_79 : decode cX9_adds 79 = .ok (.iload_n 1, 1) := by decide +kernel
theorem dX9_adds_80 : decode cX9_adds 80 = .ok (.laload, 1) := by decide +kernel
theorem dX9_adds_81 : decode cX9_adds 81 = .ok (.ldc2_w 199, 3) := by decide +kernel
theorem dX9_adds_84 : decode cX9_adds 84 = .ok (.lcmp, 1) := by decide +kernel
theorem dX9_adds_85 : decode cX9_adds 85 = .ok (.ifCond .gt 7, 3) := by decide +kernel
theorem dX9_adds_88 : decode cX9_adds 88 = .ok (.iconst 1, 1) := by decide +kernel
theorem dX9_adds_89 : decode cX9_adds 89 = .ok (.goto 4, 3) := by decide +kernel
theorem dX9_adds_92 : decode cX9_adds 92 = .ok (.iconst 0, 1) := by decide +kernel
theorem dX9_adds_93 : decode cX9_adds 93 = .ok (.ireturn, 1) := by decide +kernel
theorem dX9_comes_0 : decode cX9_comes 0 = .ok (.aload_n 0, 1) := by decide +kernel
theorem dX9_comes_1 : decode cX9_comes 1 = .ok (.getfield 99, 3) := by decide +kernel
theorem dX9_comes_4 : decode cX9_comes 4 = .ok (.aload_n 0, 1) := by decide +kernel
theorem dX9_comes_5 : decode cX9_comes 5 = .ok (.getfield 201, 3) := by decide +kernel
theorem dX9_comes_8 : decode cX9_comes 8 = .ok (.iload_n 1, 1) := by decide +kernel
theorem dX9_comes_9 : decode cX9_comes 9 = .ok (.iastore, 1) := by decide +kernel
theorem dX9_comes_10 : decode cX9_comes 10 = .ok (.aload_n 0, 1) := by decide +kernel
theorem dX9_comes_11 : decode cX9_comes 11 = .ok (.getfield 102, 3) := by decide +kernel
theorem dX9_comes_14 : decode cX9_comes 14 = .ok (.aload_n 0, 1) := by decide +kernel
theorem dX9_comes_15 : decode cX9_comes 15 = .ok (.getfield 201, 3) := by decide +kernel
theorem dX9_comes_18 : decode cX9_comes 18 = .ok (.iload_n 2, 1) := by decide +kernel
theorem dX9_comes_19 : decode cX9_comes 19 = .ok (.iastore, 1) := by decide +kernel
theorem dX9_comes_20 : decode cX9_comes 20 = .ok (.aload_n 0, 1) := by decide +kernel
theorem dX9_comes_21 : decode cX9_comes 21 = .ok (.getfield 105, 3) := by decide +kernel
theorem dX9_comes_24 : decode cX9_comes 24 = .ok (.aload_n 0, 1) := by decide +kernel
theorem dX9_comes_25 : decode cX9_comes 25 = .ok (.getfield 201, 3) := by decide +kernel
theorem dX9_comes_28 : decode cX9_comes 28 = .ok (.iload_n 3, 1) := by decide +kernel
theorem dX9_comes_29 : decode cX9_comes 29 = .ok (.iastore, 1) := by decide +kernel
theorem dX9_comes_30 : decode cX9_comes 30 = .ok (.aload_n 0, 1) := by decide +kernel
theorem dX9_comes_31 : decode cX9_comes 31 = .ok (.getfield 108, 3) := by decide +kernel
theorem dX9_comes_34 : decode cX9_comes 34 = .ok (.aload_n 0, 1) := by decide +kernel
theorem dX9_comes_35 : decode cX9_comes 35 = .ok (.getfield 201, 3) := by decide +kernel
theorem dX9_comes_38 : decode cX9_comes 38 = .ok (.aload_n 0, 1) := by decide +kernel
theorem dX9_comes_39 : decode cX9_comes 39 = .ok (.getfield 134, 3) := by decide +kernel
theorem dX9_comes_42 : decode cX9_comes 42 = .ok (.iastore, 1) := by decide +kernel
theorem dX9_comes_43 : decode cX9_comes 43 = .ok (.aload_n 0, 1) := by decide +kernel
theorem dX9_comes_44 : decode cX9_comes 44 = .ok (.dup, 1) := by decide +kernel
theorem dX9_comes_45 : decode cX9_comes 45 = .ok (.getfield 201, 3) := by decide +kernel
theorem dX9_comes_48 : decode cX9_comes 48 = .ok (.iconst 1, 1) := by decide +kernel
theorem dX9_comes_49 : decode cX9_comes 49 = .ok (.iadd, 1) := by decide +kernel
theorem dX9_comes_50 : decode cX9_comes 50 = .ok (.putfield 201, 3) := by decide +kernel
theorem dX9_comes_53 : decode cX9_comes 53 = .ok (.aload_n 0, 1) := by decide +kernel
theorem dX9_comes_54 : decode cX9_comes 54 = .ok (.getfield 201, 3) := by decide +kernel
theorem dX9_comes_57 : decode cX9_comes 57 = .ok (.iconst 1, 1) := by decide +kernel
theorem dX9_comes_58 : decode cX9_comes 58 = .ok (.isub, 1) := by decide +kernel
theorem dX9_comes_59 : decode cX9_comes 59 = .ok (.ireturn, 1) := by decide +kernel
theorem dX9_canEnter_0 : decode cX9_canEnter 0 = .ok (.aload_n 0, 1) := by decide +kernel
theorem dX9_canEnter_1 : decode cX9_canEnter 1 = .ok (.iload_n 1, 1) := by decide +kernel
theorem dX9_canEnter_2 : decode cX9_canEnter 2 = .ok (.invokevirtual 192, 3) := by decide +kernel
theorem dX9_canEnter_5 : decode cX9_canEnter 5 = .ok (.istore_n 2, 1) := by decide +kernel
theorem dX9_canEnter_6 : decode cX9_canEnter 6 = .ok (.aload_n 0, 1) := by decide +kernel
theorem dX9_canEnter_7 : decode cX9_canEnter 7 = .ok (.iload_n 1, 1) := by decide +kernel
theorem dX9_canEnter_8 : decode cX9_canEnter 8 = .ok (.invokevirtual 178, 3) := by decide +kernel
theorem dX9_canEnter_11 : decode cX9_canEnter 11 = .ok (.ifCond .eq 70, 3) := by decide +kernel
theorem dX9_canEnter_14 : decode cX9_canEnter 14 = .ok (.aload_n 0, 1) := by decide +kernel
theorem dX9_canEnter_15 : decode cX9_canEnter 15 = .ok (.getfield 65, 3) := by decide +kernel
theorem dX9_canEnter_18 : decode cX9_canEnter 18 = .ok (.iload_n 1, 1) := by decide +kernel
theorem dX9_canEnter_19 : decode cX9_canEnter 19 = .ok (.iaload, 1) := by decide +kernel
theorem dX9_canEnter_20 : decode cX9_canEnter 20 = .ok (.iconst 1, 1) := by decide +kernel
theorem dX9_canEnter_21 : decode cX9_canEnter 21 = .ok (.if_icmp .ne 60, 3) := by decide +kernel
theorem dX9_canEnter_24 : decode cX9_canEnter 24 = .ok (.iload_n 2, 1) := by decide +kernel
theorem dX9_canEnter_25 : decode cX9_canEnter 25 = .ok (.iconst (-1), 1) := by decide +kernel
theorem dX9_canEnter_26 : decode cX9_canEnter 26 = .ok (.if_icmp .eq 55, 3) := by decide +kernel
theorem dX9_canEnter_29 : decode cX9_canEnter 29 = .ok (.iload_n 2, 1) := by decide +kernel
theorem dX9_canEnter_30 : decode cX9_canEnter 30 = .ok (.iconst 1, 1) := by decide +kernel
theorem dX9_canEnter_31 : decode cX9_canEnter 31 = .ok (.if_icmp .gt 50, 3) := by decide +kernel
theorem dX9_canEnter_34 : decode cX9_canEnter 34 = .ok (.aload_n 0, 1) := by decide +kernel
theorem dX9_canEnter_35 : decode cX9_canEnter 35 = .ok (.getfield 74, 3) := by decide +kernel
theorem dX9_canEnter_38 : decode cX9_canEnter 38 = .ok (.iload_n 1, 1) := by decide +kernel
theorem dX9_canEnter_39 : decode cX9_canEnter 39 = .ok (.iaload, 1) := by decide +kernel
theorem dX9_canEnter_40 : decode cX9_canEnter 40 = .ok (.iconst (-1), 1) := by decide +kernel
theorem dX9_canEnter_41 : decode cX9_canEnter 41 = .ok (.if_icmp .ne 40, 3) := by decide +kernel
theorem dX9_canEnter_44 : decode cX9_canEnter 44 = .ok (.aload_n 0, 1) := by decide +kernel
theorem dX9_canEnter_45 : decode cX9_canEnter 45 = .ok (.getfield 201, 3) := by decide +kernel
theorem dX9_canEnter_48 : decode cX9_canEnter 48 = .ok (.bipush 100, 2) := by decide +kernel
theorem dX9_canEnter_50 : decode cX9_canEnter 50 = .ok (.if_icmp .eq 31, 3) := by decide +kernel
theorem dX9_canEnter_53 : decode cX9_canEnter 53 = .ok (.aload_n 0, 1) := by decide +kernel
theorem dX9_canEnter_54 : decode cX9_canEnter 54 = .ok (.getfield 20, 3) := by decide +kernel
theorem dX9_canEnter_57 : decode cX9_canEnter 57 = .ok (.aload_n 0, 1) := by decide +kernel
theorem dX9_canEnter_58 : decode cX9_canEnter 58 = .ok (.getfield 35, 3) := by decide +kernel
theorem dX9_canEnter_61 : decode cX9_canEnter 61 = .ok (.iload_n 1, 1) := by decide +kernel
theorem dX9_canEnter_62 : decode cX9_canEnter 62 = .ok (.iaload, 1) := by decide +kernel
theorem dX9_canEnter_63 : decode cX9_canEnter 63 = .ok (.baload, 1) := by decide +kernel
theorem dX9_canEnter_64 : decode cX9_canEnter 64 = .ok (.ifCond .ne 17, 3) := by decide +kernel
theorem dX9_canEnter_67 : decode cX9_canEnter 67 = .ok (.aload_n 0, 1) := by decide +kernel
theorem dX9_canEnter_68 : decode cX9_canEnter 68 = .ok (.getfield 20, 3) := by decide +kernel
theorem dX9_canEnter_71 : decode cX9_canEnter 71 = .ok (.aload_n 0, 1) := by decide +kernel
theorem dX9_canEnter_72 : decode cX9_canEnter 72 = .ok (.getfield 38, 3) := by decide +kernel
theorem dX9_canEnter_75 : decode cX9_canEnter 75 = .ok (.iload_n 1, 1) := by decide +kernel
theorem dX9_canEnter_76 : decode cX9_canEnter 76 = .ok (.iaload, 1) := by decide +kernel
theorem dX9_canEnter_77 : decode cX9_canEnter 77 = .ok (.baload, 1) := by decide +kernel
theorem dX9_canEnter_78 : decode cX9_canEnter 78 = .ok (.ifCond .eq 5, 3) := by decide +kernel
theorem dX9_canEnter_81 : decode cX9_canEnter 81 = .ok (.iconst 0, 1) := by decide +kernel
theorem dX9_canEnter_82 : decode cX9_canEnter 82 = .ok (.ireturn, 1) := by decide +kernel
theorem dX9_canEnter_83 : decode cX9_canEnter 83 = .ok (.bipush 13, 2) := by decide +kernel
theorem dX9_canEnter_85 : decode cX9_canEnter 85 = .ok (.aload_n 0, 1) := by decide +kernel
theorem dX9_canEnter_86 : decode cX9_canEnter 86 = .ok (.getfield 41, 3) := by decide +kernel
theorem dX9_canEnter_89 : decode cX9_canEnter 89 = .ok (.iload_n 1, 1) := by decide +kernel
theorem dX9_canEnter_90 : decode cX9_canEnter 90 = .ok (.iaload, 1) := by decide +kernel
theorem dX9_canEnter_91 : decode cX9_canEnter 91 = .ok (.imul, 1) := by decide +kernel
theorem dX9_canEnter_92 : decode cX9_canEnter 92 = .ok (.aload_n 0, 1) := by decide +kernel
theorem dX9_canEnter_93 : decode cX9_canEnter 93 = .ok (.getfield 35, 3) := by decide +kernel
theorem dX9_canEnter_96 : decode cX9_canEnter 96 = .ok (.iload_n 1, 1) := by decide +kernel
theorem dX9_canEnter_97 : decode cX9_canEnter 97 = .ok (.iaload, 1) := by decide +kernel
theorem dX9_canEnter_98 : decode cX9_canEnter 98 = .ok (.iadd, 1) := by decide +kernel
theorem dX9_canEnter_99 : decode cX9_canEnter 99 = .ok (.istore_n 3, 1) := by decide +kernel
theorem dX9_canEnter_100 : decode cX9_canEnter 100 = .ok (.aload_n 0, 1) := by decide +kernel
theorem dX9_canEnter_101 : decode cX9_canEnter 101 = .ok (.getfield 92, 3) := by decide +kernel
theorem dX9_canEnter_104 : decode cX9_canEnter 104 = .ok (.iload_n 3, 1) := by decide +kernel
theorem dX9_canEnter_105 : decode cX9_canEnter 105 = .ok (.laload, 1) := by decide +kernel
theorem dX9_canEnter_106 : decode cX9_canEnter 106 = .ok (.aload_n 0, 1) := by decide +kernel
theorem dX9_canEnter_107 : decode cX9_canEnter 107 = .ok (.getfield 47, 3) := by decide +kernel
theorem dX9_canEnter_110 : decode cX9_canEnter 110 = .ok (.iload_n 1, 1) := by decide +kernel
theorem dX9_canEnter_111 : decode cX9_canEnter 111 = .ok (.iaload, 1) := by decide +kernel
theorem dX9_canEnter_112 : decode cX9_canEnter 112 = .ok (.i2l, 1) := by decide +kernel
theorem dX9_canEnter_113 : decode cX9_canEnter 113 = .ok (.lmul, 1) := by decide +kernel
theorem dX9_canEnter_114 : decode cX9_canEnter 114 = .ok (.aload_n 0, 1) := by decide +kernel
theorem dX9_canEnter_115 : decode cX9_canEnter 115 = .ok (.getfield 44, 3) := by decide +kernel
theorem dX9_canEnter_118 : decode cX9_canEnter 118 = .ok (.iload_n 1, 1) := by decide +kernel
theorem dX9_canEnter_119 : decode cX9_canEnter 119 = .ok (.iaload, 1) := by decide +kernel
theorem dX9_canEnter_120 : decode cX9_canEnter 120 = .ok (.i2l, 1) := by decide +kernel
theorem dX9_canEnter_121 : decode cX9_canEnter 121 = .ok (.aload_n 0, 1) := by decide +kernel
theorem dX9_canEnter_122 : decode cX9_canEnter 122 = .ok (.getfield 96, 3) := by decide +kernel
theorem dX9_canEnter_125 : decode cX9_canEnter 125 = .ok (.iload_n 3, 1) := by decide +kernel
theorem dX9_canEnter_126 : decode cX9_canEnter 126 = .ok (.laload, 1) := by decide +kernel
theorem dX9_canEnter_127 : decode cX9_canEnter 127 = .ok (.lmul, 1) := by decide +kernel
theorem dX9_canEnter_128 : decode cX9_canEnter 128 = .ok (.lcmp, 1) := by decide +kernel
theorem dX9_canEnter_129 : decode cX9_canEnter 129 = .ok (.ifCond .ge 5, 3) := by decide +kernel
theorem dX9_canEnter_132 : decode cX9_canEnter 132 = .ok (.iconst 0, 1) := by decide +kernel
theorem dX9_canEnter_133 : decode cX9_canEnter 133 = .ok (.ireturn, 1) := by decide +kernel
theorem dX9_canEnter_134 : decode cX9_canEnter 134 = .ok (.aload_n 0, 1) := by decide +kernel
theorem dX9_canEnter_135 : decode cX9_canEnter 135 = .ok (.invokevirtual 204, 3) := by decide +kernel
theorem dX9_canEnter_138 : decode cX9_canEnter 138 = .ok (.iconst 1, 1) := by decide +kernel
theorem dX9_canEnter_139 : decode cX9_canEnter 139 = .ok (.istore 4, 2) := by decide +kernel
theorem dX9_canEnter_141 : decode cX9_canEnter 141 = .ok (.aload_n 0, 1) := by decide +kernel
theorem dX9_canEnter_142 : decode cX9_canEnter 142 = .ok (.getfield 32, 3) := by decide +kernel
theorem dX9_canEnter_145 : decode cX9_canEnter 145 = .ok (.iload_n 1, 1) := by decide +kernel
theorem dX9_canEnter_146 : decode cX9_canEnter 146 = .ok (.iaload, 1) := by decide +kernel
theorem dX9_canEnter_147 : decode cX9_canEnter 147 = .ok (.iconst 2, 1) := by decide +kernel
theorem dX9_canEnter_148 : decode cX9_canEnter 148 = .ok (.if_icmp .eq 74, 3) := by decide +kernel
theorem dX9_canEnter_151 : decode cX9_canEnter 151 = .ok (.aload_n 0, 1) := by decide +kernel
theorem dX9_canEnter_152 : decode cX9_canEnter 152 = .ok (.iload_n 3, 1) := by decide +kernel
theorem dX9_canEnter_153 : decode cX9_canEnter 153 = .ok (.aload_n 0, 1) := by decide +kernel
theorem dX9_canEnter_154 : decode cX9_canEnter 154 = .ok (.getfield 44, 3) := by decide +kernel
theorem dX9_canEnter_157 : decode cX9_canEnter 157 = .ok (.iload_n 1, 1) := by decide +kernel
theorem dX9_canEnter_158 : decode cX9_canEnter 158 = .ok (.iaload, 1) := by decide +kernel
theorem dX9_canEnter_159 : decode cX9_canEnter 159 = .ok (.ineg, 1) := by decide +kernel
theorem dX9_canEnter_160 : decode cX9_canEnter 160 = .ok (.i2l, 1) := by decide +kernel
theorem dX9_canEnter_161 : decode cX9_canEnter 161 = .ok (.aload_n 0, 1) := by decide +kernel
theorem dX9_canEnter_162 : decode cX9_canEnter 162 = .ok (.getfield 47, 3) := by decide +kernel
theorem dX9_canEnter_165 : decode cX9_canEnter 165 = .ok (.iload_n 1, 1) := by decide +kernel
theorem dX9_canEnter_166 : decode cX9_canEnter 166 = .ok (.iaload, 1) := by decide +kernel
theorem dX9_canEnter_167 : decode cX9_canEnter 167 = .ok (.i2l, 1) := by decide +kernel
theorem dX9_canEnter_168 : decode cX9_canEnter 168 = .ok (.invokevirtual 207, 3) := by decide +kernel
theorem dX9_canEnter_171 : decode cX9_canEnter 171 = .ok (.istore 4, 2) := by decide +kernel
theorem dX9_canEnter_173 : decode cX9_canEnter 173 = .ok (.aload_n 0, 1) := by decide +kernel
theorem dX9_canEnter_174 : decode cX9_canEnter 174 = .ok (.bipush 13, 2) := by decide +kernel
theorem dX9_canEnter_176 : decode cX9_canEnter 176 = .ok (.aload_n 0, 1) := by decide +kernel
theorem dX9_canEnter_177 : decode cX9_canEnter 177 = .ok (.getfield 41, 3) := by decide +kernel
theorem dX9_canEnter_180 : decode cX9_canEnter 180 = .ok (.iload_n 1, 1) := by decide +kernel
theorem dX9_canEnter_181 : decode cX9_canEnter 181 = .ok (.iaload, 1) := by decide +kernel
theorem dX9_canEnter_182 : decode cX9_canEnter 182 = .ok (.imul, 1) := by decide +kernel
theorem dX9_canEnter_183 : decode cX9_canEnter 183 = .ok (.aload_n 0, 1) := by decide +kernel
theorem dX9_canEnter_184 : decode cX9_canEnter 184 = .ok (.getfield 38, 3) := by decide +kernel
theorem dX9_canEnter_187 : decode cX9_canEnter 187 = .ok (.iload_n 1, 1) := by decide +kernel
theorem dX9_canEnter_188 : decode cX9_canEnter 188 = .ok (.iaload, 1) := by decide +kernel
theorem dX9_canEnter_189 : decode cX9_canEnter 189 = .ok (.iadd, 1) := by decide +kernel
theorem dX9_canEnter_190 : decode cX9_canEnter 190 = .ok (.aload_n 0, 1) := by decide +kernel
theorem dX9_canEnter_191 : decode cX9_canEnter 191 = .ok (.getfield 44, 3) := by decide +kernel
theorem dX9_canEnter_194 : decode cX9_canEnter 194 = .ok (.iload_n 1, 1) := by decide +kernel
theorem dX9_canEnter_195 : decode cX9_canEnter 195 = .ok (.iaload, 1) := by decide +kernel
theorem dX9_canEnter_196 : decode cX9_canEnter 196 = .ok (.i2l, 1) := by decide +kernel
theorem dX9_canEnter_197 : decode cX9_canEnter 197 = .ok (.aload_n 0, 1) := by decide +kernel
theorem dX9_canEnter_198 : decode cX9_canEnter 198 = .ok (.getfield 47, 3) := by decide +kernel
theorem dX9_canEnter_201 : decode cX9_canEnter 201 = .ok (.iload_n 1, 1) := by decide +kernel
theorem dX9_canEnter_202 : decode cX9_canEnter 202 = .ok (.iaload, 1) := by decide +kernel
theorem dX9_canEnter_203 : decode cX9_canEnter 203 = .ok (.i2l, 1) := by decide +kernel
theorem dX9_canEnter_204 : decode cX9_canEnter 204 = .ok (.invokevirtual 207, 3) := by decide +kernel
theorem dX9_canEnter_207 : decode cX9_canEnter 207 = .ok (.ifCond .eq 12, 3) := by decide +kernel
theorem dX9_canEnter_210 : decode cX9_canEnter 210 = .ok (.iload 4, 2) := by decide +kernel
theorem dX9_canEnter_212 : decode cX9_canEnter 212 = .ok (.ifCond .eq 7, 3) := by decide +kernel
theorem dX9_canEnter_215 : decode cX9_canEnter 215 = .ok (.iconst 1, 1) := by decide +kernel
theorem dX9_canEnter_216 : decode cX9_canEnter 216 = .ok (.goto 4, 3) := by decide +kernel
theorem dX9_canEnter_219 : decode cX9_canEnter 219 = .ok (.iconst 0, 1) := by decide +kernel
theorem dX9_canEnter_220 : decode cX9_canEnter 220 = .ok (.istore 4, 2) := by decide +kernel
theorem dX9_canEnter_222 : decode cX9_canEnter 222 = .ok (.iload 4, 2) := by decide +kernel
theorem dX9_canEnter_224 : decode cX9_canEnter 224 = .ok (.ireturn, 1) := by decide +kernel
theorem dX9_enter_0 : decode cX9_enter 0 = .ok (.aload_n 0, 1) := by decide +kernel
theorem dX9_enter_1 : decode cX9_enter 1 = .ok (.aload_n 0, 1) := by decide +kernel
theorem dX9_enter_2 : decode cX9_enter 2 = .ok (.iload_n 1, 1) := by decide +kernel
theorem dX9_enter_3 : decode cX9_enter 3 = .ok (.invokevirtual 165, 3) := by decide +kernel
theorem dX9_enter_6 : decode cX9_enter 6 = .ok (.ifCond .ne 7, 3) := by decide +kernel
theorem dX9_enter_9 : decode cX9_enter 9 = .ok (.iconst 1, 1) := by decide +kernel
theorem dX9_enter_10 : decode cX9_enter 10 = .ok (.goto 16, 3) := by decide +kernel
theorem dX9_enter_13 : decode cX9_enter 13 = .ok (.aload_n 0, 1) := by decide +kernel
theorem dX9_enter_14 : decode cX9_enter 14 = .ok (.iload_n 1, 1) := by decide +kernel
theorem dX9_enter_15 : decode cX9_enter 15 = .ok (.invokevirtual 211, 3) := by decide +kernel
theorem dX9_enter_18 : decode cX9_enter 18 = .ok (.ifCond .ne 7, 3) := by decide +kernel
theorem dX9_enter_21 : decode cX9_enter 21 = .ok (.iconst 2, 1) := by decide +kernel
theorem dX9_enter_22 : decode cX9_enter 22 = .ok (.goto 4, 3) := by decide +kernel
theorem dX9_enter_25 : decode cX9_enter 25 = .ok (.iconst 0, 1) := by decide +kernel
theorem dX9_enter_26 : decode cX9_enter 26 = .ok (.putfield 117, 3) := by decide +kernel
theorem dX9_enter_29 : decode cX9_enter 29 = .ok (.aload_n 0, 1) := by decide +kernel
theorem dX9_enter_30 : decode cX9_enter 30 = .ok (.getfield 117, 3) := by decide +kernel
theorem dX9_enter_33 : decode cX9_enter 33 = .ok (.ifCond .le 5, 3) := by decide +kernel
theorem dX9_enter_36 : decode cX9_enter 36 = .ok (.iconst 0, 1) := by decide +kernel
theorem dX9_enter_37 : decode cX9_enter 37 = .ok (.ireturn, 1) := by decide +kernel
theorem dX9_enter_38 : decode cX9_enter 38 = .ok (.aload_n 0, 1) := by decide +kernel
theorem dX9_enter_39 : decode cX9_enter 39 = .ok (.invokevirtual 214, 3) := by decide +kernel
theorem dX9_enter_42 : decode cX9_enter 42 = .ok (.aload_n 0, 1) := by decide +kernel
theorem dX9_enter_43 : decode cX9_enter 43 = .ok (.getfield 89, 3) := by decide +kernel
theorem dX9_enter_46 : decode cX9_enter 46 = .ok (.aload_n 0, 1) := by decide +kernel
theorem dX9_enter_47 : decode cX9_enter 47 = .ok (.getfield 41, 3) := by decide +kernel
theorem dX9_enter_50 : decode cX9_enter 50 = .ok (.iload_n 1, 1) := by decide +kernel
theorem dX9_enter_51 : decode cX9_enter 51 = .ok (.iaload, 1) := by decide +kernel
theorem dX9_enter_52 : decode cX9_enter 52 = .ok (.iaload, 1) := by decide +kernel
theorem dX9_enter_53 : decode cX9_enter 53 = .ok (.i2l, 1) := by decide +kernel
theorem dX9_enter_54 : decode cX9_enter 54 = .ok (.aload_n 0, 1) := by decide +kernel
theorem dX9_enter_55 : decode cX9_enter 55 = .ok (.getfield 44, 3) := by decide +kernel
theorem dX9_enter_58 : decode cX9_enter 58 = .ok (.iload_n 1, 1) := by decide +kernel
theorem dX9_enter_59 : decode cX9_enter 59 = .ok (.iaload, 1) := by decide +kernel
theorem dX9_enter_60 : decode cX9_enter 60 = .ok (.i2l, 1) := by decide +kernel
theorem dX9_enter_61 : decode cX9_enter 61 = .ok (.lmul, 1) := by decide +kernel
theorem dX9_enter_62 : decode cX9_enter 62 = .ok (.aload_n 0, 1) := by decide +kernel
theorem dX9_enter_63 : decode cX9_enter 63 = .ok (.getfield 47, 3) := by decide +kernel
theorem dX9_enter_66 : decode cX9_enter 66 = .ok (.iload_n 1, 1) := by decide +kernel
theorem dX9_enter_67 : decode cX9_enter 67 = .ok (.iaload, 1) := by decide +kernel
theorem dX9_enter_68 : decode cX9_enter 68 = .ok (.i2l, 1) := by decide +kernel
theorem dX9_enter_69 : decode cX9_enter 69 = .ok (.ldiv, 1) := by decide +kernel
theorem dX9_enter_70 : decode cX9_enter 70 = .ok (.lstore_n 2, 1) := by decide +kernel
theorem dX9_enter_71 : decode cX9_enter 71 = .ok (.aload_n 0, 1) := by decide +kernel
theorem dX9_enter_72 : decode cX9_enter 72 = .ok (.getfield 32, 3) := by decide +kernel
theorem dX9_enter_75 : decode cX9_enter 75 = .ok (.iload_n 1, 1) := by decide +kernel
theorem dX9_enter_76 : decode cX9_enter 76 = .ok (.iaload, 1) := by decide +kernel
theorem dX9_enter_77 : decode cX9_enter 77 = .ok (.ifCond .ne 8, 3) := by decide +kernel
theorem dX9_enter_80 : decode cX9_enter 80 = .ok (.bipush 20, 2) := by decide +kernel
theorem dX9_enter_82 : decode cX9_enter 82 = .ok (.goto 44, 3) := by decide +kernel
theorem dX9_enter_85 : decode cX9_enter 85 = .ok (.aload_n 0, 1) := by decide +kernel
theorem dX9_enter_86 : decode cX9_enter 86 = .ok (.getfield 32, 3) := by decide +kernel
theorem dX9_enter_89 : decode cX9_enter 89 = .ok (.iload_n 1, 1) := by decide +kernel
theorem dX9_enter_90 : decode cX9_enter 90 = .ok (.iaload, 1) := by decide +kernel
theorem dX9_enter_91 : decode cX9_enter 91 = .ok (.iconst 2, 1) := by decide +kernel
theorem dX9_enter_92 : decode cX9_enter 92 = .ok (.if_icmp .ne 8, 3) := by decide +kernel
theorem dX9_enter_95 : decode cX9_enter 95 = .ok (.bipush 100, 2) := by decide +kernel
theorem dX9_enter_97 : decode cX9_enter 97 = .ok (.goto 29, 3) := by decide +kernel
theorem dX9_enter_100 : decode cX9_enter 100 = .ok (.aload_n 0, 1) := by decide +kernel
theorem dX9_enter_101 : decode cX9_enter 101 = .ok (.aload_n 0, 1) := by decide +kernel
theorem dX9_enter_102 : decode cX9_enter 102 = .ok (.getfield 35, 3) := by decide +kernel
theorem dX9_enter_105 : decode cX9_enter 105 = .ok (.iload_n 1, 1) := by decide +kernel
theorem dX9_enter_106 : decode cX9_enter 106 = .ok (.iaload, 1) := by decide +kernel
theorem dX9_enter_107 : decode cX9_enter 107 = .ok (.aload_n 0, 1) := by decide +kernel
theorem dX9_enter_108 : decode cX9_enter 108 = .ok (.getfield 38, 3) := by decide +kernel
theorem dX9_enter_111 : decode cX9_enter 111 = .ok (.iload_n 1, 1) := by decide +kernel
theorem dX9_enter_112 : decode cX9_enter 112 = .ok (.iaload, 1) := by decide +kernel
theorem dX9_enter_113 : decode cX9_enter 113 = .ok (.invokevirtual 175, 3) := by decide +kernel
theorem dX9_enter_116 : decode cX9_enter 116 = .ok (.ifCond .eq 8, 3) := by decide +kernel
theorem dX9_enter_119 : decode cX9_enter 119 = .ok (.bipush 50, 2) := by decide +kernel
theorem dX9_enter_121 : decode cX9_enter 121 = .ok (.goto 5, 3) := by decide +kernel
theorem dX9_enter_124 : decode cX9_enter 124 = .ok (.bipush 10, 2) := by decide +kernel
theorem dX9_enter_126 : decode cX9_enter 126 = .ok (.istore 4, 2) := by decide +kernel
theorem dX9_enter_128 : decode cX9_enter 128 = .ok (.aload_n 0, 1) := by decide +kernel
theorem dX9_enter_129 : decode cX9_enter 129 = .ok (.dup, 1) := by decide +kernel
theorem dX9_enter_130 : decode cX9_enter 130 = .ok (.getfield 217, 3) := by decide +kernel
theorem dX9_enter_133 : decode cX9_enter 133 = .ok (.lload_n 2, 1) := by decide +kernel
theorem dX9_enter_134 : decode cX9_enter 134 = .ok (.iload 4, 2) := by decide +kernel
theorem dX9_enter_136 : decode cX9_enter 136 = .ok (.i2l, 1) := by decide +kernel
theorem dX9_enter_137 : decode cX9_enter 137 = .ok (.ldiv, 1) := by decide +kernel
theorem dX9_enter_138 : decode cX9_enter 138 = .ok (.ladd, 1) := by decide +kernel
theorem dX9_enter_139 : decode cX9_enter 139 = .ok (.putfield 217, 3) := by decide +kernel
theorem dX9_enter_142 : decode cX9_enter 142 = .ok (.aload_n 0, 1) := by decide +kernel
theorem dX9_enter_143 : decode cX9_enter 143 = .ok (.getfield 74, 3) := by decide +kernel
theorem dX9_enter_146 : decode cX9_enter 146 = .ok (.iload_n 1, 1) := by decide +kernel
theorem dX9_enter_147 : decode cX9_enter 147 = .ok (.aload_n 0, 1) := by decide +kernel
theorem dX9_enter_148 : decode cX9_enter 148 = .ok (.aload_n 0, 1) := by decide +kernel
theorem dX9_enter_149 : decode cX9_enter 149 = .ok (.getfield 32, 3) := by decide +kernel
theorem dX9_enter_152 : decode cX9_enter 152 = .ok (.iload_n 1, 1) := by decide +kernel
theorem dX9_enter_153 : decode cX9_enter 153 = .ok (.iaload, 1) := by decide +kernel
theorem dX9_enter_154 : decode cX9_enter 154 = .ok (.iload_n 1, 1) := by decide +kernel
theorem dX9_enter_155 : decode cX9_enter 155 = .ok (.aload_n 0, 1) := by decide +kernel
theorem dX9_enter_156 : decode cX9_enter 156 = .ok (.getfield 41, 3) := by decide +kernel
theorem dX9_enter_159 : decode cX9_enter 159 = .ok (.iload_n 1, 1) := by decide +kernel
theorem dX9_enter_160 : decode cX9_enter 160 = .ok (.iaload, 1) := by decide +kernel
theorem dX9_enter_161 : decode cX9_enter 161 = .ok (.invokevirtual 221, 3) := by decide +kernel
theorem dX9_enter_164 : decode cX9_enter 164 = .ok (.iastore, 1) := by decide +kernel
theorem dX9_enter_165 : decode cX9_enter 165 = .ok (.aload_n 0, 1) := by decide +kernel
theorem dX9_enter_166 : decode cX9_enter 166 = .ok (.getfield 74, 3) := by decide +kernel
theorem dX9_enter_169 : decode cX9_enter 169 = .ok (.iload_n 1, 1) := by decide +kernel
theorem dX9_enter_170 : decode cX9_enter 170 = .ok (.iaload, 1) := by decide +kernel
theorem dX9_enter_171 : decode cX9_enter 171 = .ok (.ireturn, 1) := by decide +kernel
theorem dX9_willOf_0 : decode cX9_willOf 0 = .ok (.iconst (-1), 1) := by decide +kernel
theorem dX9_willOf_1 : decode cX9_willOf 1 = .ok (.istore_n 2, 1) := by decide +kernel
theorem dX9_willOf_2 : decode cX9_willOf 2 = .ok (.iconst 0, 1) := by decide +kernel
theorem dX9_willOf_3 : decode cX9_willOf 3 = .ok (.istore_n 3, 1) := by decide +kernel
theorem dX9_willOf_4 : decode cX9_willOf 4 = .ok (.iload_n 3, 1) := by decide +kernel
theorem dX9_willOf_5 : decode cX9_willOf 5 = .ok (.aload_n 0, 1) := by decide +kernel
theorem dX9_willOf_6 : decode cX9_willOf 6 = .ok (.getfield 128, 3) := by decide +kernel
theorem dX9_willOf_9 : decode cX9_willOf 9 = .ok (.if_icmp .ge 131, 3) := by decide +kernel
theorem dX9_willOf_12 : decode cX9_willOf 12 = .ok (.aload_n 0, 1) := by decide +kernel
theorem dX9_willOf_13 : decode cX9_willOf 13 = .ok (.getfield 32, 3) := by decide +kernel
theorem dX9_willOf_16 : decode cX9_willOf 16 = .ok (.iload_n 3, 1) := by decide +kernel
theorem dX9_willOf_17 : decode cX9_willOf 17 = .ok (.iaload, 1) := by decide +kernel
theorem dX9_willOf_18 : decode cX9_willOf 18 = .ok (.iconst 4, 1) := by decide +kernel
theorem dX9_willOf_19 : decode cX9_willOf 19 = .ok (.if_icmp .ne 51, 3) := by decide +kernel
theorem dX9_willOf_22 : decode cX9_willOf 22 = .ok (.aload_n 0, 1) := by decide +kernel
theorem dX9_willOf_23 : decode cX9_willOf 23 = .ok (.getfield 35, 3) := by decide +kernel
theorem dX9_willOf_26 : decode cX9_willOf 26 = .ok (.iload_n 3, 1) := by decide +kernel
theorem dX9_willOf_27 : decode cX9_willOf 27 = .ok (.iaload, 1) := by decide +kernel
theorem dX9_willOf_28 : decode cX9_willOf 28 = .ok (.iload_n 1, 1) := by decide +kernel
theorem dX9_willOf_29 : decode cX9_willOf 29 = .ok (.if_icmp .ne 41, 3) := by decide +kernel
theorem dX9_willOf_32 : decode cX9_willOf 32 = .ok (.aload_n 0, 1) := by decide +kernel
theorem dX9_willOf_33 : decode cX9_willOf 33 = .ok (.getfield 65, 3) := by decide +kernel
theorem dX9_willOf_36 : decode cX9_willOf 36 = .ok (.iload_n 3, 1) := by decide +kernel
theorem dX9_willOf_37 : decode cX9_willOf 37 = .ok (.iaload, 1) := by decide +kernel
theorem dX9_willOf_38 : decode cX9_willOf 38 = .ok (.iconst 1, 1) := by decide +kernel
theorem dX9_willOf_39 : decode cX9_willOf 39 = .ok (.if_icmp .eq 13, 3) := by decide +kernel
theorem dX9_willOf_42 : decode cX9_willOf 42 = .ok (.aload_n 0, 1) := by decide +kernel
theorem dX9_willOf_43 : decode cX9_willOf 43 = .ok (.getfield 65, 3) := by decide +kernel
theorem dX9_willOf_46 : decode cX9_willOf 46 = .ok (.iload_n 3, 1) := by decide +kernel
theorem dX9_willOf_47 : decode cX9_willOf 47 = .ok (.iaload, 1) := by decide +kernel
theorem dX9_willOf_48 : decode cX9_willOf 48 = .ok (.iconst 2, 1) := by decide +kernel
theorem dX9_willOf_49 : decode cX9_willOf 49 = .ok (.if_icmp .ne 21, 3) := by decide +kernel
theorem dX9_willOf_52 : decode cX9_willOf 52 = .ok (.aload_n 0, 1) := by decide +kernel
theorem dX9_willOf_53 : decode cX9_willOf 53 = .ok (.getfield 20, 3) := by decide +kernel
theorem dX9_willOf_56 : decode cX9_willOf 56 = .ok (.aload_n 0, 1) := by decide +kernel
theorem dX9_willOf_57 : decode cX9_willOf 57 = .ok (.getfield 38, 3) := by decide +kernel
theorem dX9_willOf_60 : decode cX9_willOf 60 = .ok (.iload_n 3, 1) := by decide +kernel
theorem dX9_willOf_61 : decode cX9_willOf 61 = .ok (.iaload, 1) := by decide +kernel
theorem dX9_willOf_62 : decode cX9_willOf 62 = .ok (.baload, 1) := by decide +kernel
theorem dX9_willOf_63 : decode cX9_willOf 63 = .ok (.ifCond .ne 7, 3) := by decide +kernel
theorem dX9_willOf_66 : decode cX9_willOf 66 = .ok (.iconst 1, 1) := by decide +kernel
theorem dX9_willOf_67 : decode cX9_willOf 67 = .ok (.goto 4, 3) := by decide +kernel
theorem dX9_willOf_70 : decode cX9_willOf 70 = .ok (.iconst 0, 1) := by decide +kernel
theorem dX9_willOf_71 : decode cX9_willOf 71 = .ok (.istore 4, 2) := by decide +kernel
theorem dX9_willOf_73 : decode cX9_willOf 73 = .ok (.iload 4, 2) := by decide +kernel
theorem dX9_willOf_75 : decode cX9_willOf 75 = .ok (.ifCond .eq 57, 3) := by decide +kernel
theorem dX9_willOf_78 : decode cX9_willOf 78 = .ok (.iload_n 2, 1) := by decide +kernel
theorem dX9_willOf_79 : decode cX9_willOf 79 = .ok (.iconst (-1), 1) := by decide +kernel
theorem dX9_willOf_80 : decode cX9_willOf 80 = .ok (.if_icmp .eq 48, 3) := by decide +kernel
theorem dX9_willOf_83 : decode cX9_willOf 83 = .ok (.aload_n 0, 1) := by decide +kernel
theorem dX9_willOf_84 : decode cX9_willOf 84 = .ok (.getfield 65, 3) := by decide +kernel
theorem dX9_willOf_87 : decode cX9_willOf 87 = .ok (.iload_n 3, 1) := by decide +kernel
theorem dX9_willOf_88 : decode cX9_willOf 88 = .ok (.iaload, 1) := by decide +kernel
theorem dX9_willOf_89 : decode cX9_willOf 89 = .ok (.aload_n 0, 1) := by decide +kernel
theorem dX9_willOf_90 : decode cX9_willOf 90 = .ok (.getfield 65, 3) := by decide +kernel
theorem dX9_willOf_93 : decode cX9_willOf 93 = .ok (.iload_n 2, 1) := by decide +kernel
theorem dX9_willOf_94 : decode cX9_willOf 94 = .ok (.iaload, 1) := by decide +kernel
theorem dX9_willOf_95 : decode cX9_willOf 95 = .ok (.if_icmp .lt 33, 3) := by decide +kernel
theorem dX9_willOf_98 : decode cX9_willOf 98 = .ok (.aload_n 0, 1) := by decide +kernel
theorem dX9_willOf_99 : decode cX9_willOf 99 = .ok (.getfield 65, 3) := by decide +kernel
theorem dX9_willOf_102 : decode cX9_willOf 102 = .ok (.iload_n 3, 1) := by decide +kernel
theorem dX9_willOf_103 : decode cX9_willOf 103 = .ok (.iaload, 1) := by decide +kernel
theorem dX9_willOf_104 : decode cX9_willOf 104 = .ok (.aload_n 0, 1) := by decide +kernel
theorem dX9_willOf_105 : decode cX9_willOf 105 = .ok (.getfield 65, 3) := by decide +kernel
theorem dX9_willOf_108 : decode cX9_willOf 108 = .ok (.iload_n 2, 1) := by decide +kernel
theorem dX9_willOf_109 : decode cX9_willOf 109 = .ok (.iaload, 1) := by decide +kernel
theorem dX9_willOf_110 : decode cX9_willOf 110 = .ok (.if_icmp .ne 22, 3) := by decide +kernel
theorem dX9_willOf_113 : decode cX9_willOf 113 = .ok (.aload_n 0, 1) := by decide +kernel
theorem dX9_willOf_114 : decode cX9_willOf 114 = .ok (.getfield 68, 3) := by decide +kernel
theorem dX9_willOf_117 : decode cX9_willOf 117 = .ok (.iload_n 3, 1) := by decide +kernel
theorem dX9_willOf_118 : decode cX9_willOf 118 = .ok (.iaload, 1) := by decide +kernel
theorem dX9_willOf_119 : decode cX9_willOf 119 = .ok (.aload_n 0, 1) := by decide +kernel
theorem dX9_willOf_120 : decode cX9_willOf 120 = .ok (.getfield 68, 3) := by decide +kernel
theorem dX9_willOf_123 : decode cX9_willOf 123 = .ok (.iload_n 2, 1) := by decide +kernel
theorem dX9_willOf_124 : decode cX9_willOf 124 = .ok (.iaload, 1) := by decide +kernel
theorem dX9_willOf_125 : decode cX9_willOf 125 = .ok (.if_icmp .le 7, 3) := by decide +kernel
theorem dX9_willOf_128 : decode cX9_willOf 128 = .ok (.iload_n 3, 1) := by decide +kernel
theorem dX9_willOf_129 : decode cX9_willOf 129 = .ok (.goto 4, 3) := by decide +kernel
theorem dX9_willOf_132 : decode cX9_willOf 132 = .ok (.iload_n 2, 1) := by decide +kernel
theorem dX9_willOf_133 : decode cX9_willOf 133 = .ok (.istore_n 2, 1) := by decide +kernel
theorem dX9_willOf_134 : decode cX9_willOf 134 = .ok (.iinc 3 1, 3) := by decide +kernel
theorem dX9_willOf_137 : decode cX9_willOf 137 = .ok (.goto (-133), 3) := by decide +kernel
theorem dX9_willOf_140 : decode cX9_willOf 140 = .ok (.iload_n 2, 1) := by decide +kernel
theorem dX9_willOf_141 : decode cX9_willOf 141 = .ok (.ireturn, 1) := by decide +kernel
theorem dX9_isHeir_0 : decode cX9_isHeir 0 = .ok (.aload_n 0, 1) := by decide +kernel
theorem dX9_isHeir_1 : decode cX9_isHeir 1 = .ok (.getfield 20, 3) := by decide +kernel
theorem dX9_isHeir_4 : decode cX9_isHeir 4 = .ok (.iload_n 1, 1) := by decide +kernel
theorem dX9_isHeir_5 : decode cX9_isHeir 5 = .ok (.baload, 1) := by decide +kernel
theorem dX9_isHeir_6 : decode cX9_isHeir 6 = .ok (.ifCond .ne 32, 3) := by decide +kernel
theorem dX9_isHeir_9 : decode cX9_isHeir 9 = .ok (.iload_n 3, 1) := by decide +kernel
theorem dX9_isHeir_10 : decode cX9_isHeir 10 = .ok (.ifCond .eq 15, 3) := by decide +kernel
theorem dX9_isHeir_13 : decode cX9_isHeir 13 = .ok (.aload_n 0, 1) := by decide +kernel
theorem dX9_isHeir_14 : decode cX9_isHeir 14 = .ok (.iload_n 1, 1) := by decide +kernel
theorem dX9_isHeir_15 : decode cX9_isHeir 15 = .ok (.iload_n 2, 1) := by decide +kernel
theorem dX9_isHeir_16 : decode cX9_isHeir 16 = .ok (.invokevirtual 141, 3) := by decide +kernel
theorem dX9_isHeir_19 : decode cX9_isHeir 19 = .ok (.ifCond .eq 19, 3) := by decide +kernel
theorem dX9_isHeir_22 : decode cX9_isHeir 22 = .ok (.goto 12, 3) := by decide +kernel
theorem dX9_isHeir_25 : decode cX9_isHeir 25 = .ok (.aload_n 0, 1) := by decide +kernel
theorem dX9_isHeir_26 : decode cX9_isHeir 26 = .ok (.iload_n 2, 1) := by decide +kernel
theorem dX9_isHeir_27 : decode cX9_isHeir 27 = .ok (.iload_n 1, 1) := by decide +kernel
theorem dX9_isHeir_28 : decode cX9_isHeir 28 = .ok (.invokevirtual 141, 3) := by decide +kernel
theorem dX9_isHeir_31 : decode cX9_isHeir 31 = .ok (.ifCond .eq 7, 3) := by decide +kernel
theorem dX9_isHeir_34 : decode cX9_isHeir 34 = .ok (.iconst 1, 1) := by decide +kernel
theorem dX9_isHeir_35 : decode cX9_isHeir 35 = .ok (.goto 4, 3) := by decide +kernel
theorem dX9_isHeir_38 : decode cX9_isHeir 38 = .ok (.iconst 0, 1) := by decide +kernel
theorem dX9_isHeir_39 : decode cX9_isHeir 39 = .ok (.ireturn, 1) := by decide +kernel
theorem dX9_heirs_0 : decode cX9_heirs 0 = .ok (.iconst 0, 1) := by decide +kernel
theorem dX9_heirs_1 : decode cX9_heirs 1 = .ok (.istore_n 3, 1) := by decide +kernel
theorem dX9_heirs_2 : decode cX9_heirs 2 = .ok (.iconst 0, 1) := by decide +kernel
theorem dX9_heirs_3 : decode cX9_heirs 3 = .ok (.istore 4, 2) := by decide +kernel
theorem dX9_heirs_5 : decode cX9_heirs 5 = .ok (.iload 4, 2) := by decide +kernel
theorem dX9_heirs_7 : decode cX9_heirs 7 = .ok (.aload_n 0, 1) := by decide +kernel
theorem dX9_heirs_8 : decode cX9_heirs 8 = .ok (.getfield 121, 3) := by decide +kernel
theorem dX9_heirs_11 : decode cX9_heirs 11 = .ok (.if_icmp .ge 34, 3) := by decide +kernel
theorem dX9_heirs_14 : decode cX9_heirs 14 = .ok (.iload_n 3, 1) := by decide +kernel
theorem dX9_heirs_15 : decode cX9_heirs 15 = .ok (.iload 4, 2) := by decide +kernel
theorem dX9_heirs_17 : decode cX9_heirs 17 = .ok (.iload_n 1, 1) := by decide +kernel
theorem dX9_heirs_18 : decode cX9_heirs 18 = .ok (.if_icmp .eq 18, 3) := by decide +kernel
theorem dX9_heirs_21 : decode cX9_heirs 21 = .ok (.aload_n 0, 1) := by decide +kernel
theorem dX9_heirs_22 : decode cX9_heirs 22 = .ok (.iload 4, 2) := by decide +kernel
theorem dX9_heirs_24 : decode cX9_heirs 24 = .ok (.iload_n 1, 1) := by decide +kernel
theorem dX9_heirs_25 : decode cX9_heirs 25 = .ok (.iload_n 2, 1) := by decide +kernel
theorem dX9_heirs_26 : decode cX9_heirs 26 = .ok (.invokevirtual 224, 3) := by decide +kernel
theorem dX9_heirs_29 : decode cX9_heirs 29 = .ok (.ifCond .eq 7, 3) := by decide +kernel
theorem dX9_heirs_32 : decode cX9_heirs 32 = .ok (.iconst 1, 1) := by decide +kernel
theorem dX9_heirs_33 : decode cX9_heirs 33 = .ok (.goto 4, 3) := by decide +kernel
theorem dX9_heirs_36 : decode cX9_heirs 36 = .ok (.iconst 0, 1) := by decide +kernel
theorem dX9_heirs_37 : decode cX9_heirs 37 = .ok (.iadd, 1) := by decide +kernel
theorem dX9_heirs_38 : decode cX9_heirs 38 = .ok (.istore_n 3, 1) := by decide +kernel
theorem dX9_heirs_39 : decode cX9_heirs 39 = .ok (.iinc 4 1, 3) := by decide +kernel
theorem dX9_heirs_42 : decode cX9_heirs 42 = .ok (.goto (-37), 3) := by decide +kernel
theorem dX9_heirs_45 : decode cX9_heirs 45 = .ok (.iload_n 3, 1) := by decide +kernel
theorem dX9_heirs_46 : decode cX9_heirs 46 = .ok (.ireturn, 1) := by decide +kernel
theorem dX9_leaves_0 : decode cX9_leaves 0 = .ok (.bipush 13, 2) := by decide +kernel
theorem dX9_leaves_2 : decode cX9_leaves 2 = .ok (.iload_n 2, 1) := by decide +kernel
theorem dX9_leaves_3 : decode cX9_leaves 3 = .ok (.imul, 1) := by decide +kernel
theorem dX9_leaves_4 : decode cX9_leaves 4 = .ok (.iload_n 1, 1) := by decide +kernel
theorem dX9_leaves_5 : decode cX9_leaves 5 = .ok (.iadd, 1) := by decide +kernel
theorem dX9_leaves_6 : decode cX9_leaves 6 = .ok (.istore_n 3, 1) := by decide +kernel
theorem dX9_leaves_7 : decode cX9_leaves 7 = .ok (.aload_n 0, 1) := by decide +kernel
theorem dX9_leaves_8 : decode cX9_leaves 8 = .ok (.getfield 111, 3) := by decide +kernel
theorem dX9_leaves_11 : decode cX9_leaves 11 = .ok (.iload_n 3, 1) := by decide +kernel
theorem dX9_leaves_12 : decode cX9_leaves 12 = .ok (.laload, 1) := by decide +kernel
theorem dX9_leaves_13 : decode cX9_leaves 13 = .ok (.lstore 4, 2) := by decide +kernel
theorem dX9_leaves_15 : decode cX9_leaves 15 = .ok (.aload_n 0, 1) := by decide +kernel
theorem dX9_leaves_16 : decode cX9_leaves 16 = .ok (.getfield 114, 3) := by decide +kernel
theorem dX9_leaves_19 : decode cX9_leaves 19 = .ok (.iload_n 3, 1) := by decide +kernel
theorem dX9_leaves_20 : decode cX9_leaves 20 = .ok (.laload, 1) := by decide +kernel
theorem dX9_leaves_21 : decode cX9_leaves 21 = .ok (.lstore 6, 2) := by decide +kernel
theorem dX9_leaves_23 : decode cX9_leaves 23 = .ok (.aload_n 0, 1) := by decide +kernel
theorem dX9_leaves_24 : decode cX9_leaves 24 = .ok (.iload_n 1, 1) := by decide +kernel
theorem dX9_leaves_25 : decode cX9_leaves 25 = .ok (.invokevirtual 228, 3) := by decide +kernel
theorem dX9_leaves_28 : decode cX9_leaves 28 = .ok (.istore 8, 2) := by decide +kernel
theorem dX9_leaves_30 : decode cX9_leaves 30 = .ok (.aload_n 0, 1) := by decide +kernel
theorem dX9_leaves_31 : decode cX9_leaves 31 = .ok (.iload_n 1, 1) := by decide +kernel
theorem dX9_leaves_32 : decode cX9_leaves 32 = .ok (.iconst 1, 1) := by decide +kernel
theorem dX9_leaves_33 : decode cX9_leaves 33 = .ok (.invokevirtual 231, 3) := by decide +kernel
theorem dX9_leaves_36 : decode cX9_leaves 36 = .ok (.ifCond .le 7, 3) := by decide +kernel
theorem dX9_leaves_39 : decode cX9_leaves 39 = .ok (.iconst 1, 1) := by decide +kernel
theorem dX9_leaves_40 : decode cX9_leaves 40 = .ok (.goto 4, 3) := by decide +kernel
theorem dX9_leaves_43 : decode cX9_leaves 43 = .ok (.iconst 0, 1) := by decide +kernel
theorem dX9_leaves_44 : decode cX9_leaves 44 = .ok (.istore 9, 2) := by decide +kernel
theorem dX9_leaves_46 : decode cX9_leaves 46 = .ok (.aload_n 0, 1) := by decide +kernel
theorem dX9_leaves_47 : decode cX9_leaves 47 = .ok (.iload_n 1, 1) := by decide +kernel
theorem dX9_leaves_48 : decode cX9_leaves 48 = .ok (.iload 9, 2) := by decide +kernel
theorem dX9_leaves_50 : decode cX9_leaves 50 = .ok (.invokevirtual 231, 3) := by decide +kernel
theorem dX9_leaves_53 : decode cX9_leaves 53 = .ok (.istore 10, 2) := by decide +kernel
theorem dX9_leaves_55 : decode cX9_leaves 55 = .ok (.iload 8, 2) := by decide +kernel
theorem dX9_leaves_57 : decode cX9_leaves 57 = .ok (.iconst (-1), 1) := by decide +kernel
theorem dX9_leaves_58 : decode cX9_leaves 58 = .ok (.if_icmp .ne 7, 3) := by decide +kernel
theorem dX9_leaves_61 : decode cX9_leaves 61 = .ok (.lconst 0, 1) := by decide +kernel
theorem dX9_leaves_62 : decode cX9_leaves 62 = .ok (.goto 11, 3) := by decide +kernel
theorem dX9_leaves_65 : decode cX9_leaves 65 = .ok (.aload_n 0, 1) := by decide +kernel
theorem dX9_leaves_66 : decode cX9_leaves 66 = .ok (.getfield 44, 3) := by decide +kernel
theorem dX9_leaves_69 : decode cX9_leaves 69 = .ok (.iload 8, 2) := by decide +kernel
theorem dX9_leaves_71 : decode cX9_leaves 71 = .ok (.iaload, 1) := by decide +kernel
theorem dX9_leaves_72 : decode cX9_leaves 72 = .ok (.i2l, 1) := by decide +kernel
theorem dX9_leaves_73 : decode cX9_leaves 73 = .ok (.lstore 11, 2) := by decide +kernel
theorem dX9_leaves_75 : decode cX9_leaves 75 = .ok (.iload 8, 2) := by decide +kernel
theorem dX9_leaves_77 : decode cX9_leaves 77 = .ok (.iconst (-1), 1) := by decide +kernel
theorem dX9_leaves_78 : decode cX9_leaves 78 = .ok (.if_icmp .ne 7, 3) := by decide +kernel
theorem dX9_leaves_81 : decode cX9_leaves 81 = .ok (.lconst 1, 1) := by decide +kernel
theorem dX9_leaves_82 : decode cX9_leaves 82 = .ok (.goto 11, 3) := by decide +kernel
theorem dX9_leaves_85 : decode cX9_leaves 85 = .ok (.aload_n 0, 1) := by decide +kernel
theorem dX9_leaves_86 : decode cX9_leaves 86 = .ok (.getfield 47, 3) := by decide +kernel
theorem dX9_leaves_89 : decode cX9_leaves 89 = .ok (.iload 8, 2) := by decide +kernel
theorem dX9_leaves_91 : decode cX9_leaves 91 = .ok (.iaload, 1) := by decide +kernel
theorem dX9_leaves_92 : decode cX9_leaves 92 = .ok (.i2l, 1) := by decide +kernel
theorem dX9_leaves_93 : decode cX9_leaves 93 = .ok (.lstore 13, 2) := by decide +kernel
theorem dX9_leaves_95 : decode cX9_leaves 95 = .ok (.iload 9, 2) := by decide +kernel
theorem dX9_leaves_97 : decode cX9_leaves 97 = .ok (.ifCond .eq 23, 3) := by decide +kernel
theorem dX9_leaves_100 : decode cX9_leaves 100 = .ok (.ldc2_w 235, 3) := by decide +kernel
theorem dX9_leaves_103 : decode cX9_leaves 103 = .ok (.lload 11, 2) := by decide +kernel
theorem dX9_leaves_105 : decode cX9_leaves 105 = .ok (.lmul, 1) := by decide +kernel
theorem dX9_leaves_106 : decode cX9_leaves 106 = .ok (.lload 13, 2) := by decide +kernel
theorem dX9_leaves_108 : decode cX9_leaves 108 = .ok (.lcmp, 1) := by decide +kernel
theorem dX9_leaves_109 : decode cX9_leaves 109 = .ok (.ifCond .le 11, 3) := by decide +kernel
theorem dX9_leaves_112 : decode cX9_leaves 112 = .ok (.lconst 1, 1) := by decide +kernel
theorem dX9_leaves_113 : decode cX9_leaves 113 = .ok (.lstore 11, 2) := by decide +kernel
theorem dX9_leaves_115 : decode cX9_leaves 115 = .ok (.ldc2_w 235, 3) := by decide +kernel
theorem dX9_leaves_118 : decode cX9_leaves 118 = .ok (.lstore 13, 2) := by decide +kernel
theorem dX9_leaves_120 : decode cX9_leaves 120 = .ok (.iconst 1, 1) := by decide +kernel
theorem dX9_leaves_121 : decode cX9_leaves 121 = .ok (.istore 15, 2) := by decide +kernel
theorem dX9_leaves_123 : decode cX9_leaves 123 = .ok (.iconst 0, 1) := by decide +kernel
theorem dX9_leaves_124 : decode cX9_leaves 124 = .ok (.istore 16, 2) := by decide +kernel
theorem dX9_leaves_126 : decode cX9_leaves 126 = .ok (.iload 16, 2) := by decide +kernel
theorem dX9_leaves_128 : decode cX9_leaves 128 = .ok (.bipush 13, 2) := by decide +kernel
theorem dX9_leaves_130 : decode cX9_leaves 130 = .ok (.if_icmp .ge 184, 3) := by decide +kernel
theorem dX9_leaves_133 : decode cX9_leaves 133 = .ok (.iload 16, 2) := by decide +kernel
theorem dX9_leaves_135 : decode cX9_leaves 135 = .ok (.bipush 12, 2) := by decide +kernel
theorem dX9_leaves_137 : decode cX9_leaves 137 = .ok (.if_icmp .ne 7, 3) := by decide +kernel
theorem dX9_leaves_140 : decode cX9_leaves 140 = .ok (.iconst 1, 1) := by decide +kernel
theorem dX9_leaves_141 : decode cX9_leaves 141 = .ok (.goto 4, 3) := by decide +kernel
theorem dX9_leaves_144 : decode cX9_leaves 144 = .ok (.iconst 0, 1) := by decide +kernel
theorem dX9_leaves_145 : decode cX9_leaves 145 = .ok (.istore 17, 2) := by decide +kernel
theorem dX9_leaves_147 : decode cX9_leaves 147 = .ok (.iload 17, 2) := by decide +kernel
theorem dX9_leaves_149 : decode cX9_leaves 149 = .ok (.ifCond .eq 16, 3) := by decide +kernel
theorem dX9_leaves_152 : decode cX9_leaves 152 = .ok (.iload 10, 2) := by decide +kernel
theorem dX9_leaves_154 : decode cX9_leaves 154 = .ok (.ifCond .ne 7, 3) := by decide +kernel
theorem dX9_leaves_157 : decode cX9_leaves 157 = .ok (.iconst 1, 1) := by decide +kernel
theorem dX9_leaves_158 : decode cX9_leaves 158 = .ok (.goto 44, 3) := by decide +kernel
theorem dX9_leaves_161 : decode cX9_leaves 161 = .ok (.iconst 0, 1) := by decide +kernel
theorem dX9_leaves_162 : decode cX9_leaves 162 = .ok (.goto 40, 3) := by decide +kernel
theorem dX9_leaves_165 : decode cX9_leaves 165 = .ok (.iload 16, 2) := by decide +kernel
theorem dX9_leaves_167 : decode cX9_leaves 167 = .ok (.aload_n 0, 1) := by decide +kernel
theorem dX9_leaves_168 : decode cX9_leaves 168 = .ok (.getfield 121, 3) := by decide +kernel
theorem dX9_leaves_171 : decode cX9_leaves 171 = .ok (.if_icmp .ge 30, 3) := by decide +kernel
theorem dX9_leaves_174 : decode cX9_leaves 174 = .ok (.iload 16, 2) := by decide +kernel
theorem dX9_leaves_176 : decode cX9_leaves 176 = .ok (.iload_n 1, 1) := by decide +kernel
theorem dX9_leaves_177 : decode cX9_leaves 177 = .ok (.if_icmp .eq 24, 3) := by decide +kernel
theorem dX9_leaves_180 : decode cX9_leaves 180 = .ok (.iload 10, 2) := by decide +kernel
theorem dX9_leaves_182 : decode cX9_leaves 182 = .ok (.ifCond .le 19, 3) := by decide +kernel
theorem dX9_leaves_185 : decode cX9_leaves 185 = .ok (.aload_n 0, 1) := by decide +kernel
theorem dX9_leaves_186 : decode cX9_leaves 186 = .ok (.iload 16, 2) := by decide +kernel
theorem dX9_leaves_188 : decode cX9_leaves 188 = .ok (.iload_n 1, 1) := by decide +kernel
theorem dX9_leaves_189 : decode cX9_leaves 189 = .ok (.iload 9, 2) := by decide +kernel
theorem dX9_leaves_191 : decode cX9_leaves 191 = .ok (.invokevirtual 224, 3) := by decide +kernel
theorem dX9_leaves_194 : decode cX9_leaves 194 = .ok (.ifCond .eq 7, 3) := by decide +kernel
theorem dX9_leaves_197 : decode cX9_leaves 197 = .ok (.iconst 1, 1) := by decide +kernel
theorem dX9_leaves_198 : decode cX9_leaves 198 = .ok (.goto 4, 3) := by decide +kernel
theorem dX9_leaves_201 : decode cX9_leaves 201 = .ok (.iconst 0, 1) := by decide +kernel
theorem dX9_leaves_202 : decode cX9_leaves 202 = .ok (.istore 18, 2) := by decide +kernel
theorem dX9_leaves_204 : decode cX9_leaves 204 = .ok (.iload 10, 2) := by decide +kernel
theorem dX9_leaves_206 : decode cX9_leaves 206 = .ok (.ifCond .ne 7, 3) := by decide +kernel
theorem dX9_leaves_209 : decode cX9_leaves 209 = .ok (.lconst 1, 1) := by decide +kernel
theorem dX9_leaves_210 : decode cX9_leaves 210 = .ok (.goto 6, 3) := by decide +kernel
theorem dX9_leaves_213 : decode cX9_leaves 213 = .ok (.iload 10, 2) := by decide +kernel
theorem dX9_leaves_215 : decode cX9_leaves 215 = .ok (.i2l, 1) := by decide +kernel
theorem dX9_leaves_216 : decode cX9_leaves 216 = .ok (.lstore 19, 2) := by decide +kernel
theorem dX9_leaves_218 : decode cX9_leaves 218 = .ok (.iload 8, 2) := by decide +kernel
theorem dX9_leaves_220 : decode cX9_leaves 220 = .ok (.iconst (-1), 1) := by decide +kernel
theorem dX9_leaves_221 : decode cX9_leaves 221 = .ok (.if_icmp .eq 23, 3) := by decide +kernel
theorem dX9_leaves_224 : decode cX9_leaves 224 = .ok (.iload 16, 2) := by decide +kernel
theorem dX9_leaves_226 : decode cX9_leaves 226 = .ok (.aload_n 0, 1) := by decide +kernel
theorem dX9_leaves_227 : decode cX9_leaves 227 = .ok (.getfield 38, 3) := by decide +kernel
theorem dX9_leaves_230 : decode cX9_leaves 230 = .ok (.iload 8, 2) := by decide +kernel
theorem dX9_leaves_232 : decode cX9_leaves 232 = .ok (.iaload, 1) := by decide +kernel
theorem dX9_leaves_233 : decode cX9_leaves 233 = .ok (.if_icmp .ne 11, 3) := by decide +kernel
theorem dX9_leaves_236 : decode cX9_leaves 236 = .ok (.lload 11, 2) := by decide +kernel
theorem dX9_leaves_238 : decode cX9_leaves 238 = .ok (.lload 19, 2) := by decide +kernel
theorem dX9_leaves_240 : decode cX9_leaves 240 = .ok (.lmul, 1) := by decide +kernel
theorem dX9_leaves_241 : decode cX9_leaves 241 = .ok (.goto 4, 3) := by decide +kernel
theorem dX9_leaves_244 : decode cX9_leaves 244 = .ok (.lconst 0, 1) := by decide +kernel
theorem dX9_leaves_245 : decode cX9_leaves 245 = .ok (.iload 18, 2) := by decide +kernel
theorem dX9_leaves_247 : decode cX9_leaves 247 = .ok (.ifCond .eq 11, 3) := by decide +kernel
theorem dX9_leaves_250 : decode cX9_leaves 250 = .ok (.lload 13, 2) := by decide +kernel
theorem dX9_leaves_252 : decode cX9_leaves 252 = .ok (.lload 11, 2) := by decide +kernel
theorem dX9_leaves_254 : decode cX9_leaves 254 = .ok (.lsub, 1) := by decide +kernel
theorem dX9_leaves_255 : decode cX9_leaves 255 = .ok (.goto 4, 3) := by decide +kernel
theorem dX9_leaves_258 : decode cX9_leaves 258 = .ok (.lconst 0, 1) := by decide +kernel
theorem dX9_leaves_259 : decode cX9_leaves 259 = .ok (.ladd, 1) := by decide +kernel
theorem dX9_leaves_260 : decode cX9_leaves 260 = .ok (.lstore 21, 2) := by decide +kernel
theorem dX9_leaves_262 : decode cX9_leaves 262 = .ok (.lload 21, 2) := by decide +kernel
theorem dX9_leaves_264 : decode cX9_leaves 264 = .ok (.lconst 0, 1) := by decide +kernel
theorem dX9_leaves_265 : decode cX9_leaves 265 = .ok (.lcmp, 1) := by decide +kernel
theorem dX9_leaves_266 : decode cX9_leaves 266 = .ok (.ifCond .le 42, 3) := by decide +kernel
theorem dX9_leaves_269 : decode cX9_leaves 269 = .ok (.aload_n 0, 1) := by decide +kernel
theorem dX9_leaves_270 : decode cX9_leaves 270 = .ok (.bipush 13, 2) := by decide +kernel
theorem dX9_leaves_272 : decode cX9_leaves 272 = .ok (.iload_n 2, 1) := by decide +kernel
theorem dX9_leaves_273 : decode cX9_leaves 273 = .ok (.imul, 1) := by decide +kernel
theorem dX9_leaves_274 : decode cX9_leaves 274 = .ok (.iload 16, 2) := by decide +kernel
theorem dX9_leaves_276 : decode cX9_leaves 276 = .ok (.iadd, 1) := by decide +kernel
theorem dX9_leaves_277 : decode cX9_leaves 277 = .ok (.lload 4, 2) := by decide +kernel
theorem dX9_leaves_279 : decode cX9_leaves 279 = .ok (.lload 21, 2) := by decide +kernel
theorem dX9_leaves_281 : decode cX9_leaves 281 = .ok (.lmul, 1) := by decide +kernel
theorem dX9_leaves_282 : decode cX9_leaves 282 = .ok (.lload 6, 2) := by decide +kernel
theorem dX9_leaves_284 : decode cX9_leaves 284 = .ok (.lload 13, 2) := by decide +kernel
theorem dX9_leaves_286 : decode cX9_leaves 286 = .ok (.lmul, 1) := by decide +kernel
theorem dX9_leaves_287 : decode cX9_leaves 287 = .ok (.lload 19, 2) := by decide +kernel
theorem dX9_leaves_289 : decode cX9_leaves 289 = .ok (.lmul, 1) := by decide +kernel
theorem dX9_leaves_290 : decode cX9_leaves 290 = .ok (.invokevirtual 207, 3) := by decide +kernel
theorem dX9_leaves_293 : decode cX9_leaves 293 = .ok (.ifCond .eq 12, 3) := by decide +kernel
theorem dX9_leaves_296 : decode cX9_leaves 296 = .ok (.iload 15, 2) := by decide +kernel
theorem dX9_leaves_298 : decode cX9_leaves 298 = .ok (.ifCond .eq 7, 3) := by decide +kernel
theorem dX9_leaves_301 : decode cX9_leaves 301 = .ok (.iconst 1, 1) := by decide +kernel
theorem dX9_leaves_302 : decode cX9_leaves 302 = .ok (.goto 4, 3) := by decide +kernel
theorem dX9_leaves_305 : decode cX9_leaves 305 = .ok (.iconst 0, 1) := by decide +kernel
theorem dX9_leaves_306 : decode cX9_leaves 306 = .ok (.istore 15, 2) := by decide +kernel
theorem dX9_leaves_308 : decode cX9_leaves 308 = .ok (.iinc 16 1, 3) := by decide +kernel
theorem dX9_leaves_311 : decode cX9_leaves 311 = .ok (.goto (-185), 3) := by decide +kernel
theorem dX9_leaves_314 : decode cX9_leaves 314 = .ok (.aload_n 0, 1) := by decide +kernel
theorem dX9_leaves_315 : decode cX9_leaves 315 = .ok (.getfield 111, 3) := by decide +kernel
theorem dX9_leaves_318 : decode cX9_leaves 318 = .ok (.iload_n 3, 1) := by decide +kernel
theorem dX9_leaves_319 : decode cX9_leaves 319 = .ok (.lconst 0, 1) := by decide +kernel
theorem dX9_leaves_320 : decode cX9_leaves 320 = .ok (.lastore, 1) := by decide +kernel
theorem dX9_leaves_321 : decode cX9_leaves 321 = .ok (.aload_n 0, 1) := by decide +kernel
theorem dX9_leaves_322 : decode cX9_leaves 322 = .ok (.getfield 114, 3) := by decide +kernel
theorem dX9_leaves_325 : decode cX9_leaves 325 = .ok (.iload_n 3, 1) := by decide +kernel
theorem dX9_leaves_326 : decode cX9_leaves 326 = .ok (.lconst 1, 1) := by decide +kernel
theorem dX9_leaves_327 : decode cX9_leaves 327 = .ok (.lastore, 1) := by decide +kernel
theorem dX9_leaves_328 : decode cX9_leaves 328 = .ok (.iload 15, 2) := by decide +kernel
theorem dX9_leaves_330 : decode cX9_leaves 330 = .ok (.ireturn, 1) := by decide +kernel
theorem dX9_die_0 : decode cX9_die 0 = .ok (.aload_n 0, 1) := by decide +kernel
theorem dX9_die_1 : decode cX9_die 1 = .ok (.aload_n 0, 1) := by decide +kernel
theorem dX9_die_2 : decode cX9_die 2 = .ok (.iload_n 1, 1) := by decide +kernel
theorem dX9_die_3 : decode cX9_die 3 = .ok (.invokevirtual 137, 3) := by decide +kernel
theorem dX9_die_6 : decode cX9_die 6 = .ok (.ifCond .ne 7, 3) := by decide +kernel
theorem dX9_die_9 : decode cX9_die 9 = .ok (.iconst 1, 1) := by decide +kernel
theorem dX9_die_10 : decode cX9_die 10 = .ok (.goto 17, 3) := by decide +kernel
theorem dX9_die_13 : decode cX9_die 13 = .ok (.aload_n 0, 1) := by decide +kernel
theorem dX9_die_14 : decode cX9_die 14 = .ok (.getfield 20, 3) := by decide +kernel
theorem dX9_die_17 : decode cX9_die 17 = .ok (.iload_n 1, 1) := by decide +kernel
theorem dX9_die_18 : decode cX9_die 18 = .ok (.baload, 1) := by decide +kernel
theorem dX9_die_19 : decode cX9_die 19 = .ok (.ifCond .eq 7, 3) := by decide +kernel
theorem dX9_die_22 : decode cX9_die 22 = .ok (.iconst 2, 1) := by decide +kernel
theorem dX9_die_23 : decode cX9_die 23 = .ok (.goto 4, 3) := by decide +kernel
theorem dX9_die_26 : decode cX9_die 26 = .ok (.iconst 0, 1) := by decide +kernel
theorem dX9_die_27 : decode cX9_die 27 = .ok (.putfield 117, 3) := by decide +kernel
theorem dX9_die_30 : decode cX9_die 30 = .ok (.aload_n 0, 1) := by decide +kernel
theorem dX9_die_31 : decode cX9_die 31 = .ok (.getfield 117, 3) := by decide +kernel
theorem dX9_die_34 : decode cX9_die 34 = .ok (.ifCond .le 5, 3) := by decide +kernel
theorem dX9_die_37 : decode cX9_die 37 = .ok (.iconst 0, 1) := by decide +kernel
theorem dX9_die_38 : decode cX9_die 38 = .ok (.ireturn, 1) := by decide +kernel
theorem dX9_die_39 : decode cX9_die 39 = .ok (.iconst 0, 1) := by decide +kernel
theorem dX9_die_40 : decode cX9_die 40 = .ok (.istore_n 2, 1) := by decide +kernel
theorem dX9_die_41 : decode cX9_die 41 = .ok (.iconst 1, 1) := by decide +kernel
theorem dX9_die_42 : decode cX9_die 42 = .ok (.istore_n 3, 1) := by decide +kernel
theorem dX9_die_43 : decode cX9_die 43 = .ok (.aload_n 0, 1) := by decide +kernel
theorem dX9_die_44 : decode cX9_die 44 = .ok (.invokevirtual 204, 3) := by decide +kernel
theorem dX9_die_47 : decode cX9_die 47 = .ok (.iconst 0, 1) := by decide +kernel
theorem dX9_die_48 : decode cX9_die 48 = .ok (.istore 4, 2) := by decide +kernel
theorem dX9_die_50 : decode cX9_die 50 = .ok (.iload 4, 2) := by decide +kernel
theorem dX9_die_52 : decode cX9_die 52 = .ok (.aload_n 0, 1) := by decide +kernel
theorem dX9_die_53 : decode cX9_die 53 = .ok (.getfield 131, 3) := by decide +kernel
theorem dX9_die_56 : decode cX9_die 56 = .ok (.if_icmp .ge 49, 3) := by decide +kernel
theorem dX9_die_59 : decode cX9_die 59 = .ok (.aload_n 0, 1) := by decide +kernel
theorem dX9_die_60 : decode cX9_die 60 = .ok (.getfield 92, 3) := by decide +kernel
theorem dX9_die_63 : decode cX9_die 63 = .ok (.bipush 13, 2) := by decide +kernel
theorem dX9_die_65 : decode cX9_die 65 = .ok (.iload 4, 2) := by decide +kernel
theorem dX9_die_67 : decode cX9_die 67 = .ok (.imul, 1) := by decide +kernel
theorem dX9_die_68 : decode cX9_die 68 = .ok (.iload_n 1, 1) := by decide +kernel
theorem dX9_die_69 : decode cX9_die 69 = .ok (.iadd, 1) := by decide +kernel
theorem dX9_die_70 : decode cX9_die 70 = .ok (.laload, 1) := by decide +kernel
theorem dX9_die_71 : decode cX9_die 71 = .ok (.lconst 0, 1) := by decide +kernel
theorem dX9_die_72 : decode cX9_die 72 = .ok (.lcmp, 1) := by decide +kernel
theorem dX9_die_73 : decode cX9_die 73 = .ok (.ifCond .le 26, 3) := by decide +kernel
theorem dX9_die_76 : decode cX9_die 76 = .ok (.aload_n 0, 1) := by decide +kernel
theorem dX9_die_77 : decode cX9_die 77 = .ok (.iload_n 1, 1) := by decide +kernel
theorem dX9_die_78 : decode cX9_die 78 = .ok (.iload 4, 2) := by decide +kernel
theorem dX9_die_80 : decode cX9_die 80 = .ok (.invokevirtual 237, 3) := by decide +kernel
theorem dX9_die_83 : decode cX9_die 83 = .ok (.ifCond .eq 11, 3) := by decide +kernel
theorem dX9_die_86 : decode cX9_die 86 = .ok (.iload_n 3, 1) := by decide +kernel
theorem dX9_die_87 : decode cX9_die 87 = .ok (.ifCond .eq 7, 3) := by decide +kernel
theorem dX9_die_90 : decode cX9_die 90 = .ok (.iconst 1, 1) := by decide +kernel
theorem dX9_die_91 : decode cX9_die 91 = .ok (.goto 4, 3) := by decide +kernel
theorem dX9_die_94 : decode cX9_die 94 = .ok (.iconst 0, 1) := by decide +kernel
theorem dX9_die_95 : decode cX9_die 95 = .ok (.istore_n 3, 1) := by decide +kernel
theorem dX9_die_96 : decode cX9_die 96 = .ok (.iinc 2 1, 3) := by decide +kernel
theorem dX9_die_99 : decode cX9_die 99 = .ok (.iinc 4 1, 3) := by decide +kernel
theorem dX9_die_102 : decode cX9_die 102 = .ok (.goto (-52), 3) := by decide +kernel
theorem dX9_die_105 : decode cX9_die 105 = .ok (.iload_n 3, 1) := by decide +kernel
theorem dX9_die_106 : decode cX9_die 106 = .ok (.ifCond .eq 14, 3) := by decide +kernel
theorem dX9_die_109 : decode cX9_die 109 = .ok (.aload_n 0, 1) := by decide +kernel
theorem dX9_die_110 : decode cX9_die 110 = .ok (.getfield 201, 3) := by decide +kernel
theorem dX9_die_113 : decode cX9_die 113 = .ok (.iload_n 2, 1) := by decide +kernel
theorem dX9_die_114 : decode cX9_die 114 = .ok (.iadd, 1) := by decide +kernel
theorem dX9_die_115 : decode cX9_die 115 = .ok (.bipush 100, 2) := by decide +kernel
theorem dX9_die_117 : decode cX9_die 117 = .ok (.if_icmp .le 10, 3) := by decide +kernel
theorem dX9_die_120 : decode cX9_die 120 = .ok (.aload_n 0, 1) := by decide +kernel
theorem dX9_die_121 : decode cX9_die 121 = .ok (.iconst 2, 1) := by decide +kernel
theorem dX9_die_122 : decode cX9_die 122 = .ok (.putfield 117, 3) := by decide +kernel
theorem dX9_die_125 : decode cX9_die 125 = .ok (.iconst 0, 1) := by decide +kernel
theorem dX9_die_126 : decode cX9_die 126 = .ok (.ireturn, 1) := by decide +kernel
theorem dX9_die_127 : decode cX9_die 127 = .ok (.iconst 0, 1) := by decide +kernel
theorem dX9_die_128 : decode cX9_die 128 = .ok (.istore 4, 2) := by decide +kernel
theorem dX9_die_130 : decode cX9_die 130 = .ok (.iload 4, 2) := by decide +kernel
theorem dX9_die_132 : decode cX9_die 132 = .ok (.aload_n 0, 1) := by decide +kernel
theorem dX9_die_133 : decode cX9_die 133 = .ok (.getfield 131, 3) := by decide +kernel
theorem dX9_die_136 : decode cX9_die 136 = .ok (.if_icmp .ge 35, 3) := by decide +kernel
theorem dX9_die_139 : decode cX9_die 139 = .ok (.aload_n 0, 1) := by decide +kernel
theorem dX9_die_140 : decode cX9_die 140 = .ok (.getfield 92, 3) := by decide +kernel
theorem dX9_die_143 : decode cX9_die 143 = .ok (.bipush 13, 2) := by decide +kernel
theorem dX9_die_145 : decode cX9_die 145 = .ok (.iload 4, 2) := by decide +kernel
theorem dX9_die_147 : decode cX9_die 147 = .ok (.imul, 1) := by decide +kernel
theorem dX9_die_148 : decode cX9_die 148 = .ok (.iload_n 1, 1) := by decide +kernel
theorem dX9_die_149 : decode cX9_die 149 = .ok (.iadd, 1) := by decide +kernel
theorem dX9_die_150 : decode cX9_die 150 = .ok (.laload, 1) := by decide +kernel
theorem dX9_die_151 : decode cX9_die 151 = .ok (.lconst 0, 1) := by decide +kernel
theorem dX9_die_152 : decode cX9_die 152 = .ok (.lcmp, 1) := by decide +kernel
theorem dX9_die_153 : decode cX9_die 153 = .ok (.ifCond .le 12, 3) := by decide +kernel
theorem dX9_die_156 : decode cX9_die 156 = .ok (.aload_n 0, 1) := by decide +kernel
theorem dX9_die_157 : decode cX9_die 157 = .ok (.iconst 5, 1) := by decide +kernel
theorem dX9_die_158 : decode cX9_die 158 = .ok (.iload_n 1, 1) := by decide +kernel
theorem dX9_die_159 : decode cX9_die 159 = .ok (.iload 4, 2) := by decide +kernel
theorem dX9_die_161 : decode cX9_die 161 = .ok (.invokevirtual 221, 3) := by decide +kernel
theorem dX9_die_164 : decode cX9_die 164 = .ok (.pop, 1) := by decide +kernel
theorem dX9_die_165 : decode cX9_die 165 = .ok (.iinc 4 1, 3) := by decide +kernel
theorem dX9_die_168 : decode cX9_die 168 = .ok (.goto (-38), 3) := by decide +kernel
theorem dX9_die_171 : decode cX9_die 171 = .ok (.aload_n 0, 1) := by decide +kernel
theorem dX9_die_172 : decode cX9_die 172 = .ok (.invokevirtual 214, 3) := by decide +kernel
theorem dX9_die_175 : decode cX9_die 175 = .ok (.aload_n 0, 1) := by decide +kernel
theorem dX9_die_176 : decode cX9_die 176 = .ok (.getfield 20, 3) := by decide +kernel
theorem dX9_die_179 : decode cX9_die 179 = .ok (.iload_n 1, 1) := by decide +kernel
theorem dX9_die_180 : decode cX9_die 180 = .ok (.iconst 1, 1) := by decide +kernel
theorem dX9_die_181 : decode cX9_die 181 = .ok (.bastore, 1) := by decide +kernel
theorem dX9_die_182 : decode cX9_die 182 = .ok (.iconst 0, 1) := by decide +kernel
theorem dX9_die_183 : decode cX9_die 183 = .ok (.istore 4, 2) := by decide +kernel
theorem dX9_die_185 : decode cX9_die 185 = .ok (.iload 4, 2) := by decide +kernel
theorem dX9_die_187 : decode cX9_die 187 = .ok (.aload_n 0, 1) := by decide +kernel
theorem dX9_die_188 : decode cX9_die 188 = .ok (.getfield 121, 3) := by decide +kernel
theorem dX9_die_191 : decode cX9_die 191 = .ok (.if_icmp .ge 38, 3) := by decide +kernel
theorem dX9_die_194 : decode cX9_die 194 = .ok (.aload_n 0, 1) := by decide +kernel
theorem dX9_die_195 : decode cX9_die 195 = .ok (.getfield 29, 3) := by decide +kernel
theorem dX9_die_198 : decode cX9_die 198 = .ok (.iload 4, 2) := by decide +kernel
theorem dX9_die_200 : decode cX9_die 200 = .ok (.aload_n 0, 1) := by decide +kernel
theorem dX9_die_201 : decode cX9_die 201 = .ok (.getfield 29, 3) := by decide +kernel
theorem dX9_die_204 : decode cX9_die 204 = .ok (.iload 4, 2) := by decide +kernel
theorem dX9_die_206 : decode cX9_die 206 = .ok (.iaload, 1) := by decide +kernel
theorem dX9_die_207 : decode cX9_die 207 = .ok (.iload_n 1, 1) := by decide +kernel
theorem dX9_die_208 : decode cX9_die 208 = .ok (.if_icmp .ne 7, 3) := by decide +kernel
theorem dX9_die_211 : decode cX9_die 211 = .ok (.iconst (-1), 1) := by decide +kernel
theorem dX9_die_212 : decode cX9_die 212 = .ok (.goto 10, 3) := by decide +kernel
theorem dX9_die_215 : decode cX9_die 215 = .ok (.aload_n 0, 1) := by decide +kernel
theorem dX9_die_216 : decode cX9_die 216 = .ok (.getfield 29, 3) := by decide +kernel
theorem dX9_die_219 : decode cX9_die 219 = .ok (.iload 4, 2) := by decide +kernel
theorem dX9_die_221 : decode cX9_die 221 = .ok (.iaload, 1) := by decide +kernel
theorem dX9_die_222 : decode cX9_die 222 = .ok (.iastore, 1) := by decide +kernel
theorem dX9_die_223 : decode cX9_die 223 = .ok (.iinc 4 1, 3) := by decide +kernel
theorem dX9_die_226 : decode cX9_die 226 = .ok (.goto (-41), 3) := by decide +kernel
theorem dX9_die_229 : decode cX9_die 229 = .ok (.iload_n 2, 1) := by decide +kernel
theorem dX9_die_230 : decode cX9_die 230 = .ok (.ireturn, 1) := by decide +kernel
theorem dX9_entry_0 : decode cX9_entry 0 = .ok (.aload_n 0, 1) := by decide +kernel
theorem dX9_entry_1 : decode cX9_entry 1 = .ok (.iload_n 1, 1) := by decide +kernel
theorem dX9_entry_2 : decode cX9_entry 2 = .ok (.iconst 0, 1) := by decide +kernel
theorem dX9_entry_3 : decode cX9_entry 3 = .ok (.aload_n 0, 1) := by decide +kernel
theorem dX9_entry_4 : decode cX9_entry 4 = .ok (.getfield 201, 3) := by decide +kernel
theorem dX9_entry_7 : decode cX9_entry 7 = .ok (.iconst 1, 1) := by decide +kernel
theorem dX9_entry_8 : decode cX9_entry 8 = .ok (.isub, 1) := by decide +kernel
theorem dX9_entry_9 : decode cX9_entry 9 = .ok (.invokestatic 124, 3) := by decide +kernel
theorem dX9_entry_12 : decode cX9_entry 12 = .ok (.ifCond .ne 7, 3) := by decide +kernel
theorem dX9_entry_15 : decode cX9_entry 15 = .ok (.iconst 1, 1) := by decide +kernel
theorem dX9_entry_16 : decode cX9_entry 16 = .ok (.goto 17, 3) := by decide +kernel
theorem dX9_entry_19 : decode cX9_entry 19 = .ok (.iload_n 2, 1) := by decide +kernel
theorem dX9_entry_20 : decode cX9_entry 20 = .ok (.iconst 0, 1) := by decide +kernel
theorem dX9_entry_21 : decode cX9_entry 21 = .ok (.iconst 3, 1) := by decide +kernel
theorem dX9_entry_22 : decode cX9_entry 22 = .ok (.invokestatic 124, 3) := by decide +kernel
theorem dX9_entry_25 : decode cX9_entry 25 = .ok (.ifCond .ne 7, 3) := by decide +kernel
theorem dX9_entry_28 : decode cX9_entry 28 = .ok (.iconst 2, 1) := by decide +kernel
theorem dX9_entry_29 : decode cX9_entry 29 = .ok (.goto 4, 3) := by decide +kernel
theorem dX9_entry_32 : decode cX9_entry 32 = .ok (.iconst 0, 1) := by decide +kernel
theorem dX9_entry_33 : decode cX9_entry 33 = .ok (.putfield 117, 3) := by decide +kernel
theorem dX9_entry_36 : decode cX9_entry 36 = .ok (.aload_n 0, 1) := by decide +kernel
theorem dX9_entry_37 : decode cX9_entry 37 = .ok (.getfield 117, 3) := by decide +kernel
theorem dX9_entry_40 : decode cX9_entry 40 = .ok (.ifCond .le 5, 3) := by decide +kernel
theorem dX9_entry_43 : decode cX9_entry 43 = .ok (.iconst 0, 1) := by decide +kernel
theorem dX9_entry_44 : decode cX9_entry 44 = .ok (.ireturn, 1) := by decide +kernel
theorem dX9_entry_45 : decode cX9_entry 45 = .ok (.iload_n 2, 1) := by decide +kernel
theorem dX9_entry_46 : decode cX9_entry 46 = .ok (.ifCond .ne 12, 3) := by decide +kernel
theorem dX9_entry_49 : decode cX9_entry 49 = .ok (.aload_n 0, 1) := by decide +kernel
theorem dX9_entry_50 : decode cX9_entry 50 = .ok (.getfield 99, 3) := by decide +kernel
theorem dX9_entry_53 : decode cX9_entry 53 = .ok (.iload_n 1, 1) := by decide +kernel
theorem dX9_entry_54 : decode cX9_entry 54 = .ok (.iaload, 1) := by decide +kernel
theorem dX9_entry_55 : decode cX9_entry 55 = .ok (.goto 37, 3) := by decide +kernel
theorem dX9_entry_58 : decode cX9_entry 58 = .ok (.iload_n 2, 1) := by decide +kernel
theorem dX9_entry_59 : decode cX9_entry 59 = .ok (.iconst 1, 1) := by decide +kernel
theorem dX9_entry_60 : decode cX9_entry 60 = .ok (.if_icmp .ne 12, 3) := by decide +kernel
theorem dX9_entry_63 : decode cX9_entry 63 = .ok (.aload_n 0, 1) := by decide +kernel
theorem dX9_entry_64 : decode cX9_entry 64 = .ok (.getfield 102, 3) := by decide +kernel
theorem dX9_entry_67 : decode cX9_entry 67 = .ok (.iload_n 1, 1) := by decide +kernel
theorem dX9_entry_68 : decode cX9_entry 68 = .ok (.iaload, 1) := by decide +kernel
theorem dX9_entry_69 : decode cX9_entry 69 = .ok (.goto 23, 3) := by decide +kernel
theorem dX9_entry_72 : decode cX9_entry 72 = .ok (.iload_n 2, 1) := by decide +kernel
theorem dX9_entry_73 : decode cX9_entry 73 = .ok (.iconst 2, 1) := by decide +kernel
theorem dX9_entry_74 : decode cX9_entry 74 = .ok (.if_icmp .ne 12, 3) := by decide +kernel
theorem dX9_entry_77 : decode cX9_entry 77 = .ok (.aload_n 0, 1) := by decide +kernel
theorem dX9_entry_78 : decode cX9_entry 78 = .ok (.getfield 105, 3) := by decide +kernel
theorem dX9_entry_81 : decode cX9_entry 81 = .ok (.iload_n 1, 1) := by decide +kernel
theorem dX9_entry_82 : decode cX9_entry 82 = .ok (.iaload, 1) := by decide +kernel
theorem dX9_entry_83 : decode cX9_entry 83 = .ok (.goto 9, 3) := by decide +kernel
theorem dX9_entry_86 : decode cX9_entry 86 = .ok (.aload_n 0, 1) := by decide +kernel
theorem dX9_entry_87 : decode cX9_entry 87 = .ok (.getfield 108, 3) := by decide +kernel
theorem dX9_entry_90 : decode cX9_entry 90 = .ok (.iload_n 1, 1) := by decide +kernel
theorem dX9_entry_91 : decode cX9_entry 91 = .ok (.iaload, 1) := by decide +kernel
theorem dX9_entry_92 : decode cX9_entry 92 = .ok (.ireturn, 1) := by decide +kernel
theorem dX9_entries_0 : decode cX9_entries 0 = .ok (.aload_n 0, 1) := by decide +kernel
theorem dX9_entries_1 : decode cX9_entries 1 = .ok (.iconst 0, 1) := by decide +kernel
theorem dX9_entries_2 : decode cX9_entries 2 = .ok (.putfield 117, 3) := by decide +kernel
theorem dX9_entries_5 : decode cX9_entries 5 = .ok (.aload_n 0, 1) := by decide +kernel
theorem dX9_entries_6 : decode cX9_entries 6 = .ok (.getfield 201, 3) := by decide +kernel
theorem dX9_entries_9 : decode cX9_entries 9 = .ok (.ireturn, 1) := by decide +kernel
theorem dX9_search_0 : decode cX9_search 0 = .ok (.aload_n 0, 1) := by decide +kernel
theorem dX9_search_1 : decode cX9_search 1 = .ok (.aload_n 0, 1) := by decide +kernel
theorem dX9_search_2 : decode cX9_search 2 = .ok (.iload_n 1, 1) := by decide +kernel
theorem dX9_search_3 : decode cX9_search 3 = .ok (.invokevirtual 149, 3) := by decide +kernel
theorem dX9_search_6 : decode cX9_search 6 = .ok (.ifCond .ne 7, 3) := by decide +kernel
theorem dX9_search_9 : decode cX9_search 9 = .ok (.iconst 1, 1) := by decide +kernel
theorem dX9_search_10 : decode cX9_search 10 = .ok (.goto 17, 3) := by decide +kernel
theorem dX9_search_13 : decode cX9_search 13 = .ok (.iload_n 2, 1) := by decide +kernel
theorem dX9_search_14 : decode cX9_search 14 = .ok (.ifCond .lt 8, 3) := by decide +kernel
theorem dX9_search_17 : decode cX9_search 17 = .ok (.iload_n 3, 1) := by decide +kernel
theorem dX9_search_18 : decode cX9_search 18 = .ok (.iload_n 2, 1) := by decide +kernel
theorem dX9_search_19 : decode cX9_search 19 = .ok (.if_icmp .ge 7, 3) := by decide +kernel
theorem dX9_search_22 : decode cX9_search 22 = .ok (.iconst 2, 1) := by decide +kernel
theorem dX9_search_23 : decode cX9_search 23 = .ok (.goto 4, 3) := by decide +kernel
theorem dX9_search_26 : decode cX9_search 26 = .ok (.iconst 0, 1) := by decide +kernel
theorem dX9_search_27 : decode cX9_search 27 = .ok (.putfield 117, 3) := by decide +kernel
theorem dX9_search_30 : decode cX9_search 30 = .ok (.iconst 0, 1) := by decide +kernel
theorem dX9_search_31 : decode cX9_search 31 = .ok (.istore 4, 2) := by decide +kernel
theorem dX9_search_33 : decode cX9_search 33 = .ok (.iload_n 2, 1) := by decide +kernel
theorem dX9_search_34 : decode cX9_search 34 = .ok (.istore 5, 2) := by decide +kernel
theorem dX9_search_36 : decode cX9_search 36 = .ok (.aload_n 0, 1) := by decide +kernel
theorem dX9_search_37 : decode cX9_search 37 = .ok (.getfield 117, 3) := by decide +kernel
theorem dX9_search_40 : decode cX9_search 40 = .ok (.ifCond .ne 45, 3) := by decide +kernel
theorem dX9_search_43 : decode cX9_search 43 = .ok (.iload 5, 2) := by decide +kernel
theorem dX9_search_45 : decode cX9_search 45 = .ok (.aload_n 0, 1) := by decide +kernel
theorem dX9_search_46 : decode cX9_search 46 = .ok (.getfield 201, 3) := by decide +kernel
theorem dX9_search_49 : decode cX9_search 49 = .ok (.if_icmp .ge 36, 3) := by decide +kernel
theorem dX9_search_52 : decode cX9_search 52 = .ok (.iload 5, 2) := by decide +kernel
theorem dX9_search_54 : decode cX9_search 54 = .ok (.iload_n 3, 1) := by decide +kernel
theorem dX9_search_55 : decode cX9_search 55 = .ok (.if_icmp .gt 30, 3) := by decide +kernel
theorem dX9_search_58 : decode cX9_search 58 = .ok (.iload 4, 2) := by decide +kernel
theorem dX9_search_60 : decode cX9_search 60 = .ok (.aload_n 0, 1) := by decide +kernel
theorem dX9_search_61 : decode cX9_search 61 = .ok (.getfield 105, 3) := by decide +kernel
theorem dX9_search_64 : decode cX9_search 64 = .ok (.iload 5, 2) := by decide +kernel
theorem dX9_search_66 : decode cX9_search 66 = .ok (.iaload, 1) := by decide +kernel
theorem dX9_search_67 : decode cX9_search 67 = .ok (.iload_n 1, 1) := by decide +kernel
theorem dX9_search_68 : decode cX9_search 68 = .ok (.if_icmp .ne 7, 3) := by decide +kernel
theorem dX9_search_71 : decode cX9_search 71 = .ok (.iconst 1, 1) := by decide +kernel
theorem dX9_search_72 : decode cX9_search 72 = .ok (.goto 4, 3) := by decide +kernel
theorem dX9_search_75 : decode cX9_search 75 = .ok (.iconst 0, 1) := by decide +kernel
theorem dX9_search_76 : decode cX9_search 76 = .ok (.iadd, 1) := by decide +kernel
theorem dX9_search_77 : decode cX9_search 77 = .ok (.istore 4, 2) := by decide +kernel
theorem dX9_search_79 : decode cX9_search 79 = .ok (.iinc 5 1, 3) := by decide +kernel
theorem dX9_search_82 : decode cX9_search 82 = .ok (.goto (-46), 3) := by decide +kernel
theorem dX9_search_85 : decode cX9_search 85 = .ok (.iload 4, 2) := by decide +kernel
theorem dX9_search_87 : decode cX9_search 87 = .ok (.ireturn, 1) := by decide +kernel
theorem dX9_pledge_0 : decode cX9_pledge 0 = .ok (.aload_n 0, 1) := by decide +kernel
theorem dX9_pledge_1 : decode cX9_pledge 1 = .ok (.aload_n 0, 1) := by decide +kernel
theorem dX9_pledge_2 : decode cX9_pledge 2 = .ok (.iload_n 1, 1) := by decide +kernel
theorem dX9_pledge_3 : decode cX9_pledge 3 = .ok (.invokevirtual 149, 3) := by decide +kernel
theorem dX9_pledge_6 : decode cX9_pledge 6 = .ok (.ifCond .eq 7, 3) := by decide +kernel
theorem dX9_pledge_9 : decode cX9_pledge 9 = .ok (.iload_n 2, 1) := by decide +kernel
theorem dX9_pledge_10 : decode cX9_pledge 10 = .ok (.ifCond .ge 7, 3) := by decide +kernel
theorem dX9_pledge_13 : decode cX9_pledge 13 = .ok (.iconst 1, 1) := by decide +kernel
theorem dX9_pledge_14 : decode cX9_pledge 14 = .ok (.goto 4, 3) := by decide +kernel
theorem dX9_pledge_17 : decode cX9_pledge 17 = .ok (.iconst 0, 1) := by decide +kernel
theorem dX9_pledge_18 : decode cX9_pledge 18 = .ok (.putfield 117, 3) := by decide +kernel
theorem dX9_pledge_21 : decode cX9_pledge 21 = .ok (.aload_n 0, 1) := by decide +kernel
theorem dX9_pledge_22 : decode cX9_pledge 22 = .ok (.getfield 117, 3) := by decide +kernel
theorem dX9_pledge_25 : decode cX9_pledge 25 = .ok (.ifCond .le 5, 3) := by decide +kernel
theorem dX9_pledge_28 : decode cX9_pledge 28 = .ok (.iconst 0, 1) := by decide +kernel
theorem dX9_pledge_29 : decode cX9_pledge 29 = .ok (.ireturn, 1) := by decide +kernel
theorem dX9_pledge_30 : decode cX9_pledge 30 = .ok (.iload_n 2, 1) := by decide +kernel
theorem dX9_pledge_31 : decode cX9_pledge 31 = .ok (.istore_n 3, 1) := by decide +kernel
theorem dX9_pledge_32 : decode cX9_pledge 32 = .ok (.iconst 0, 1) := by decide +kernel
theorem dX9_pledge_33 : decode cX9_pledge 33 = .ok (.istore 4, 2) := by decide +kernel
theorem dX9_pledge_35 : decode cX9_pledge 35 = .ok (.iload 4, 2) := by decide +kernel
theorem dX9_pledge_37 : decode cX9_pledge 37 = .ok (.aload_n 0, 1) := by decide +kernel
theorem dX9_pledge_38 : decode cX9_pledge 38 = .ok (.getfield 201, 3) := by decide +kernel
theorem dX9_pledge_41 : decode cX9_pledge 41 = .ok (.if_icmp .ge 46, 3) := by decide +kernel
theorem dX9_pledge_44 : decode cX9_pledge 44 = .ok (.aload_n 0, 1) := by decide +kernel
theorem dX9_pledge_45 : decode cX9_pledge 45 = .ok (.getfield 99, 3) := by decide +kernel
theorem dX9_pledge_48 : decode cX9_pledge 48 = .ok (.iload 4, 2) := by decide +kernel
theorem dX9_pledge_50 : decode cX9_pledge 50 = .ok (.iaload, 1) := by decide +kernel
theorem dX9_pledge_51 : decode cX9_pledge 51 = .ok (.iconst 2, 1) := by decide +kernel
theorem dX9_pledge_52 : decode cX9_pledge 52 = .ok (.if_icmp .ne 29, 3) := by decide +kernel
theorem dX9_pledge_55 : decode cX9_pledge 55 = .ok (.aload_n 0, 1) := by decide +kernel
theorem dX9_pledge_56 : decode cX9_pledge 56 = .ok (.getfield 105, 3) := by decide +kernel
theorem dX9_pledge_59 : decode cX9_pledge 59 = .ok (.iload 4, 2) := by decide +kernel
theorem dX9_pledge_61 : decode cX9_pledge 61 = .ok (.iaload, 1) := by decide +kernel
theorem dX9_pledge_62 : decode cX9_pledge 62 = .ok (.iload_n 1, 1) := by decide +kernel
theorem dX9_pledge_63 : decode cX9_pledge 63 = .ok (.if_icmp .ne 18, 3) := by decide +kernel
theorem dX9_pledge_66 : decode cX9_pledge 66 = .ok (.iload_n 3, 1) := by decide +kernel
theorem dX9_pledge_67 : decode cX9_pledge 67 = .ok (.ifCond .ne 11, 3) := by decide +kernel
theorem dX9_pledge_70 : decode cX9_pledge 70 = .ok (.aload_n 0, 1) := by decide +kernel
theorem dX9_pledge_71 : decode cX9_pledge 71 = .ok (.getfield 102, 3) := by decide +kernel
theorem dX9_pledge_74 : decode cX9_pledge 74 = .ok (.iload 4, 2) := by decide +kernel
theorem dX9_pledge_76 : decode cX9_pledge 76 = .ok (.iaload, 1) := by decide +kernel
theorem dX9_pledge_77 : decode cX9_pledge 77 = .ok (.ireturn, 1) := by decide +kernel
theorem dX9_pledge_78 : decode cX9_pledge 78 = .ok (.iinc 3 (-1), 3) := by decide +kernel
theorem dX9_pledge_81 : decode cX9_pledge 81 = .ok (.iinc 4 1, 3) := by decide +kernel
theorem dX9_pledge_84 : decode cX9_pledge 84 = .ok (.goto (-49), 3) := by decide +kernel
theorem dX9_pledge_87 : decode cX9_pledge 87 = .ok (.iconst (-1), 1) := by decide +kernel
theorem dX9_pledge_88 : decode cX9_pledge 88 = .ok (.ireturn, 1) := by decide +kernel
theorem dX9_share_0 : decode cX9_share 0 = .ok (.aload_n 0, 1) := by decide +kernel
theorem dX9_share_1 : decode cX9_share 1 = .ok (.aload_n 0, 1) := by decide +kernel
theorem dX9_share_2 : decode cX9_share 2 = .ok (.iload_n 1, 1) := by decide +kernel
theorem dX9_share_3 : decode cX9_share 3 = .ok (.invokevirtual 149, 3) := by decide +kernel
theorem dX9_share_6 : decode cX9_share 6 = .ok (.ifCond .eq 16, 3) := by decide +kernel
theorem dX9_share_9 : decode cX9_share 9 = .ok (.iload_n 2, 1) := by decide +kernel
theorem dX9_share_10 : decode cX9_share 10 = .ok (.iconst (-1), 1) := by decide +kernel
theorem dX9_share_11 : decode cX9_share 11 = .ok (.if_icmp .eq 15, 3) := by decide +kernel
theorem dX9_share_14 : decode cX9_share 14 = .ok (.aload_n 0, 1) := by decide +kernel
theorem dX9_share_15 : decode cX9_share 15 = .ok (.iload_n 2, 1) := by decide +kernel
theorem dX9_share_16 : decode cX9_share 16 = .ok (.invokevirtual 137, 3) := by decide +kernel
theorem dX9_share_19 : decode cX9_share 19 = .ok (.ifCond .ne 7, 3) := by decide +kernel
theorem dX9_share_22 : decode cX9_share 22 = .ok (.iconst 1, 1) := by decide +kernel
theorem dX9_share_23 : decode cX9_share 23 = .ok (.goto 4, 3) := by decide +kernel
theorem dX9_share_26 : decode cX9_share 26 = .ok (.iconst 0, 1) := by decide +kernel
theorem dX9_share_27 : decode cX9_share 27 = .ok (.putfield 117, 3) := by decide +kernel
theorem dX9_share_30 : decode cX9_share 30 = .ok (.aload_n 0, 1) := by decide +kernel
theorem dX9_share_31 : decode cX9_share 31 = .ok (.getfield 117, 3) := by decide +kernel
theorem dX9_share_34 : decode cX9_share 34 = .ok (.ifCond .le 5, 3) := by decide +kernel
theorem dX9_share_37 : decode cX9_share 37 = .ok (.iconst 0, 1) := by decide +kernel
theorem dX9_share_38 : decode cX9_share 38 = .ok (.ireturn, 1) := by decide +kernel
theorem dX9_share_39 : decode cX9_share 39 = .ok (.bipush 13, 2) := by decide +kernel
theorem dX9_share_41 : decode cX9_share 41 = .ok (.iload_n 1, 1) := by decide +kernel
theorem dX9_share_42 : decode cX9_share 42 = .ok (.imul, 1) := by decide +kernel
theorem dX9_share_43 : decode cX9_share 43 = .ok (.iload_n 2, 1) := by decide +kernel
theorem dX9_share_44 : decode cX9_share 44 = .ok (.iconst (-1), 1) := by decide +kernel
theorem dX9_share_45 : decode cX9_share 45 = .ok (.if_icmp .ne 8, 3) := by decide +kernel
theorem dX9_share_48 : decode cX9_share 48 = .ok (.bipush 12, 2) := by decide +kernel
theorem dX9_share_50 : decode cX9_share 50 = .ok (.goto 4, 3) := by decide +kernel
theorem dX9_share_53 : decode cX9_share 53 = .ok (.iload_n 2, 1) := by decide +kernel
theorem dX9_share_54 : decode cX9_share 54 = .ok (.iadd, 1) := by decide +kernel
theorem dX9_share_55 : decode cX9_share 55 = .ok (.istore 4, 2) := by decide +kernel
theorem dX9_share_57 : decode cX9_share 57 = .ok (.iload_n 3, 1) := by decide +kernel
theorem dX9_share_58 : decode cX9_share 58 = .ok (.ifCond .eq 13, 3) := by decide +kernel
theorem dX9_share_61 : decode cX9_share 61 = .ok (.aload_n 0, 1) := by decide +kernel
theorem dX9_share_62 : decode cX9_share 62 = .ok (.getfield 96, 3) := by decide +kernel
theorem dX9_share_65 : decode cX9_share 65 = .ok (.iload 4, 2) := by decide +kernel
theorem dX9_share_67 : decode cX9_share 67 = .ok (.laload, 1) := by decide +kernel
theorem dX9_share_68 : decode cX9_share 68 = .ok (.goto 10, 3) := by decide +kernel
theorem dX9_share_71 : decode cX9_share 71 = .ok (.aload_n 0, 1) := by decide +kernel
theorem dX9_share_72 : decode cX9_share 72 = .ok (.getfield 92, 3) := by decide +kernel
theorem dX9_share_75 : decode cX9_share 75 = .ok (.iload 4, 2) := by decide +kernel
theorem dX9_share_77 : decode cX9_share 77 = .ok (.laload, 1) := by decide +kernel
theorem dX9_share_78 : decode cX9_share 78 = .ok (.l2i, 1) := by decide +kernel
theorem dX9_share_79 : decode cX9_share 79 = .ok (.ireturn, 1) := by decide +kernel
theorem dX9_shareAnew_0 : decode cX9_shareAnew 0 = .ok (.aload_n 0, 1) := by decide +kernel
theorem dX9_shareAnew_1 : decode cX9_shareAnew 1 = .ok (.iload_n 1, 1) := by decide +kernel
theorem dX9_shareAnew_2 : decode cX9_shareAnew 2 = .ok (.iload_n 2, 1) := by decide +kernel
theorem dX9_shareAnew_3 : decode cX9_shareAnew 3 = .ok (.iload_n 3, 1) := by decide +kernel
theorem dX9_shareAnew_4 : decode cX9_shareAnew 4 = .ok (.invokevirtual 240, 3) := by decide +kernel
theorem dX9_shareAnew_7 : decode cX9_shareAnew 7 = .ok (.ireturn, 1) := by decide +kernel
theorem dX9_duties_0 : decode cX9_duties 0 = .ok (.aload_n 0, 1) := by decide +kernel
theorem dX9_duties_1 : decode cX9_duties 1 = .ok (.iconst 0, 1) := by decide +kernel
theorem dX9_duties_2 : decode cX9_duties 2 = .ok (.putfield 117, 3) := by decide +kernel
theorem dX9_duties_5 : decode cX9_duties 5 = .ok (.aload_n 0, 1) := by decide +kernel
theorem dX9_duties_6 : decode cX9_duties 6 = .ok (.getfield 217, 3) := by decide +kernel
theorem dX9_duties_9 : decode cX9_duties 9 = .ok (.lreturn, 1) := by decide +kernel
theorem dX9_pass_0 : decode cX9_pass 0 = .ok (.aload_n 0, 1) := by decide +kernel
theorem dX9_pass_1 : decode cX9_pass 1 = .ok (.iload_n 1, 1) := by decide +kernel
theorem dX9_pass_2 : decode cX9_pass 2 = .ok (.iconst 1, 1) := by decide +kernel
theorem dX9_pass_3 : decode cX9_pass 3 = .ok (.sipush 10000, 3) := by decide +kernel
theorem dX9_pass_6 : decode cX9_pass 6 = .ok (.invokestatic 124, 3) := by decide +kernel
theorem dX9_pass_9 : decode cX9_pass 9 = .ok (.ifCond .eq 7, 3) := by decide +kernel
theorem dX9_pass_12 : decode cX9_pass 12 = .ok (.iconst 0, 1) := by decide +kernel
theorem dX9_pass_13 : decode cX9_pass 13 = .ok (.goto 4, 3) := by decide +kernel
theorem dX9_pass_16 : decode cX9_pass 16 = .ok (.iconst 1, 1) := by decide +kernel
theorem dX9_pass_17 : decode cX9_pass 17 = .ok (.putfield 117, 3) := by decide +kernel
theorem dX9_pass_20 : decode cX9_pass 20 = .ok (.aload_n 0, 1) := by decide +kernel
theorem dX9_pass_21 : decode cX9_pass 21 = .ok (.dup, 1) := by decide +kernel
theorem dX9_pass_22 : decode cX9_pass 22 = .ok (.getfield 134, 3) := by decide +kernel
theorem dX9_pass_25 : decode cX9_pass 25 = .ok (.aload_n 0, 1) := by decide +kernel
theorem dX9_pass_26 : decode cX9_pass 26 = .ok (.getfield 117, 3) := by decide +kernel
theorem dX9_pass_29 : decode cX9_pass 29 = .ok (.ifCond .ne 7, 3) := by decide +kernel
theorem dX9_pass_32 : decode cX9_pass 32 = .ok (.iload_n 1, 1) := by decide +kernel
theorem dX9_pass_33 : decode cX9_pass 33 = .ok (.goto 4, 3) := by decide +kernel
theorem dX9_pass_36 : decode cX9_pass 36 = .ok (.iconst 0, 1) := by decide +kernel
theorem dX9_pass_37 : decode cX9_pass 37 = .ok (.iadd, 1) := by decide +kernel
theorem dX9_pass_38 : decode cX9_pass 38 = .ok (.putfield 134, 3) := by decide +kernel
theorem dX9_pass_41 : decode cX9_pass 41 = .ok (.aload_n 0, 1) := by decide +kernel
theorem dX9_pass_42 : decode cX9_pass 42 = .ok (.getfield 117, 3) := by decide +kernel
theorem dX9_pass_45 : decode cX9_pass 45 = .ok (.ifCond .le 7, 3) := by decide +kernel
theorem dX9_pass_48 : decode cX9_pass 48 = .ok (.iconst 0, 1) := by decide +kernel
theorem dX9_pass_49 : decode cX9_pass 49 = .ok (.goto 7, 3) := by decide +kernel
theorem dX9_pass_52 : decode cX9_pass 52 = .ok (.aload_n 0, 1) := by decide +kernel
theorem dX9_pass_53 : decode cX9_pass 53 = .ok (.getfield 134, 3) := by decide +kernel
theorem dX9_pass_56 : decode cX9_pass 56 = .ok (.ireturn, 1) := by decide +kernel
