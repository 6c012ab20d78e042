theorem dL_drafts_220 : decode cL_drafts 220 = .ok (.iconst 2, 1) := by decide +kernel
theorem dL_drafts_221 : decode cL_drafts 221 = .ok (.invokestatic 98, 3) := by decide +kernel
theorem dL_drafts_224 : decode cL_drafts 224 = .ok (.istore 12, 2) := by decide +kernel
theorem dL_drafts_226 : decode cL_drafts 226 = .ok (.aload_n 0, 1) := by decide +kernel
theorem dL_drafts_227 : decode cL_drafts 227 = .ok (.iconst 1, 1) := by decide +kernel
theorem dL_drafts_228 : decode cL_drafts 228 = .ok (.iload 8, 2) := by decide +kernel
theorem dL_drafts_230 : decode cL_drafts 230 = .ok (.iload 9, 2) := by decide +kernel
theorem dL_drafts_232 : decode cL_drafts 232 = .ok (.iload 10, 2) := by decide +kernel
theorem dL_drafts_234 : decode cL_drafts 234 = .ok (.iload 11, 2) := by decide +kernel
theorem dL_drafts_236 : decode cL_drafts 236 = .ok (.iload 12, 2) := by decide +kernel
theorem dL_drafts_238 : decode cL_drafts 238 = .ok (.iconst 0, 1) := by decide +kernel
theorem dL_drafts_239 : decode cL_drafts 239 = .ok (.invokestatic 101, 3) := by decide +kernel
theorem dL_drafts_242 : decode cL_drafts 242 = .ok (.iload 14, 2) := by decide +kernel
theorem dL_drafts_244 : decode cL_drafts 244 = .ok (.if_icmp .ne 7, 3) := by decide +kernel
theorem dL_drafts_247 : decode cL_drafts 247 = .ok (.iconst 1, 1) := by decide +kernel
theorem dL_drafts_248 : decode cL_drafts 248 = .ok (.goto 4, 3) := by decide +kernel
theorem dL_drafts_251 : decode cL_drafts 251 = .ok (.iconst 0, 1) := by decide +kernel
theorem dL_drafts_252 : decode cL_drafts 252 = .ok (.istore 15, 2) := by decide +kernel
theorem dL_drafts_254 : decode cL_drafts 254 = .ok (.goto 30, 3) := by decide +kernel
theorem dL_drafts_257 : decode cL_drafts 257 = .ok (.aload_n 0, 1) := by decide +kernel
theorem dL_drafts_258 : decode cL_drafts 258 = .ok (.iconst 2, 1) := by decide +kernel
theorem dL_drafts_259 : decode cL_drafts 259 = .ok (.iload 8, 2) := by decide +kernel
theorem dL_drafts_261 : decode cL_drafts 261 = .ok (.iload 9, 2) := by decide +kernel
theorem dL_drafts_263 : decode cL_drafts 263 = .ok (.iload 11, 2) := by decide +kernel
theorem dL_drafts_265 : decode cL_drafts 265 = .ok (.iload 12, 2) := by decide +kernel
theorem dL_drafts_267 : decode cL_drafts 267 = .ok (.iconst 0, 1) := by decide +kernel
theorem dL_drafts_268 : decode cL_drafts 268 = .ok (.iconst 0, 1) := by decide +kernel
theorem dL_drafts_269 : decode cL_drafts 269 = .ok (.invokestatic 101, 3) := by decide +kernel
theorem dL_drafts_272 : decode cL_drafts 272 = .ok (.iload 14, 2) := by decide +kernel
theorem dL_drafts_274 : decode cL_drafts 274 = .ok (.if_icmp .ne 7, 3) := by decide +kernel
theorem dL_drafts_277 : decode cL_drafts 277 = .ok (.iconst 1, 1) := by decide +kernel
theorem dL_drafts_278 : decode cL_drafts 278 = .ok (.goto 4, 3) := by decide +kernel
theorem dL_drafts_281 : decode cL_drafts 281 = .ok (.iconst 0, 1) := by decide +kernel
theorem dL_drafts_282 : decode cL_drafts 282 = .ok (.istore 15, 2) := by decide +kernel
theorem dL_drafts_284 : decode cL_drafts 284 = .ok (.iload 13, 2) := by decide +kernel
theorem dL_drafts_286 : decode cL_drafts 286 = .ok (.ifCond .eq 83, 3) := by decide +kernel
theorem dL_drafts_289 : decode cL_drafts 289 = .ok (.aload_n 3, 1) := by decide +kernel
theorem dL_drafts_290 : decode cL_drafts 290 = .ok (.iload 6, 2) := by decide +kernel
theorem dL_drafts_292 : decode cL_drafts 292 = .ok (.iload 7, 2) := by decide +kernel
theorem dL_drafts_294 : decode cL_drafts 294 = .ok (.bipush 8, 2) := by decide +kernel
theorem dL_drafts_296 : decode cL_drafts 296 = .ok (.iload 8, 2) := by decide +kernel
theorem dL_drafts_298 : decode cL_drafts 298 = .ok (.imul, 1) := by decide +kernel
theorem dL_drafts_299 : decode cL_drafts 299 = .ok (.iadd, 1) := by decide +kernel
theorem dL_drafts_300 : decode cL_drafts 300 = .ok (.bipush 64, 2) := by decide +kernel
theorem dL_drafts_302 : decode cL_drafts 302 = .ok (.iload 9, 2) := by decide +kernel
theorem dL_drafts_304 : decode cL_drafts 304 = .ok (.imul, 1) := by decide +kernel
theorem dL_drafts_305 : decode cL_drafts 305 = .ok (.iadd, 1) := by decide +kernel
theorem dL_drafts_306 : decode cL_drafts 306 = .ok (.sipush 512, 3) := by decide +kernel
theorem dL_drafts_309 : decode cL_drafts 309 = .ok (.iload 7, 2) := by decide +kernel
theorem dL_drafts_311 : decode cL_drafts 311 = .ok (.iconst 4, 1) := by decide +kernel
theorem dL_drafts_312 : decode cL_drafts 312 = .ok (.if_icmp .ne 7, 3) := by decide +kernel
theorem dL_drafts_315 : decode cL_drafts 315 = .ok (.iconst 0, 1) := by decide +kernel
theorem dL_drafts_316 : decode cL_drafts 316 = .ok (.goto 7, 3) := by decide +kernel
theorem dL_drafts_319 : decode cL_drafts 319 = .ok (.iload 10, 2) := by decide +kernel
theorem dL_drafts_321 : decode cL_drafts 321 = .ok (.iconst 1, 1) := by decide +kernel
theorem dL_drafts_322 : decode cL_drafts 322 = .ok (.iadd, 1) := by decide +kernel
theorem dL_drafts_323 : decode cL_drafts 323 = .ok (.imul, 1) := by decide +kernel
theorem dL_drafts_324 : decode cL_drafts 324 = .ok (.iadd, 1) := by decide +kernel
theorem dL_drafts_325 : decode cL_drafts 325 = .ok (.iastore, 1) := by decide +kernel
theorem dL_drafts_326 : decode cL_drafts 326 = .ok (.aload 4, 2) := by decide +kernel
theorem dL_drafts_328 : decode cL_drafts 328 = .ok (.iload 6, 2) := by decide +kernel
theorem dL_drafts_330 : decode cL_drafts 330 = .ok (.iload 7, 2) := by decide +kernel
theorem dL_drafts_332 : decode cL_drafts 332 = .ok (.iconst 3, 1) := by decide +kernel
theorem dL_drafts_333 : decode cL_drafts 333 = .ok (.if_icmp .ne 18, 3) := by decide +kernel
theorem dL_drafts_336 : decode cL_drafts 336 = .ok (.iconst 2, 1) := by decide +kernel
theorem dL_drafts_337 : decode cL_drafts 337 = .ok (.aload 5, 2) := by decide +kernel
theorem dL_drafts_339 : decode cL_drafts 339 = .ok (.iconst 0, 1) := by decide +kernel
theorem dL_drafts_340 : decode cL_drafts 340 = .ok (.iaload, 1) := by decide +kernel
theorem dL_drafts_341 : decode cL_drafts 341 = .ok (.iload 11, 2) := by decide +kernel
theorem dL_drafts_343 : decode cL_drafts 343 = .ok (.iadd, 1) := by decide +kernel
theorem dL_drafts_344 : decode cL_drafts 344 = .ok (.imul, 1) := by decide +kernel
theorem dL_drafts_345 : decode cL_drafts 345 = .ok (.iload 12, 2) := by decide +kernel
theorem dL_drafts_347 : decode cL_drafts 347 = .ok (.iadd, 1) := by decide +kernel
theorem dL_drafts_348 : decode cL_drafts 348 = .ok (.goto 12, 3) := by decide +kernel
theorem dL_drafts_351 : decode cL_drafts 351 = .ok (.sipush 128, 3) := by decide +kernel
theorem dL_drafts_354 : decode cL_drafts 354 = .ok (.iload 11, 2) := by decide +kernel
theorem dL_drafts_356 : decode cL_drafts 356 = .ok (.imul, 1) := by decide +kernel
theorem dL_drafts_357 : decode cL_drafts 357 = .ok (.iload 12, 2) := by decide +kernel
theorem dL_drafts_359 : decode cL_drafts 359 = .ok (.iadd, 1) := by decide +kernel
theorem dL_drafts_360 : decode cL_drafts 360 = .ok (.iastore, 1) := by decide +kernel
theorem dL_drafts_361 : decode cL_drafts 361 = .ok (.aload 5, 2) := by decide +kernel
theorem dL_drafts_363 : decode cL_drafts 363 = .ok (.iconst 1, 1) := by decide +kernel
theorem dL_drafts_364 : decode cL_drafts 364 = .ok (.dup2, 1) := by decide +kernel
theorem dL_drafts_365 : decode cL_drafts 365 = .ok (.iaload, 1) := by decide +kernel
theorem dL_drafts_366 : decode cL_drafts 366 = .ok (.iconst 1, 1) := by decide +kernel
theorem dL_drafts_367 : decode cL_drafts 367 = .ok (.iadd, 1) := by decide +kernel
theorem dL_drafts_368 : decode cL_drafts 368 = .ok (.iastore, 1) := by decide +kernel
theorem dL_drafts_369 : decode cL_drafts 369 = .ok (.iload 15, 2) := by decide +kernel
theorem dL_drafts_371 : decode cL_drafts 371 = .ok (.ireturn, 1) := by decide +kernel
theorem dL_acts_0 : decode cL_acts 0 = .ok (.iload_n 2, 1) := by decide +kernel
theorem dL_acts_1 : decode cL_acts 1 = .ok (.aload 13, 2) := by decide +kernel
theorem dL_acts_3 : decode cL_acts 3 = .ok (.iconst 1, 1) := by decide +kernel
theorem dL_acts_4 : decode cL_acts 4 = .ok (.iaload, 1) := by decide +kernel
theorem dL_acts_5 : decode cL_acts 5 = .ok (.invokestatic 98, 3) := by decide +kernel
theorem dL_acts_8 : decode cL_acts 8 = .ok (.istore 16, 2) := by decide +kernel
theorem dL_acts_10 : decode cL_acts 10 = .ok (.iload_n 2, 1) := by decide +kernel
theorem dL_acts_11 : decode cL_acts 11 = .ok (.iconst 5, 1) := by decide +kernel
theorem dL_acts_12 : decode cL_acts 12 = .ok (.ishr, 1) := by decide +kernel
theorem dL_acts_13 : decode cL_acts 13 = .ok (.bipush 6, 2) := by decide +kernel
theorem dL_acts_15 : decode cL_acts 15 = .ok (.invokestatic 98, 3) := by decide +kernel
theorem dL_acts_18 : decode cL_acts 18 = .ok (.istore 17, 2) := by decide +kernel
theorem dL_acts_20 : decode cL_acts 20 = .ok (.iload_n 1, 1) := by decide +kernel
theorem dL_acts_21 : decode cL_acts 21 = .ok (.iconst 5, 1) := by decide +kernel
theorem dL_acts_22 : decode cL_acts 22 = .ok (.if_icmp .ge 196, 3) := by decide +kernel
theorem dL_acts_25 : decode cL_acts 25 = .ok (.iload_n 2, 1) := by decide +kernel
theorem dL_acts_26 : decode cL_acts 26 = .ok (.bipush 8, 2) := by decide +kernel
theorem dL_acts_28 : decode cL_acts 28 = .ok (.ishr, 1) := by decide +kernel
theorem dL_acts_29 : decode cL_acts 29 = .ok (.iconst 2, 1) := by decide +kernel
theorem dL_acts_30 : decode cL_acts 30 = .ok (.invokestatic 98, 3) := by decide +kernel
theorem dL_acts_33 : decode cL_acts 33 = .ok (.ifCond .ne 7, 3) := by decide +kernel
theorem dL_acts_36 : decode cL_acts 36 = .ok (.iconst 1, 1) := by decide +kernel
theorem dL_acts_37 : decode cL_acts 37 = .ok (.goto 4, 3) := by decide +kernel
theorem dL_acts_40 : decode cL_acts 40 = .ok (.iconst 0, 1) := by decide +kernel
theorem dL_acts_41 : decode cL_acts 41 = .ok (.istore 18, 2) := by decide +kernel
theorem dL_acts_43 : decode cL_acts 43 = .ok (.iload_n 2, 1) := by decide +kernel
theorem dL_acts_44 : decode cL_acts 44 = .ok (.bipush 9, 2) := by decide +kernel
theorem dL_acts_46 : decode cL_acts 46 = .ok (.ishr, 1) := by decide +kernel
theorem dL_acts_47 : decode cL_acts 47 = .ok (.iconst 3, 1) := by decide +kernel
theorem dL_acts_48 : decode cL_acts 48 = .ok (.invokestatic 98, 3) := by decide +kernel
theorem dL_acts_51 : decode cL_acts 51 = .ok (.ifCond .le 36, 3) := by decide +kernel
theorem dL_acts_54 : decode cL_acts 54 = .ok (.iload 18, 2) := by decide +kernel
theorem dL_acts_56 : decode cL_acts 56 = .ok (.ifCond .eq 17, 3) := by decide +kernel
theorem dL_acts_59 : decode cL_acts 59 = .ok (.aload 4, 2) := by decide +kernel
theorem dL_acts_61 : decode cL_acts 61 = .ok (.iload 16, 2) := by decide +kernel
theorem dL_acts_63 : decode cL_acts 63 = .ok (.iaload, 1) := by decide +kernel
theorem dL_acts_64 : decode cL_acts 64 = .ok (.bipush 8, 2) := by decide +kernel
theorem dL_acts_66 : decode cL_acts 66 = .ok (.idiv, 1) := by decide +kernel
theorem dL_acts_67 : decode cL_acts 67 = .ok (.bipush 8, 2) := by decide +kernel
theorem dL_acts_69 : decode cL_acts 69 = .ok (.irem, 1) := by decide +kernel
theorem dL_acts_70 : decode cL_acts 70 = .ok (.goto 19, 3) := by decide +kernel
theorem dL_acts_73 : decode cL_acts 73 = .ok (.aload 4, 2) := by decide +kernel
theorem dL_acts_75 : decode cL_acts 75 = .ok (.iload 16, 2) := by decide +kernel
theorem dL_acts_77 : decode cL_acts 77 = .ok (.iaload, 1) := by decide +kernel
theorem dL_acts_78 : decode cL_acts 78 = .ok (.bipush 64, 2) := by decide +kernel
theorem dL_acts_80 : decode cL_acts 80 = .ok (.idiv, 1) := by decide +kernel
theorem dL_acts_81 : decode cL_acts 81 = .ok (.bipush 8, 2) := by decide +kernel
theorem dL_acts_83 : decode cL_acts 83 = .ok (.irem, 1) := by decide +kernel
theorem dL_acts_84 : decode cL_acts 84 = .ok (.goto 5, 3) := by decide +kernel
theorem dL_acts_87 : decode cL_acts 87 = .ok (.iload 17, 2) := by decide +kernel
theorem dL_acts_89 : decode cL_acts 89 = .ok (.istore 17, 2) := by decide +kernel
theorem dL_acts_91 : decode cL_acts 91 = .ok (.iconst (-1), 1) := by decide +kernel
theorem dL_acts_92 : decode cL_acts 92 = .ok (.istore 19, 2) := by decide +kernel
theorem dL_acts_94 : decode cL_acts 94 = .ok (.iconst 0, 1) := by decide +kernel
theorem dL_acts_95 : decode cL_acts 95 = .ok (.istore 20, 2) := by decide +kernel
theorem dL_acts_97 : decode cL_acts 97 = .ok (.iload 20, 2) := by decide +kernel
theorem dL_acts_99 : decode cL_acts 99 = .ok (.aload 13, 2) := by decide +kernel
theorem dL_acts_101 : decode cL_acts 101 = .ok (.iconst 1, 1) := by decide +kernel
theorem dL_acts_102 : decode cL_acts 102 = .ok (.iaload, 1) := by decide +kernel
theorem dL_acts_103 : decode cL_acts 103 = .ok (.if_icmp .ge 57, 3) := by decide +kernel
theorem dL_acts_106 : decode cL_acts 106 = .ok (.iload_n 2, 1) := by decide +kernel
theorem dL_acts_107 : decode cL_acts 107 = .ok (.bipush 10, 2) := by decide +kernel
theorem dL_acts_109 : decode cL_acts 109 = .ok (.ishr, 1) := by decide +kernel
theorem dL_acts_110 : decode cL_acts 110 = .ok (.iconst 4, 1) := by decide +kernel
theorem dL_acts_111 : decode cL_acts 111 = .ok (.invokestatic 98, 3) := by decide +kernel
theorem dL_acts_114 : decode cL_acts 114 = .ok (.ifCond .le 46, 3) := by decide +kernel
theorem dL_acts_117 : decode cL_acts 117 = .ok (.aload 4, 2) := by decide +kernel
theorem dL_acts_119 : decode cL_acts 119 = .ok (.iload 20, 2) := by decide +kernel
theorem dL_acts_121 : decode cL_acts 121 = .ok (.iaload, 1) := by decide +kernel
theorem dL_acts_122 : decode cL_acts 122 = .ok (.bipush 8, 2) := by decide +kernel
theorem dL_acts_124 : decode cL_acts 124 = .ok (.irem, 1) := by decide +kernel
theorem dL_acts_125 : decode cL_acts 125 = .ok (.iconst 3, 1) := by decide +kernel
theorem dL_acts_126 : decode cL_acts 126 = .ok (.if_icmp .ne 24, 3) := by decide +kernel
theorem dL_acts_129 : decode cL_acts 129 = .ok (.aload 4, 2) := by decide +kernel
theorem dL_acts_131 : decode cL_acts 131 = .ok (.iload 20, 2) := by decide +kernel
theorem dL_acts_133 : decode cL_acts 133 = .ok (.iaload, 1) := by decide +kernel
theorem dL_acts_134 : decode cL_acts 134 = .ok (.bipush 64, 2) := by decide +kernel
theorem dL_acts_136 : decode cL_acts 136 = .ok (.idiv, 1) := by decide +kernel
theorem dL_acts_137 : decode cL_acts 137 = .ok (.bipush 8, 2) := by decide +kernel
theorem dL_acts_139 : decode cL_acts 139 = .ok (.irem, 1) := by decide +kernel
theorem dL_acts_140 : decode cL_acts 140 = .ok (.iload 17, 2) := by decide +kernel
theorem dL_acts_142 : decode cL_acts 142 = .ok (.if_icmp .ne 8, 3) := by decide +kernel
theorem dL_acts_145 : decode cL_acts 145 = .ok (.iload 20, 2) := by decide +kernel
theorem dL_acts_147 : decode cL_acts 147 = .ok (.goto 5, 3) := by decide +kernel
theorem dL_acts_150 : decode cL_acts 150 = .ok (.iload 19, 2) := by decide +kernel
theorem dL_acts_152 : decode cL_acts 152 = .ok (.istore 19, 2) := by decide +kernel
theorem dL_acts_154 : decode cL_acts 154 = .ok (.iinc 20 1, 3) := by decide +kernel
theorem dL_acts_157 : decode cL_acts 157 = .ok (.goto (-60), 3) := by decide +kernel
theorem dL_acts_160 : decode cL_acts 160 = .ok (.aload_n 0, 1) := by decide +kernel
theorem dL_acts_161 : decode cL_acts 161 = .ok (.iconst 3, 1) := by decide +kernel
theorem dL_acts_162 : decode cL_acts 162 = .ok (.iload 16, 2) := by decide +kernel
theorem dL_acts_164 : decode cL_acts 164 = .ok (.iload 17, 2) := by decide +kernel
theorem dL_acts_166 : decode cL_acts 166 = .ok (.iload 18, 2) := by decide +kernel
theorem dL_acts_168 : decode cL_acts 168 = .ok (.ifCond .eq 7, 3) := by decide +kernel
theorem dL_acts_171 : decode cL_acts 171 = .ok (.iconst 1, 1) := by decide +kernel
theorem dL_acts_172 : decode cL_acts 172 = .ok (.goto 4, 3) := by decide +kernel
theorem dL_acts_175 : decode cL_acts 175 = .ok (.iconst 0, 1) := by decide +kernel
theorem dL_acts_176 : decode cL_acts 176 = .ok (.iload 19, 2) := by decide +kernel
theorem dL_acts_178 : decode cL_acts 178 = .ok (.iconst 0, 1) := by decide +kernel
theorem dL_acts_179 : decode cL_acts 179 = .ok (.iconst 0, 1) := by decide +kernel
theorem dL_acts_180 : decode cL_acts 180 = .ok (.invokestatic 101, 3) := by decide +kernel
theorem dL_acts_183 : decode cL_acts 183 = .ok (.iload 16, 2) := by decide +kernel
theorem dL_acts_185 : decode cL_acts 185 = .ok (.iload 17, 2) := by decide +kernel
theorem dL_acts_187 : decode cL_acts 187 = .ok (.iload 18, 2) := by decide +kernel
theorem dL_acts_189 : decode cL_acts 189 = .ok (.iload 19, 2) := by decide +kernel
theorem dL_acts_191 : decode cL_acts 191 = .ok (.aload_n 3, 1) := by decide +kernel
theorem dL_acts_192 : decode cL_acts 192 = .ok (.aload 4, 2) := by decide +kernel
theorem dL_acts_194 : decode cL_acts 194 = .ok (.aload 5, 2) := by decide +kernel
theorem dL_acts_196 : decode cL_acts 196 = .ok (.aload 6, 2) := by decide +kernel
theorem dL_acts_198 : decode cL_acts 198 = .ok (.aload 7, 2) := by decide +kernel
theorem dL_acts_200 : decode cL_acts 200 = .ok (.aload 8, 2) := by decide +kernel
theorem dL_acts_202 : decode cL_acts 202 = .ok (.aload 10, 2) := by decide +kernel
theorem dL_acts_204 : decode cL_acts 204 = .ok (.aload 13, 2) := by decide +kernel
theorem dL_acts_206 : decode cL_acts 206 = .ok (.invokestatic 105, 3) := by decide +kernel
theorem dL_acts_209 : decode cL_acts 209 = .ok (.if_icmp .ne 7, 3) := by decide +kernel
theorem dL_acts_212 : decode cL_acts 212 = .ok (.iconst 1, 1) := by decide +kernel
theorem dL_acts_213 : decode cL_acts 213 = .ok (.goto 4, 3) := by decide +kernel
theorem dL_acts_216 : decode cL_acts 216 = .ok (.iconst 0, 1) := by decide +kernel
theorem dL_acts_217 : decode cL_acts 217 = .ok (.ireturn, 1) := by decide +kernel
theorem dL_acts_218 : decode cL_acts 218 = .ok (.iload_n 1, 1) := by decide +kernel
theorem dL_acts_219 : decode cL_acts 219 = .ok (.bipush 8, 2) := by decide +kernel
theorem dL_acts_221 : decode cL_acts 221 = .ok (.if_icmp .ge 105, 3) := by decide +kernel
theorem dL_acts_224 : decode cL_acts 224 = .ok (.iload_n 1, 1) := by decide +kernel
theorem dL_acts_225 : decode cL_acts 225 = .ok (.bipush 7, 2) := by decide +kernel
theorem dL_acts_227 : decode cL_acts 227 = .ok (.if_icmp .ge 7, 3) := by decide +kernel
theorem dL_acts_230 : decode cL_acts 230 = .ok (.iconst 4, 1) := by decide +kernel
theorem dL_acts_231 : decode cL_acts 231 = .ok (.goto 5, 3) := by decide +kernel
theorem dL_acts_234 : decode cL_acts 234 = .ok (.bipush 16, 2) := by decide +kernel
theorem dL_acts_236 : decode cL_acts 236 = .ok (.istore 18, 2) := by decide +kernel
theorem dL_acts_238 : decode cL_acts 238 = .ok (.aload 8, 2) := by decide +kernel
theorem dL_acts_240 : decode cL_acts 240 = .ok (.iload 16, 2) := by decide +kernel
theorem dL_acts_242 : decode cL_acts 242 = .ok (.iaload, 1) := by decide +kernel
theorem dL_acts_243 : decode cL_acts 243 = .ok (.iconst 4, 1) := by decide +kernel
theorem dL_acts_244 : decode cL_acts 244 = .ok (.irem, 1) := by decide +kernel
theorem dL_acts_245 : decode cL_acts 245 = .ok (.ifCond .ne 18, 3) := by decide +kernel
theorem dL_acts_248 : decode cL_acts 248 = .ok (.aload 7, 2) := by decide +kernel
theorem dL_acts_250 : decode cL_acts 250 = .ok (.iload 16, 2) := by decide +kernel
theorem dL_acts_252 : decode cL_acts 252 = .ok (.iaload, 1) := by decide +kernel
theorem dL_acts_253 : decode cL_acts 253 = .ok (.iload 18, 2) := by decide +kernel
theorem dL_acts_255 : decode cL_acts 255 = .ok (.iand, 1) := by decide +kernel
theorem dL_acts_256 : decode cL_acts 256 = .ok (.ifCond .ne 7, 3) := by decide +kernel
theorem dL_acts_259 : decode cL_acts 259 = .ok (.iconst 1, 1) := by decide +kernel
theorem dL_acts_260 : decode cL_acts 260 = .ok (.goto 4, 3) := by decide +kernel
theorem dL_acts_263 : decode cL_acts 263 = .ok (.iconst 0, 1) := by decide +kernel
theorem dL_acts_264 : decode cL_acts 264 = .ok (.istore 19, 2) := by decide +kernel
theorem dL_acts_266 : decode cL_acts 266 = .ok (.aload 7, 2) := by decide +kernel
theorem dL_acts_268 : decode cL_acts 268 = .ok (.iload 16, 2) := by decide +kernel
theorem dL_acts_270 : decode cL_acts 270 = .ok (.dup2, 1) := by decide +kernel
theorem dL_acts_271 : decode cL_acts 271 = .ok (.iaload, 1) := by decide +kernel
theorem dL_acts_272 : decode cL_acts 272 = .ok (.iload 19, 2) := by decide +kernel
theorem dL_acts_274 : decode cL_acts 274 = .ok (.ifCond .eq 8, 3) := by decide +kernel
theorem dL_acts_277 : decode cL_acts 277 = .ok (.iload 18, 2) := by decide +kernel
theorem dL_acts_279 : decode cL_acts 279 = .ok (.goto 4, 3) := by decide +kernel
theorem dL_acts_282 : decode cL_acts 282 = .ok (.iconst 0, 1) := by decide +kernel
theorem dL_acts_283 : decode cL_acts 283 = .ok (.ior, 1) := by decide +kernel
theorem dL_acts_284 : decode cL_acts 284 = .ok (.iastore, 1) := by decide +kernel
theorem dL_acts_285 : decode cL_acts 285 = .ok (.aload_n 0, 1) := by decide +kernel
theorem dL_acts_286 : decode cL_acts 286 = .ok (.iconst 4, 1) := by decide +kernel
theorem dL_acts_287 : decode cL_acts 287 = .ok (.iload 16, 2) := by decide +kernel
theorem dL_acts_289 : decode cL_acts 289 = .ok (.iload 18, 2) := by decide +kernel
theorem dL_acts_291 : decode cL_acts 291 = .ok (.iconst 0, 1) := by decide +kernel
theorem dL_acts_292 : decode cL_acts 292 = .ok (.iconst 0, 1) := by decide +kernel
theorem dL_acts_293 : decode cL_acts 293 = .ok (.iconst 0, 1) := by decide +kernel
theorem dL_acts_294 : decode cL_acts 294 = .ok (.iconst 0, 1) := by decide +kernel
theorem dL_acts_295 : decode cL_acts 295 = .ok (.invokestatic 101, 3) := by decide +kernel
theorem dL_acts_298 : decode cL_acts 298 = .ok (.iload 19, 2) := by decide +kernel
theorem dL_acts_300 : decode cL_acts 300 = .ok (.ifCond .eq 14, 3) := by decide +kernel
theorem dL_acts_303 : decode cL_acts 303 = .ok (.aload 7, 2) := by decide +kernel
theorem dL_acts_305 : decode cL_acts 305 = .ok (.iload 16, 2) := by decide +kernel
theorem dL_acts_307 : decode cL_acts 307 = .ok (.iaload, 1) := by decide +kernel
theorem dL_acts_308 : decode cL_acts 308 = .ok (.bipush 32, 2) := by decide +kernel
theorem dL_acts_310 : decode cL_acts 310 = .ok (.irem, 1) := by decide +kernel
theorem dL_acts_311 : decode cL_acts 311 = .ok (.goto 6, 3) := by decide +kernel
theorem dL_acts_314 : decode cL_acts 314 = .ok (.sipush (-1003), 3) := by decide +kernel
theorem dL_acts_317 : decode cL_acts 317 = .ok (.if_icmp .ne 7, 3) := by decide +kernel
theorem dL_acts_320 : decode cL_acts 320 = .ok (.iconst 1, 1) := by decide +kernel
theorem dL_acts_321 : decode cL_acts 321 = .ok (.goto 4, 3) := by decide +kernel
theorem dL_acts_324 : decode cL_acts 324 = .ok (.iconst 0, 1) := by decide +kernel
theorem dL_acts_325 : decode cL_acts 325 = .ok (.ireturn, 1) := by decide +kernel
theorem dL_acts_326 : decode cL_acts 326 = .ok (.iload_n 1, 1) := by decide +kernel
theorem dL_acts_327 : decode cL_acts 327 = .ok (.bipush 11, 2) := by decide +kernel
theorem dL_acts_329 : decode cL_acts 329 = .ok (.if_icmp .ge 201, 3) := by decide +kernel
theorem dL_acts_332 : decode cL_acts 332 = .ok (.aload 4, 2) := by decide +kernel
theorem dL_acts_334 : decode cL_acts 334 = .ok (.iload 16, 2) := by decide +kernel
theorem dL_acts_336 : decode cL_acts 336 = .ok (.iaload, 1) := by decide +kernel
theorem dL_acts_337 : decode cL_acts 337 = .ok (.bipush 8, 2) := by decide +kernel
theorem dL_acts_339 : decode cL_acts 339 = .ok (.idiv, 1) := by decide +kernel
theorem dL_acts_340 : decode cL_acts 340 = .ok (.bipush 8, 2) := by decide +kernel
theorem dL_acts_342 : decode cL_acts 342 = .ok (.irem, 1) := by decide +kernel
theorem dL_acts_343 : decode cL_acts 343 = .ok (.istore 18, 2) := by decide +kernel
theorem dL_acts_345 : decode cL_acts 345 = .ok (.aload 4, 2) := by decide +kernel
theorem dL_acts_347 : decode cL_acts 347 = .ok (.iload 16, 2) := by decide +kernel
theorem dL_acts_349 : decode cL_acts 349 = .ok (.iaload, 1) := by decide +kernel
theorem dL_acts_350 : decode cL_acts 350 = .ok (.bipush 64, 2) := by decide +kernel
theorem dL_acts_352 : decode cL_acts 352 = .ok (.idiv, 1) := by decide +kernel
theorem dL_acts_353 : decode cL_acts 353 = .ok (.bipush 8, 2) := by decide +kernel
theorem dL_acts_355 : decode cL_acts 355 = .ok (.irem, 1) := by decide +kernel
theorem dL_acts_356 : decode cL_acts 356 = .ok (.istore 19, 2) := by decide +kernel
theorem dL_acts_358 : decode cL_acts 358 = .ok (.aload 8, 2) := by decide +kernel
theorem dL_acts_360 : decode cL_acts 360 = .ok (.iload 16, 2) := by decide +kernel
theorem dL_acts_362 : decode cL_acts 362 = .ok (.iaload, 1) := by decide +kernel
theorem dL_acts_363 : decode cL_acts 363 = .ok (.iconst 4, 1) := by decide +kernel
theorem dL_acts_364 : decode cL_acts 364 = .ok (.irem, 1) := by decide +kernel
theorem dL_acts_365 : decode cL_acts 365 = .ok (.ifCond .ne 69, 3) := by decide +kernel
theorem dL_acts_368 : decode cL_acts 368 = .ok (.iload 17, 2) := by decide +kernel
theorem dL_acts_370 : decode cL_acts 370 = .ok (.aload_n 3, 1) := by decide +kernel
theorem dL_acts_371 : decode cL_acts 371 = .ok (.aload 13, 2) := by decide +kernel
theorem dL_acts_373 : decode cL_acts 373 = .ok (.invokestatic 69, 3) := by decide +kernel
theorem dL_acts_376 : decode cL_acts 376 = .ok (.ifCond .eq 58, 3) := by decide +kernel
theorem dL_acts_379 : decode cL_acts 379 = .ok (.iload 17, 2) := by decide +kernel
theorem dL_acts_381 : decode cL_acts 381 = .ok (.iload 18, 2) := by decide +kernel
theorem dL_acts_383 : decode cL_acts 383 = .ok (.if_icmp .eq 51, 3) := by decide +kernel
theorem dL_acts_386 : decode cL_acts 386 = .ok (.iload 17, 2) := by decide +kernel
theorem dL_acts_388 : decode cL_acts 388 = .ok (.iload 19, 2) := by decide +kernel
theorem dL_acts_390 : decode cL_acts 390 = .ok (.if_icmp .eq 44, 3) := by decide +kernel
theorem dL_acts_393 : decode cL_acts 393 = .ok (.iload 17, 2) := by decide +kernel
theorem dL_acts_395 : decode cL_acts 395 = .ok (.iload 18, 2) := by decide +kernel
theorem dL_acts_397 : decode cL_acts 397 = .ok (.aload_n 3, 1) := by decide +kernel
theorem dL_acts_398 : decode cL_acts 398 = .ok (.invokestatic 89, 3) := by decide +kernel
theorem dL_acts_401 : decode cL_acts 401 = .ok (.ifCond .ne 33, 3) := by decide +kernel
theorem dL_acts_404 : decode cL_acts 404 = .ok (.iload 17, 2) := by decide +kernel
theorem dL_acts_406 : decode cL_acts 406 = .ok (.iload 19, 2) := by decide +kernel
theorem dL_acts_408 : decode cL_acts 408 = .ok (.aload_n 3, 1) := by decide +kernel
theorem dL_acts_409 : decode cL_acts 409 = .ok (.invokestatic 89, 3) := by decide +kernel
theorem dL_acts_412 : decode cL_acts 412 = .ok (.ifCond .ne 22, 3) := by decide +kernel
theorem dL_acts_415 : decode cL_acts 415 = .ok (.aload 7, 2) := by decide +kernel
theorem dL_acts_417 : decode cL_acts 417 = .ok (.iload 16, 2) := by decide +kernel
theorem dL_acts_419 : decode cL_acts 419 = .ok (.iaload, 1) := by decide +kernel
theorem dL_acts_420 : decode cL_acts 420 = .ok (.iconst 5, 1) := by decide +kernel
theorem dL_acts_421 : decode cL_acts 421 = .ok (.iload 17, 2) := by decide +kernel
theorem dL_acts_423 : decode cL_acts 423 = .ok (.iadd, 1) := by decide +kernel
theorem dL_acts_424 : decode cL_acts 424 = .ok (.ishr, 1) := by decide +kernel
theorem dL_acts_425 : decode cL_acts 425 = .ok (.iconst 1, 1) := by decide +kernel
theorem dL_acts_426 : decode cL_acts 426 = .ok (.iand, 1) := by decide +kernel
theorem dL_acts_427 : decode cL_acts 427 = .ok (.ifCond .ne 7, 3) := by decide +kernel
theorem dL_acts_430 : decode cL_acts 430 = .ok (.iconst 1, 1) := by decide +kernel
theorem dL_acts_431 : decode cL_acts 431 = .ok (.goto 4, 3) := by decide +kernel
theorem dL_acts_434 : decode cL_acts 434 = .ok (.iconst 0, 1) := by decide +kernel
theorem dL_acts_435 : decode cL_acts 435 = .ok (.istore 20, 2) := by decide +kernel
theorem dL_acts_437 : decode cL_acts 437 = .ok (.aload 7, 2) := by decide +kernel
theorem dL_acts_439 : decode cL_acts 439 = .ok (.iload 16, 2) := by decide +kernel
theorem dL_acts_441 : decode cL_acts 441 = .ok (.dup2, 1) := by decide +kernel
theorem dL_acts_442 : decode cL_acts 442 = .ok (.iaload, 1) := by decide +kernel
theorem dL_acts_443 : decode cL_acts 443 = .ok (.iload 20, 2) := by decide +kernel
theorem dL_acts_445 : decode cL_acts 445 = .ok (.ifCond .eq 19, 3) := by decide +kernel
theorem dL_acts_448 : decode cL_acts 448 = .ok (.aload 7, 2) := by decide +kernel
theorem dL_acts_450 : decode cL_acts 450 = .ok (.iload 16, 2) := by decide +kernel
theorem dL_acts_452 : decode cL_acts 452 = .ok (.iaload, 1) := by decide +kernel
theorem dL_acts_453 : decode cL_acts 453 = .ok (.bipush 32, 2) := by decide +kernel
theorem dL_acts_455 : decode cL_acts 455 = .ok (.idiv, 1) := by decide +kernel
theorem dL_acts_456 : decode cL_acts 456 = .ok (.ifCond .le 8, 3) := by decide +kernel
theorem dL_acts_459 : decode cL_acts 459 = .ok (.bipush 8, 2) := by decide +kernel
theorem dL_acts_461 : decode cL_acts 461 = .ok (.goto 4, 3) := by decide +kernel
theorem dL_acts_464 : decode cL_acts 464 = .ok (.iconst 0, 1) := by decide +kernel
theorem dL_acts_465 : decode cL_acts 465 = .ok (.ior, 1) := by decide +kernel
theorem dL_acts_466 : decode cL_acts 466 = .ok (.iastore, 1) := by decide +kernel
theorem dL_acts_467 : decode cL_acts 467 = .ok (.aload 7, 2) := by decide +kernel
theorem dL_acts_469 : decode cL_acts 469 = .ok (.iload 16, 2) := by decide +kernel
theorem dL_acts_471 : decode cL_acts 471 = .ok (.dup2, 1) := by decide +kernel
theorem dL_acts_472 : decode cL_acts 472 = .ok (.iaload, 1) := by decide +kernel
theorem dL_acts_473 : decode cL_acts 473 = .ok (.iload 20, 2) := by decide +kernel
theorem dL_acts_475 : decode cL_acts 475 = .ok (.ifCond .eq 11, 3) := by decide +kernel
theorem dL_acts_478 : decode cL_acts 478 = .ok (.bipush 32, 2) := by decide +kernel
theorem dL_acts_480 : decode cL_acts 480 = .ok (.iload 17, 2) := by decide +kernel
theorem dL_acts_482 : decode cL_acts 482 = .ok (.ishl, 1) := by decide +kernel
theorem dL_acts_483 : decode cL_acts 483 = .ok (.goto 4, 3) := by decide +kernel
theorem dL_acts_486 : decode cL_acts 486 = .ok (.iconst 0, 1) := by decide +kernel
theorem dL_acts_487 : decode cL_acts 487 = .ok (.ior, 1) := by decide +kernel
theorem dL_acts_488 : decode cL_acts 488 = .ok (.iastore, 1) := by decide +kernel
theorem dL_acts_489 : decode cL_acts 489 = .ok (.aload_n 0, 1) := by decide +kernel
theorem dL_acts_490 : decode cL_acts 490 = .ok (.iconst 5, 1) := by decide +kernel
theorem dL_acts_491 : decode cL_acts 491 = .ok (.iload 16, 2) := by decide +kernel
theorem dL_acts_493 : decode cL_acts 493 = .ok (.iload 17, 2) := by decide +kernel
theorem dL_acts_495 : decode cL_acts 495 = .ok (.iconst 0, 1) := by decide +kernel
theorem dL_acts_496 : decode cL_acts 496 = .ok (.iconst 0, 1) := by decide +kernel
theorem dL_acts_497 : decode cL_acts 497 = .ok (.iconst 0, 1) := by decide +kernel
theorem dL_acts_498 : decode cL_acts 498 = .ok (.iconst 0, 1) := by decide +kernel
theorem dL_acts_499 : decode cL_acts 499 = .ok (.invokestatic 101, 3) := by decide +kernel
theorem dL_acts_502 : decode cL_acts 502 = .ok (.iload 20, 2) := by decide +kernel
theorem dL_acts_504 : decode cL_acts 504 = .ok (.ifCond .eq 14, 3) := by decide +kernel
theorem dL_acts_507 : decode cL_acts 507 = .ok (.aload 7, 2) := by decide +kernel
theorem dL_acts_509 : decode cL_acts 509 = .ok (.iload 16, 2) := by decide +kernel
theorem dL_acts_511 : decode cL_acts 511 = .ok (.iaload, 1) := by decide +kernel
theorem dL_acts_512 : decode cL_acts 512 = .ok (.bipush 32, 2) := by decide +kernel
theorem dL_acts_514 : decode cL_acts 514 = .ok (.irem, 1) := by decide +kernel
theorem dL_acts_515 : decode cL_acts 515 = .ok (.goto 6, 3) := by decide +kernel
theorem dL_acts_518 : decode cL_acts 518 = .ok (.sipush (-1003), 3) := by decide +kernel
theorem dL_acts_521 : decode cL_acts 521 = .ok (.if_icmp .ne 7, 3) := by decide +kernel
theorem dL_acts_524 : decode cL_acts 524 = .ok (.iconst 1, 1) := by decide +kernel
theorem dL_acts_525 : decode cL_acts 525 = .ok (.goto 4, 3) := by decide +kernel
theorem dL_acts_528 : decode cL_acts 528 = .ok (.iconst 0, 1) := by decide +kernel
theorem dL_acts_529 : decode cL_acts 529 = .ok (.ireturn, 1) := by decide +kernel
theorem dL_acts_530 : decode cL_acts 530 = .ok (.iload_n 1, 1) := by decide +kernel
theorem dL_acts_531 : decode cL_acts 531 = .ok (.bipush 15, 2) := by decide +kernel
theorem dL_acts_533 : decode cL_acts 533 = .ok (.if_icmp .ge 45, 3) := by decide +kernel
theorem dL_acts_536 : decode cL_acts 536 = .ok (.aload_n 0, 1) := by decide +kernel
theorem dL_acts_537 : decode cL_acts 537 = .ok (.bipush 6, 2) := by decide +kernel
theorem dL_acts_539 : decode cL_acts 539 = .ok (.iload 16, 2) := by decide +kernel
theorem dL_acts_541 : decode cL_acts 541 = .ok (.iconst 0, 1) := by decide +kernel
theorem dL_acts_542 : decode cL_acts 542 = .ok (.iconst 0, 1) := by decide +kernel
theorem dL_acts_543 : decode cL_acts 543 = .ok (.iconst 0, 1) := by decide +kernel
theorem dL_acts_544 : decode cL_acts 544 = .ok (.iconst 0, 1) := by decide +kernel
theorem dL_acts_545 : decode cL_acts 545 = .ok (.iconst 0, 1) := by decide +kernel
theorem dL_acts_546 : decode cL_acts 546 = .ok (.invokestatic 101, 3) := by decide +kernel
theorem dL_acts_549 : decode cL_acts 549 = .ok (.iload 16, 2) := by decide +kernel
theorem dL_acts_551 : decode cL_acts 551 = .ok (.aload_n 3, 1) := by decide +kernel
theorem dL_acts_552 : decode cL_acts 552 = .ok (.aload 4, 2) := by decide +kernel
theorem dL_acts_554 : decode cL_acts 554 = .ok (.aload 7, 2) := by decide +kernel
theorem dL_acts_556 : decode cL_acts 556 = .ok (.aload 8, 2) := by decide +kernel
theorem dL_acts_558 : decode cL_acts 558 = .ok (.aload 9, 2) := by decide +kernel
theorem dL_acts_560 : decode cL_acts 560 = .ok (.aload 10, 2) := by decide +kernel
theorem dL_acts_562 : decode cL_acts 562 = .ok (.aload 12, 2) := by decide +kernel
theorem dL_acts_564 : decode cL_acts 564 = .ok (.aload 13, 2) := by decide +kernel
theorem dL_acts_566 : decode cL_acts 566 = .ok (.invokestatic 109, 3) := by decide +kernel
theorem dL_acts_569 : decode cL_acts 569 = .ok (.if_icmp .ne 7, 3) := by decide +kernel
theorem dL_acts_572 : decode cL_acts 572 = .ok (.iconst 1, 1) := by decide +kernel
theorem dL_acts_573 : decode cL_acts 573 = .ok (.goto 4, 3) := by decide +kernel
theorem dL_acts_576 : decode cL_acts 576 = .ok (.iconst 0, 1) := by decide +kernel
theorem dL_acts_577 : decode cL_acts 577 = .ok (.ireturn, 1) := by decide +kernel
theorem dL_acts_578 : decode cL_acts 578 = .ok (.iload_n 1, 1) := by decide +kernel
theorem dL_acts_579 : decode cL_acts 579 = .ok (.bipush 15, 2) := by decide +kernel
theorem dL_acts_581 : decode cL_acts 581 = .ok (.if_icmp .ne 170, 3) := by decide +kernel
theorem dL_acts_584 : decode cL_acts 584 = .ok (.iload_n 2, 1) := by decide +kernel
theorem dL_acts_585 : decode cL_acts 585 = .ok (.bipush 8, 2) := by decide +kernel
theorem dL_acts_587 : decode cL_acts 587 = .ok (.ishr, 1) := by decide +kernel
theorem dL_acts_588 : decode cL_acts 588 = .ok (.iconst 2, 1) := by decide +kernel
theorem dL_acts_589 : decode cL_acts 589 = .ok (.invokestatic 98, 3) := by decide +kernel
theorem dL_acts_592 : decode cL_acts 592 = .ok (.ifCond .ne 7, 3) := by decide +kernel
theorem dL_acts_595 : decode cL_acts 595 = .ok (.iconst 1, 1) := by decide +kernel
theorem dL_acts_596 : decode cL_acts 596 = .ok (.goto 4, 3) := by decide +kernel
theorem dL_acts_599 : decode cL_acts 599 = .ok (.iconst 0, 1) := by decide +kernel
theorem dL_acts_600 : decode cL_acts 600 = .ok (.istore 18, 2) := by decide +kernel
theorem dL_acts_602 : decode cL_acts 602 = .ok (.aload 4, 2) := by decide +kernel
theorem dL_acts_604 : decode cL_acts 604 = .ok (.iload 16, 2) := by decide +kernel
theorem dL_acts_606 : decode cL_acts 606 = .ok (.iaload, 1) := by decide +kernel
theorem dL_acts_607 : decode cL_acts 607 = .ok (.bipush 8, 2) := by decide +kernel
theorem dL_acts_609 : decode cL_acts 609 = .ok (.irem, 1) := by decide +kernel
theorem dL_acts_610 : decode cL_acts 610 = .ok (.iconst 3, 1) := by decide +kernel
theorem dL_acts_611 : decode cL_acts 611 = .ok (.if_icmp .ne 13, 3) := by decide +kernel
theorem dL_acts_614 : decode cL_acts 614 = .ok (.aload 8, 2) := by decide +kernel
theorem dL_acts_616 : decode cL_acts 616 = .ok (.iload 16, 2) := by decide +kernel
theorem dL_acts_618 : decode cL_acts 618 = .ok (.iaload, 1) := by decide +kernel
theorem dL_acts_619 : decode cL_acts 619 = .ok (.iconst 4, 1) := by decide +kernel
theorem dL_acts_620 : decode cL_acts 620 = .ok (.irem, 1) := by decide +kernel
theorem dL_acts_621 : decode cL_acts 621 = .ok (.ifCond .ne 37, 3) := by decide +kernel
theorem dL_acts_624 : decode cL_acts 624 = .ok (.aload_n 0, 1) := by decide +kernel
theorem dL_acts_625 : decode cL_acts 625 = .ok (.bipush 7, 2) := by decide +kernel
theorem dL_acts_627 : decode cL_acts 627 = .ok (.iload 16, 2) := by decide +kernel
theorem dL_acts_629 : decode cL_acts 629 = .ok (.iload 18, 2) := by decide +kernel
theorem dL_acts_631 : decode cL_acts 631 = .ok (.ifCond .eq 7, 3) := by decide +kernel
theorem dL_acts_634 : decode cL_acts 634 = .ok (.iconst 1, 1) := by decide +kernel
theorem dL_acts_635 : decode cL_acts 635 = .ok (.goto 4, 3) := by decide +kernel
theorem dL_acts_638 : decode cL_acts 638 = .ok (.iconst 0, 1) := by decide +kernel
theorem dL_acts_639 : decode cL_acts 639 = .ok (.iconst 0, 1) := by decide +kernel
theorem dL_acts_640 : decode cL_acts 640 = .ok (.iconst 0, 1) := by decide +kernel
theorem dL_acts_641 : decode cL_acts 641 = .ok (.iconst 0, 1) := by decide +kernel
theorem dL_acts_642 : decode cL_acts 642 = .ok (.iconst 0, 1) := by decide +kernel
theorem dL_acts_643 : decode cL_acts 643 = .ok (.invokestatic 101, 3) := by decide +kernel
theorem dL_acts_646 : decode cL_acts 646 = .ok (.sipush (-1003), 3) := by decide +kernel
theorem dL_acts_649 : decode cL_acts 649 = .ok (.if_icmp .ne 7, 3) := by decide +kernel
theorem dL_acts_652 : decode cL_acts 652 = .ok (.iconst 1, 1) := by decide +kernel
theorem dL_acts_653 : decode cL_acts 653 = .ok (.goto 4, 3) := by decide +kernel
theorem dL_acts_656 : decode cL_acts 656 = .ok (.iconst 0, 1) := by decide +kernel
theorem dL_acts_657 : decode cL_acts 657 = .ok (.ireturn, 1) := by decide +kernel
theorem dL_acts_658 : decode cL_acts 658 = .ok (.aload 8, 2) := by decide +kernel
theorem dL_acts_660 : decode cL_acts 660 = .ok (.iload 16, 2) := by decide +kernel
theorem dL_acts_662 : decode cL_acts 662 = .ok (.iaload, 1) := by decide +kernel
theorem dL_acts_663 : decode cL_acts 663 = .ok (.iconst 4, 1) := by decide +kernel
theorem dL_acts_664 : decode cL_acts 664 = .ok (.idiv, 1) := by decide +kernel
theorem dL_acts_665 : decode cL_acts 665 = .ok (.istore 19, 2) := by decide +kernel
theorem dL_acts_667 : decode cL_acts 667 = .ok (.aload 8, 2) := by decide +kernel
theorem dL_acts_669 : decode cL_acts 669 = .ok (.iload 16, 2) := by decide +kernel
theorem dL_acts_671 : decode cL_acts 671 = .ok (.dup2, 1) := by decide +kernel
theorem dL_acts_672 : decode cL_acts 672 = .ok (.iaload, 1) := by decide +kernel
theorem dL_acts_673 : decode cL_acts 673 = .ok (.iload 19, 2) := by decide +kernel
theorem dL_acts_675 : decode cL_acts 675 = .ok (.ifCond .ne 17, 3) := by decide +kernel
theorem dL_acts_678 : decode cL_acts 678 = .ok (.iload 18, 2) := by decide +kernel
theorem dL_acts_680 : decode cL_acts 680 = .ok (.ifCond .eq 8, 3) := by decide +kernel
theorem dL_acts_683 : decode cL_acts 683 = .ok (.bipush 8, 2) := by decide +kernel
theorem dL_acts_685 : decode cL_acts 685 = .ok (.goto 23, 3) := by decide +kernel
theorem dL_acts_688 : decode cL_acts 688 = .ok (.iconst 4, 1) := by decide +kernel
theorem dL_acts_689 : decode cL_acts 689 = .ok (.goto 19, 3) := by decide +kernel
theorem dL_acts_692 : decode cL_acts 692 = .ok (.iload 19, 2) := by decide +kernel
theorem dL_acts_694 : decode cL_acts 694 = .ok (.iconst 1, 1) := by decide +kernel
theorem dL_acts_695 : decode cL_acts 695 = .ok (.if_icmp .ne 12, 3) := by decide +kernel
theorem dL_acts_698 : decode cL_acts 698 = .ok (.iload 18, 2) := by decide +kernel
theorem dL_acts_700 : decode cL_acts 700 = .ok (.ifCond .eq 7, 3) := by decide +kernel
theorem dL_acts_703 : decode cL_acts 703 = .ok (.iconst 4, 1) := by decide +kernel
theorem dL_acts_704 : decode cL_acts 704 = .ok (.goto 4, 3) := by decide +kernel
theorem dL_acts_707 : decode cL_acts 707 = .ok (.iconst 0, 1) := by decide +kernel
theorem dL_acts_708 : decode cL_acts 708 = .ok (.iadd, 1) := by decide +kernel
theorem dL_acts_709 : decode cL_acts 709 = .ok (.iastore, 1) := by decide +kernel
theorem dL_acts_710 : decode cL_acts 710 = .ok (.aload_n 0, 1) := by decide +kernel
theorem dL_acts_711 : decode cL_acts 711 = .ok (.bipush 7, 2) := by decide +kernel
theorem dL_acts_713 : decode cL_acts 713 = .ok (.iload 16, 2) := by decide +kernel
theorem dL_acts_715 : decode cL_acts 715 = .ok (.iload 18, 2) := by decide +kernel
theorem dL_acts_717 : decode cL_acts 717 = .ok (.ifCond .eq 7, 3) := by decide +kernel
theorem dL_acts_720 : decode cL_acts 720 = .ok (.iconst 1, 1) := by decide +kernel
theorem dL_acts_721 : decode cL_acts 721 = .ok (.goto 4, 3) := by decide +kernel
theorem dL_acts_724 : decode cL_acts 724 = .ok (.iconst 0, 1) := by decide +kernel
theorem dL_acts_725 : decode cL_acts 725 = .ok (.iconst 0, 1) := by decide +kernel
theorem dL_acts_726 : decode cL_acts 726 = .ok (.iconst 0, 1) := by decide +kernel
theorem dL_acts_727 : decode cL_acts 727 = .ok (.iconst 0, 1) := by decide +kernel
theorem dL_acts_728 : decode cL_acts 728 = .ok (.iconst 0, 1) := by decide +kernel
theorem dL_acts_729 : decode cL_acts 729 = .ok (.invokestatic 101, 3) := by decide +kernel
theorem dL_acts_732 : decode cL_acts 732 = .ok (.iload 19, 2) := by decide +kernel
theorem dL_acts_734 : decode cL_acts 734 = .ok (.ifCond .le 7, 3) := by decide +kernel
theorem dL_acts_737 : decode cL_acts 737 = .ok (.iconst 1, 1) := by decide +kernel
theorem dL_acts_738 : decode cL_acts 738 = .ok (.goto 4, 3) := by decide +kernel
theorem dL_acts_741 : decode cL_acts 741 = .ok (.iconst 0, 1) := by decide +kernel
theorem dL_acts_742 : decode cL_acts 742 = .ok (.if_icmp .ne 7, 3) := by decide +kernel
theorem dL_acts_745 : decode cL_acts 745 = .ok (.iconst 1, 1) := by decide +kernel
theorem dL_acts_746 : decode cL_acts 746 = .ok (.goto 4, 3) := by decide +kernel
theorem dL_acts_749 : decode cL_acts 749 = .ok (.iconst 0, 1) := by decide +kernel
theorem dL_acts_750 : decode cL_acts 750 = .ok (.ireturn, 1) := by decide +kernel
theorem dL_acts_751 : decode cL_acts 751 = .ok (.iload_n 1, 1) := by decide +kernel
theorem dL_acts_752 : decode cL_acts 752 = .ok (.bipush 16, 2) := by decide +kernel
theorem dL_acts_754 : decode cL_acts 754 = .ok (.if_icmp .ne 106, 3) := by decide +kernel
theorem dL_acts_757 : decode cL_acts 757 = .ok (.aload 12, 2) := by decide +kernel
theorem dL_acts_759 : decode cL_acts 759 = .ok (.iload 16, 2) := by decide +kernel
theorem dL_acts_761 : decode cL_acts 761 = .ok (.iaload, 1) := by decide +kernel
theorem dL_acts_762 : decode cL_acts 762 = .ok (.invokestatic 79, 3) := by decide +kernel
theorem dL_acts_765 : decode cL_acts 765 = .ok (.iconst 1, 1) := by decide +kernel
theorem dL_acts_766 : decode cL_acts 766 = .ok (.iadd, 1) := by decide +kernel
theorem dL_acts_767 : decode cL_acts 767 = .ok (.istore 18, 2) := by decide +kernel
theorem dL_acts_769 : decode cL_acts 769 = .ok (.iload 18, 2) := by decide +kernel
theorem dL_acts_771 : decode cL_acts 771 = .ok (.bipush 7, 2) := by decide +kernel
theorem dL_acts_773 : decode cL_acts 773 = .ok (.if_icmp .le 5, 3) := by decide +kernel
theorem dL_acts_776 : decode cL_acts 776 = .ok (.iconst 1, 1) := by decide +kernel
theorem dL_acts_777 : decode cL_acts 777 = .ok (.ireturn, 1) := by decide +kernel
theorem dL_acts_778 : decode cL_acts 778 = .ok (.iload 18, 2) := by decide +kernel
theorem dL_acts_780 : decode cL_acts 780 = .ok (.ifCond .le 19, 3) := by decide +kernel
theorem dL_acts_783 : decode cL_acts 783 = .ok (.aload 12, 2) := by decide +kernel
theorem dL_acts_785 : decode cL_acts 785 = .ok (.iload 16, 2) := by decide +kernel
theorem dL_acts_787 : decode cL_acts 787 = .ok (.iaload, 1) := by decide +kernel
theorem dL_acts_788 : decode cL_acts 788 = .ok (.invokestatic 113, 3) := by decide +kernel
theorem dL_acts_791 : decode cL_acts 791 = .ok (.iconst 4, 1) := by decide +kernel
theorem dL_acts_792 : decode cL_acts 792 = .ok (.if_icmp .ge 7, 3) := by decide +kernel
theorem dL_acts_795 : decode cL_acts 795 = .ok (.iconst 1, 1) := by decide +kernel
theorem dL_acts_796 : decode cL_acts 796 = .ok (.goto 4, 3) := by decide +kernel
theorem dL_acts_799 : decode cL_acts 799 = .ok (.iconst 0, 1) := by decide +kernel
theorem dL_acts_800 : decode cL_acts 800 = .ok (.istore 19, 2) := by decide +kernel
theorem dL_acts_802 : decode cL_acts 802 = .ok (.aload 12, 2) := by decide +kernel
theorem dL_acts_804 : decode cL_acts 804 = .ok (.iload 16, 2) := by decide +kernel
theorem dL_acts_806 : decode cL_acts 806 = .ok (.dup2, 1) := by decide +kernel
theorem dL_acts_807 : decode cL_acts 807 = .ok (.iaload, 1) := by decide +kernel
theorem dL_acts_808 : decode cL_acts 808 = .ok (.iload 19, 2) := by decide +kernel
theorem dL_acts_810 : decode cL_acts 810 = .ok (.ifCond .eq 12, 3) := by decide +kernel
theorem dL_acts_813 : decode cL_acts 813 = .ok (.iconst 1, 1) := by decide +kernel
theorem dL_acts_814 : decode cL_acts 814 = .ok (.iconst 3, 1) := by decide +kernel
theorem dL_acts_815 : decode cL_acts 815 = .ok (.iload 18, 2) := by decide +kernel
theorem dL_acts_817 : decode cL_acts 817 = .ok (.imul, 1) := by decide +kernel
theorem dL_acts_818 : decode cL_acts 818 = .ok (.ishl, 1) := by decide +kernel
theorem dL_acts_819 : decode cL_acts 819 = .ok (.goto 4, 3) := by decide +kernel
theorem dL_acts_822 : decode cL_acts 822 = .ok (.iconst 0, 1) := by decide +kernel
theorem dL_acts_823 : decode cL_acts 823 = .ok (.iadd, 1) := by decide +kernel
theorem dL_acts_824 : decode cL_acts 824 = .ok (.iastore, 1) := by decide +kernel
theorem dL_acts_825 : decode cL_acts 825 = .ok (.aload_n 0, 1) := by decide +kernel
theorem dL_acts_826 : decode cL_acts 826 = .ok (.bipush 8, 2) := by decide +kernel
theorem dL_acts_828 : decode cL_acts 828 = .ok (.iload 16, 2) := by decide +kernel
theorem dL_acts_830 : decode cL_acts 830 = .ok (.iconst 0, 1) := by decide +kernel
theorem dL_acts_831 : decode cL_acts 831 = .ok (.iconst 0, 1) := by decide +kernel
theorem dL_acts_832 : decode cL_acts 832 = .ok (.iconst 0, 1) := by decide +kernel
theorem dL_acts_833 : decode cL_acts 833 = .ok (.iconst 0, 1) := by decide +kernel
theorem dL_acts_834 : decode cL_acts 834 = .ok (.iconst 0, 1) := by decide +kernel
theorem dL_acts_835 : decode cL_acts 835 = .ok (.invokestatic 101, 3) := by decide +kernel
theorem dL_acts_838 : decode cL_acts 838 = .ok (.iload 19, 2) := by decide +kernel
theorem dL_acts_840 : decode cL_acts 840 = .ok (.ifCond .eq 8, 3) := by decide +kernel
theorem dL_acts_843 : decode cL_acts 843 = .ok (.iload 18, 2) := by decide +kernel
theorem dL_acts_845 : decode cL_acts 845 = .ok (.goto 6, 3) := by decide +kernel
theorem dL_acts_848 : decode cL_acts 848 = .ok (.sipush (-1003), 3) := by decide +kernel
theorem dL_acts_851 : decode cL_acts 851 = .ok (.if_icmp .ne 7, 3) := by decide +kernel
theorem dL_acts_854 : decode cL_acts 854 = .ok (.iconst 1, 1) := by decide +kernel
theorem dL_acts_855 : decode cL_acts 855 = .ok (.goto 4, 3) := by decide +kernel
theorem dL_acts_858 : decode cL_acts 858 = .ok (.iconst 0, 1) := by decide +kernel
theorem dL_acts_859 : decode cL_acts 859 = .ok (.ireturn, 1) := by decide +kernel
theorem dL_acts_860 : decode cL_acts 860 = .ok (.iload_n 1, 1) := by decide +kernel
theorem dL_acts_861 : decode cL_acts 861 = .ok (.bipush 17, 2) := by decide +kernel
theorem dL_acts_863 : decode cL_acts 863 = .ok (.if_icmp .ne 77, 3) := by decide +kernel
theorem dL_acts_866 : decode cL_acts 866 = .ok (.aload 12, 2) := by decide +kernel
theorem dL_acts_868 : decode cL_acts 868 = .ok (.iload 16, 2) := by decide +kernel
theorem dL_acts_870 : decode cL_acts 870 = .ok (.iaload, 1) := by decide +kernel
theorem dL_acts_871 : decode cL_acts 871 = .ok (.invokestatic 79, 3) := by decide +kernel
theorem dL_acts_874 : decode cL_acts 874 = .ok (.istore 18, 2) := by decide +kernel
theorem dL_acts_876 : decode cL_acts 876 = .ok (.aload 12, 2) := by decide +kernel
theorem dL_acts_878 : decode cL_acts 878 = .ok (.iload 16, 2) := by decide +kernel
theorem dL_acts_880 : decode cL_acts 880 = .ok (.dup2, 1) := by decide +kernel
theorem dL_acts_881 : decode cL_acts 881 = .ok (.iaload, 1) := by decide +kernel
theorem dL_acts_882 : decode cL_acts 882 = .ok (.iload 18, 2) := by decide +kernel
theorem dL_acts_884 : decode cL_acts 884 = .ok (.ifCond .ge 7, 3) := by decide +kernel
theorem dL_acts_887 : decode cL_acts 887 = .ok (.iconst 0, 1) := by decide +kernel
theorem dL_acts_888 : decode cL_acts 888 = .ok (.goto 9, 3) := by decide +kernel
theorem dL_acts_891 : decode cL_acts 891 = .ok (.iconst 1, 1) := by decide +kernel
theorem dL_acts_892 : decode cL_acts 892 = .ok (.iconst 3, 1) := by decide +kernel
theorem dL_acts_893 : decode cL_acts 893 = .ok (.iload 18, 2) := by decide +kernel
theorem dL_acts_895 : decode cL_acts 895 = .ok (.imul, 1) := by decide +kernel
theorem dL_acts_896 : decode cL_acts 896 = .ok (.ishl, 1) := by decide +kernel
theorem dL_acts_897 : decode cL_acts 897 = .ok (.isub, 1) := by decide +kernel
theorem dL_acts_898 : decode cL_acts 898 = .ok (.iastore, 1) := by decide +kernel
theorem dL_acts_899 : decode cL_acts 899 = .ok (.aload_n 0, 1) := by decide +kernel
theorem dL_acts_900 : decode cL_acts 900 = .ok (.bipush 9, 2) := by decide +kernel
theorem dL_acts_902 : decode cL_acts 902 = .ok (.iload 16, 2) := by decide +kernel
theorem dL_acts_904 : decode cL_acts 904 = .ok (.iconst 0, 1) := by decide +kernel
theorem dL_acts_905 : decode cL_acts 905 = .ok (.iconst 0, 1) := by decide +kernel
theorem dL_acts_906 : decode cL_acts 906 = .ok (.iconst 0, 1) := by decide +kernel
theorem dL_acts_907 : decode cL_acts 907 = .ok (.iconst 0, 1) := by decide +kernel
theorem dL_acts_908 : decode cL_acts 908 = .ok (.iconst 0, 1) := by decide +kernel
theorem dL_acts_909 : decode cL_acts 909 = .ok (.invokestatic 101, 3) := by decide +kernel
theorem dL_acts_912 : decode cL_acts 912 = .ok (.iload 18, 2) := by decide +kernel
theorem dL_acts_914 : decode cL_acts 914 = .ok (.ifCond .ge 9, 3) := by decide +kernel
theorem dL_acts_917 : decode cL_acts 917 = .ok (.sipush (-1003), 3) := by decide +kernel
theorem dL_acts_920 : decode cL_acts 920 = .ok (.goto 11, 3) := by decide +kernel
theorem dL_acts_923 : decode cL_acts 923 = .ok (.aload 12, 2) := by decide +kernel
theorem dL_acts_925 : decode cL_acts 925 = .ok (.iload 16, 2) := by decide +kernel
theorem dL_acts_927 : decode cL_acts 927 = .ok (.iaload, 1) := by decide +kernel
theorem dL_acts_928 : decode cL_acts 928 = .ok (.invokestatic 79, 3) := by decide +kernel
theorem dL_acts_931 : decode cL_acts 931 = .ok (.if_icmp .ne 7, 3) := by decide +kernel
theorem dL_acts_934 : decode cL_acts 934 = .ok (.iconst 1, 1) := by decide +kernel
theorem dL_acts_935 : decode cL_acts 935 = .ok (.goto 4, 3) := by decide +kernel
theorem dL_acts_938 : decode cL_acts 938 = .ok (.iconst 0, 1) := by decide +kernel
theorem dL_acts_939 : decode cL_acts 939 = .ok (.ireturn, 1) := by decide +kernel
theorem dL_acts_940 : decode cL_acts 940 = .ok (.aload 13, 2) := by decide +kernel
theorem dL_acts_942 : decode cL_acts 942 = .ok (.iconst 3, 1) := by decide +kernel
theorem dL_acts_943 : decode cL_acts 943 = .ok (.iaload, 1) := by decide +kernel
theorem dL_acts_944 : decode cL_acts 944 = .ok (.bipush 25, 2) := by decide +kernel
theorem dL_acts_946 : decode cL_acts 946 = .ok (.if_icmp .gt 41, 3) := by decide +kernel
theorem dL_acts_949 : decode cL_acts 949 = .ok (.aload_n 0, 1) := by decide +kernel
theorem dL_acts_950 : decode cL_acts 950 = .ok (.bipush 10, 2) := by decide +kernel
theorem dL_acts_952 : decode cL_acts 952 = .ok (.iload 16, 2) := by decide +kernel
theorem dL_acts_954 : decode cL_acts 954 = .ok (.iconst 0, 1) := by decide +kernel
theorem dL_acts_955 : decode cL_acts 955 = .ok (.iconst 0, 1) := by decide +kernel
theorem dL_acts_956 : decode cL_acts 956 = .ok (.iconst 0, 1) := by decide +kernel
theorem dL_acts_957 : decode cL_acts 957 = .ok (.iconst 0, 1) := by decide +kernel
theorem dL_acts_958 : decode cL_acts 958 = .ok (.iconst 0, 1) := by decide +kernel
theorem dL_acts_959 : decode cL_acts 959 = .ok (.invokestatic 101, 3) := by decide +kernel
theorem dL_acts_962 : decode cL_acts 962 = .ok (.iload 16, 2) := by decide +kernel
theorem dL_acts_964 : decode cL_acts 964 = .ok (.aload_n 3, 1) := by decide +kernel
theorem dL_acts_965 : decode cL_acts 965 = .ok (.aload 4, 2) := by decide +kernel
theorem dL_acts_967 : decode cL_acts 967 = .ok (.aload 5, 2) := by decide +kernel
theorem dL_acts_969 : decode cL_acts 969 = .ok (.aload 8, 2) := by decide +kernel
theorem dL_acts_971 : decode cL_acts 971 = .ok (.aload 11, 2) := by decide +kernel
theorem dL_acts_973 : decode cL_acts 973 = .ok (.aload 12, 2) := by decide +kernel
theorem dL_acts_975 : decode cL_acts 975 = .ok (.aload 13, 2) := by decide +kernel
theorem dL_acts_977 : decode cL_acts 977 = .ok (.aload 14, 2) := by decide +kernel
theorem dL_acts_979 : decode cL_acts 979 = .ok (.aload 15, 2) := by decide +kernel
theorem dL_acts_981 : decode cL_acts 981 = .ok (.invokestatic 116, 3) := by decide +kernel
theorem dL_acts_984 : decode cL_acts 984 = .ok (.if_icmp .ne 7, 3) := by decide +kernel
theorem dL_acts_987 : decode cL_acts 987 = .ok (.iconst 1, 1) := by decide +kernel
theorem dL_acts_988 : decode cL_acts 988 = .ok (.goto 4, 3) := by decide +kernel
theorem dL_acts_991 : decode cL_acts 991 = .ok (.iconst 0, 1) := by decide +kernel
theorem dL_acts_992 : decode cL_acts 992 = .ok (.ireturn, 1) := by decide +kernel
theorem dL_same_0 : decode cL_same 0 = .ok (.aload_n 0, 1) := by decide +kernel
theorem dL_same_1 : decode cL_same 1 = .ok (.invokevirtual 120, 3) := by decide +kernel
theorem dL_same_4 : decode cL_same 4 = .ok (.aload 12, 2) := by decide +kernel
theorem dL_same_6 : decode cL_same 6 = .ok (.iconst 3, 1) := by decide +kernel
theorem dL_same_7 : decode cL_same 7 = .ok (.iaload, 1) := by decide +kernel
theorem dL_same_8 : decode cL_same 8 = .ok (.if_icmp .ne 20, 3) := by decide +kernel
theorem dL_same_11 : decode cL_same 11 = .ok (.aload_n 0, 1) := by decide +kernel
theorem dL_same_12 : decode cL_same 12 = .ok (.invokevirtual 124, 3) := by decide +kernel
theorem dL_same_15 : decode cL_same 15 = .ok (.aload 12, 2) := by decide +kernel
theorem dL_same_17 : decode cL_same 17 = .ok (.iconst 4, 1) := by decide +kernel
theorem dL_same_18 : decode cL_same 18 = .ok (.iaload, 1) := by decide +kernel
theorem dL_same_19 : decode cL_same 19 = .ok (.i2l, 1) := by decide +kernel
theorem dL_same_20 : decode cL_same 20 = .ok (.lcmp, 1) := by decide +kernel
theorem dL_same_21 : decode cL_same 21 = .ok (.ifCond .ne 7, 3) := by decide +kernel
theorem dL_same_24 : decode cL_same 24 = .ok (.iconst 1, 1) := by decide +kernel
theorem dL_same_25 : decode cL_same 25 = .ok (.goto 4, 3) := by decide +kernel
theorem dL_same_28 : decode cL_same 28 = .ok (.iconst 0, 1) := by decide +kernel
theorem dL_same_29 : decode cL_same 29 = .ok (.istore 15, 2) := by decide +kernel
theorem dL_same_31 : decode cL_same 31 = .ok (.iconst 0, 1) := by decide +kernel
theorem dL_same_32 : decode cL_same 32 = .ok (.istore 16, 2) := by decide +kernel
theorem dL_same_34 : decode cL_same 34 = .ok (.iload 16, 2) := by decide +kernel
theorem dL_same_36 : decode cL_same 36 = .ok (.bipush 6, 2) := by decide +kernel
theorem dL_same_38 : decode cL_same 38 = .ok (.if_icmp .ge 38, 3) := by decide +kernel
theorem dL_same_41 : decode cL_same 41 = .ok (.iload 15, 2) := by decide +kernel
theorem dL_same_43 : decode cL_same 43 = .ok (.ifCond .eq 33, 3) := by decide +kernel
theorem dL_same_46 : decode cL_same 46 = .ok (.aload_n 0, 1) := by decide +kernel
theorem dL_same_47 : decode cL_same 47 = .ok (.iload 16, 2) := by decide +kernel
theorem dL_same_49 : decode cL_same 49 = .ok (.invokevirtual 128, 3) := by decide +kernel
theorem dL_same_52 : decode cL_same 52 = .ok (.iload 16, 2) := by decide +kernel
theorem dL_same_54 : decode cL_same 54 = .ok (.aload_n 2, 1) := by decide +kernel
theorem dL_same_55 : decode cL_same 55 = .ok (.aload 12, 2) := by decide +kernel
theorem dL_same_57 : decode cL_same 57 = .ok (.invokestatic 69, 3) := by decide +kernel
theorem dL_same_60 : decode cL_same 60 = .ok (.if_icmp .ne 7, 3) := by decide +kernel
theorem dL_same_63 : decode cL_same 63 = .ok (.iconst 1, 1) := by decide +kernel
theorem dL_same_64 : decode cL_same 64 = .ok (.goto 4, 3) := by decide +kernel
theorem dL_same_67 : decode cL_same 67 = .ok (.iconst 0, 1) := by decide +kernel
theorem dL_same_68 : decode cL_same 68 = .ok (.istore 15, 2) := by decide +kernel
theorem dL_same_70 : decode cL_same 70 = .ok (.iinc 16 1, 3) := by decide +kernel
theorem dL_same_73 : decode cL_same 73 = .ok (.goto (-39), 3) := by decide +kernel
theorem dL_same_76 : decode cL_same 76 = .ok (.iconst 0, 1) := by decide +kernel
theorem dL_same_77 : decode cL_same 77 = .ok (.istore 16, 2) := by decide +kernel
theorem dL_same_79 : decode cL_same 79 = .ok (.iload 16, 2) := by decide +kernel
theorem dL_same_81 : decode cL_same 81 = .ok (.iconst 2, 1) := by decide +kernel
theorem dL_same_82 : decode cL_same 82 = .ok (.if_icmp .ge 236, 3) := by decide +kernel
theorem dL_same_85 : decode cL_same 85 = .ok (.iload 15, 2) := by decide +kernel
theorem dL_same_87 : decode cL_same 87 = .ok (.ifCond .eq 231, 3) := by decide +kernel
theorem dL_same_90 : decode cL_same 90 = .ok (.iconst 0, 1) := by decide +kernel
theorem dL_same_91 : decode cL_same 91 = .ok (.istore 17, 2) := by decide +kernel
theorem dL_same_93 : decode cL_same 93 = .ok (.iconst 0, 1) := by decide +kernel
theorem dL_same_94 : decode cL_same 94 = .ok (.istore 18, 2) := by decide +kernel
theorem dL_same_96 : decode cL_same 96 = .ok (.iload 18, 2) := by decide +kernel
theorem dL_same_98 : decode cL_same 98 = .ok (.bipush 7, 2) := by decide +kernel
theorem dL_same_100 : decode cL_same 100 = .ok (.if_icmp .ge 107, 3) := by decide +kernel
theorem dL_same_103 : decode cL_same 103 = .ok (.iload 15, 2) := by decide +kernel
theorem dL_same_105 : decode cL_same 105 = .ok (.ifCond .eq 102, 3) := by decide +kernel
theorem dL_same_108 : decode cL_same 108 = .ok (.aload 13, 2) := by decide +kernel
theorem dL_same_110 : decode cL_same 110 = .ok (.bipush 7, 2) := by decide +kernel
theorem dL_same_112 : decode cL_same 112 = .ok (.iload 16, 2) := by decide +kernel
theorem dL_same_114 : decode cL_same 114 = .ok (.imul, 1) := by decide +kernel
theorem dL_same_115 : decode cL_same 115 = .ok (.iload 18, 2) := by decide +kernel
theorem dL_same_117 : decode cL_same 117 = .ok (.iadd, 1) := by decide +kernel
theorem dL_same_118 : decode cL_same 118 = .ok (.laload, 1) := by decide +kernel
theorem dL_same_119 : decode cL_same 119 = .ok (.invokestatic 82, 3) := by decide +kernel
theorem dL_same_122 : decode cL_same 122 = .ok (.lstore 19, 2) := by decide +kernel
theorem dL_same_124 : decode cL_same 124 = .ok (.aload_n 0, 1) := by decide +kernel
theorem dL_same_125 : decode cL_same 125 = .ok (.iload 16, 2) := by decide +kernel
theorem dL_same_127 : decode cL_same 127 = .ok (.iload 18, 2) := by decide +kernel
theorem dL_same_129 : decode cL_same 129 = .ok (.bipush 6, 2) := by decide +kernel
theorem dL_same_131 : decode cL_same 131 = .ok (.if_icmp .ge 8, 3) := by decide +kernel
theorem dL_same_134 : decode cL_same 134 = .ok (.iload 18, 2) := by decide +kernel
theorem dL_same_136 : decode cL_same 136 = .ok (.goto 4, 3) := by decide +kernel
theorem dL_same_139 : decode cL_same 139 = .ok (.iconst (-1), 1) := by decide +kernel
theorem dL_same_140 : decode cL_same 140 = .ok (.iconst 1, 1) := by decide +kernel
theorem dL_same_141 : decode cL_same 141 = .ok (.invokevirtual 132, 3) := by decide +kernel
theorem dL_same_144 : decode cL_same 144 = .ok (.i2l, 1) := by decide +kernel
theorem dL_same_145 : decode cL_same 145 = .ok (.lload 19, 2) := by decide +kernel
theorem dL_same_147 : decode cL_same 147 = .ok (.lcmp, 1) := by decide +kernel
theorem dL_same_148 : decode cL_same 148 = .ok (.ifCond .ne 50, 3) := by decide +kernel
theorem dL_same_151 : decode cL_same 151 = .ok (.aload_n 0, 1) := by decide +kernel
theorem dL_same_152 : decode cL_same 152 = .ok (.iload 16, 2) := by decide +kernel
theorem dL_same_154 : decode cL_same 154 = .ok (.iload 18, 2) := by decide +kernel
theorem dL_same_156 : decode cL_same 156 = .ok (.bipush 6, 2) := by decide +kernel
theorem dL_same_158 : decode cL_same 158 = .ok (.if_icmp .ge 8, 3) := by decide +kernel
theorem dL_same_161 : decode cL_same 161 = .ok (.iload 18, 2) := by decide +kernel
theorem dL_same_163 : decode cL_same 163 = .ok (.goto 4, 3) := by decide +kernel
theorem dL_same_166 : decode cL_same 166 = .ok (.iconst (-1), 1) := by decide +kernel
theorem dL_same_167 : decode cL_same 167 = .ok (.iconst 0, 1) := by decide +kernel
theorem dL_same_168 : decode cL_same 168 = .ok (.invokevirtual 132, 3) := by decide +kernel
theorem dL_same_171 : decode cL_same 171 = .ok (.i2l, 1) := by decide +kernel
theorem dL_same_172 : decode cL_same 172 = .ok (.aload 13, 2) := by decide +kernel
theorem dL_same_174 : decode cL_same 174 = .ok (.bipush 7, 2) := by decide +kernel
theorem dL_same_176 : decode cL_same 176 = .ok (.iload 16, 2) := by decide +kernel
theorem dL_same_178 : decode cL_same 178 = .ok (.imul, 1) := by decide +kernel
theorem dL_same_179 : decode cL_same 179 = .ok (.iload 18, 2) := by decide +kernel
theorem dL_same_181 : decode cL_same 181 = .ok (.iadd, 1) := by decide +kernel
theorem dL_same_182 : decode cL_same 182 = .ok (.laload, 1) := by decide +kernel
theorem dL_same_183 : decode cL_same 183 = .ok (.ldc2_w 77, 3) := by decide +kernel
theorem dL_same_186 : decode cL_same 186 = .ok (.lload 19, 2) := by decide +kernel
theorem dL_same_188 : decode cL_same 188 = .ok (.ldiv, 1) := by decide +kernel
theorem dL_same_189 : decode cL_same 189 = .ok (.ldiv, 1) := by decide +kernel
theorem dL_same_190 : decode cL_same 190 = .ok (.lcmp, 1) := by decide +kernel
theorem dL_same_191 : decode cL_same 191 = .ok (.ifCond .ne 7, 3) := by decide +kernel
theorem dL_same_194 : decode cL_same 194 = .ok (.iconst 1, 1) := by decide +kernel
theorem dL_same_195 : decode cL_same 195 = .ok (.goto 4, 3) := by decide +kernel
theorem dL_same_198 : decode cL_same 198 = .ok (.iconst 0, 1) := by decide +kernel
theorem dL_same_199 : decode cL_same 199 = .ok (.istore 15, 2) := by decide +kernel
theorem dL_same_201 : decode cL_same 201 = .ok (.iinc 18 1, 3) := by decide +kernel
theorem dL_same_204 : decode cL_same 204 = .ok (.goto (-108), 3) := by decide +kernel
theorem dL_same_207 : decode cL_same 207 = .ok (.iconst 0, 1) := by decide +kernel
theorem dL_same_208 : decode cL_same 208 = .ok (.istore 18, 2) := by decide +kernel
theorem dL_same_210 : decode cL_same 210 = .ok (.iload 18, 2) := by decide +kernel
theorem dL_same_212 : decode cL_same 212 = .ok (.aload 12, 2) := by decide +kernel
theorem dL_same_214 : decode cL_same 214 = .ok (.iconst 3, 1) := by decide +kernel
theorem dL_same_215 : decode cL_same 215 = .ok (.iaload, 1) := by decide +kernel
theorem dL_same_216 : decode cL_same 216 = .ok (.if_icmp .ge 72, 3) := by decide +kernel
theorem dL_same_219 : decode cL_same 219 = .ok (.iload 15, 2) := by decide +kernel
theorem dL_same_221 : decode cL_same 221 = .ok (.ifCond .eq 67, 3) := by decide +kernel
theorem dL_same_224 : decode cL_same 224 = .ok (.aload 14, 2) := by decide +kernel
theorem dL_same_226 : decode cL_same 226 = .ok (.iload 18, 2) := by decide +kernel
theorem dL_same_228 : decode cL_same 228 = .ok (.iaload, 1) := by decide +kernel
theorem dL_same_229 : decode cL_same 229 = .ok (.bipush 8, 2) := by decide +kernel
theorem dL_same_231 : decode cL_same 231 = .ok (.irem, 1) := by decide +kernel
theorem dL_same_232 : decode cL_same 232 = .ok (.iconst 2, 1) := by decide +kernel
theorem dL_same_233 : decode cL_same 233 = .ok (.if_icmp .ne 49, 3) := by decide +kernel
theorem dL_same_236 : decode cL_same 236 = .ok (.aload 14, 2) := by decide +kernel
theorem dL_same_238 : decode cL_same 238 = .ok (.iload 18, 2) := by decide +kernel
theorem dL_same_240 : decode cL_same 240 = .ok (.iaload, 1) := by decide +kernel
theorem dL_same_241 : decode cL_same 241 = .ok (.sipush 512, 3) := by decide +kernel
theorem dL_same_244 : decode cL_same 244 = .ok (.idiv, 1) := by decide +kernel
theorem dL_same_245 : decode cL_same 245 = .ok (.iload 16, 2) := by decide +kernel
theorem dL_same_247 : decode cL_same 247 = .ok (.if_icmp .ne 35, 3) := by decide +kernel
theorem dL_same_250 : decode cL_same 250 = .ok (.aload_n 0, 1) := by decide +kernel
theorem dL_same_251 : decode cL_same 251 = .ok (.iload 16, 2) := by decide +kernel
theorem dL_same_253 : decode cL_same 253 = .ok (.iload 17, 2) := by decide +kernel
theorem dL_same_255 : decode cL_same 255 = .ok (.invokevirtual 136, 3) := by decide +kernel
theorem dL_same_258 : decode cL_same 258 = .ok (.aload 14, 2) := by decide +kernel
theorem dL_same_260 : decode cL_same 260 = .ok (.iload 18, 2) := by decide +kernel
theorem dL_same_262 : decode cL_same 262 = .ok (.iaload, 1) := by decide +kernel
theorem dL_same_263 : decode cL_same 263 = .ok (.bipush 8, 2) := by decide +kernel
theorem dL_same_265 : decode cL_same 265 = .ok (.idiv, 1) := by decide +kernel
theorem dL_same_266 : decode cL_same 266 = .ok (.bipush 64, 2) := by decide +kernel
theorem dL_same_268 : decode cL_same 268 = .ok (.irem, 1) := by decide +kernel
theorem dL_same_269 : decode cL_same 269 = .ok (.if_icmp .ne 7, 3) := by decide +kernel
theorem dL_same_272 : decode cL_same 272 = .ok (.iconst 1, 1) := by decide +kernel
theorem dL_same_273 : decode cL_same 273 = .ok (.goto 4, 3) := by decide +kernel
theorem dL_same_276 : decode cL_same 276 = .ok (.iconst 0, 1) := by decide +kernel
theorem dL_same_277 : decode cL_same 277 = .ok (.istore 15, 2) := by decide +kernel
theorem dL_same_279 : decode cL_same 279 = .ok (.iinc 17 1, 3) := by decide +kernel
theorem dL_same_282 : decode cL_same 282 = .ok (.iinc 18 1, 3) := by decide +kernel
theorem dL_same_285 : decode cL_same 285 = .ok (.goto (-75), 3) := by decide +kernel
theorem dL_same_288 : decode cL_same 288 = .ok (.iload 15, 2) := by decide +kernel
theorem dL_same_290 : decode cL_same 290 = .ok (.ifCond .eq 19, 3) := by decide +kernel
theorem dL_same_293 : decode cL_same 293 = .ok (.aload_n 0, 1) := by decide +kernel
theorem dL_same_294 : decode cL_same 294 = .ok (.iload 16, 2) := by decide +kernel
theorem dL_same_296 : decode cL_same 296 = .ok (.iload 17, 2) := by decide +kernel
theorem dL_same_298 : decode cL_same 298 = .ok (.invokevirtual 136, 3) := by decide +kernel
theorem dL_same_301 : decode cL_same 301 = .ok (.iconst (-1), 1) := by decide +kernel
theorem dL_same_302 : decode cL_same 302 = .ok (.if_icmp .ne 7, 3) := by decide +kernel
theorem dL_same_305 : decode cL_same 305 = .ok (.iconst 1, 1) := by decide +kernel
theorem dL_same_306 : decode cL_same 306 = .ok (.goto 4, 3) := by decide +kernel
theorem dL_same_309 : decode cL_same 309 = .ok (.iconst 0, 1) := by decide +kernel
theorem dL_same_310 : decode cL_same 310 = .ok (.istore 15, 2) := by decide +kernel
theorem dL_same_312 : decode cL_same 312 = .ok (.iinc 16 1, 3) := by decide +kernel
theorem dL_same_315 : decode cL_same 315 = .ok (.goto (-236), 3) := by decide +kernel
theorem dL_same_318 : decode cL_same 318 = .ok (.aload 12, 2) := by decide +kernel
theorem dL_same_320 : decode cL_same 320 = .ok (.iconst 3, 1) := by decide +kernel
theorem dL_same_321 : decode cL_same 321 = .ok (.iaload, 1) := by decide +kernel
theorem dL_same_322 : decode cL_same 322 = .ok (.ifCond .le 83, 3) := by decide +kernel
theorem dL_same_325 : decode cL_same 325 = .ok (.iload 15, 2) := by decide +kernel
theorem dL_same_327 : decode cL_same 327 = .ok (.ifCond .eq 78, 3) := by decide +kernel
theorem dL_same_330 : decode cL_same 330 = .ok (.iload_n 1, 1) := by decide +kernel
theorem dL_same_331 : decode cL_same 331 = .ok (.aload 12, 2) := by decide +kernel
theorem dL_same_333 : decode cL_same 333 = .ok (.iconst 3, 1) := by decide +kernel
theorem dL_same_334 : decode cL_same 334 = .ok (.iaload, 1) := by decide +kernel
theorem dL_same_335 : decode cL_same 335 = .ok (.invokestatic 98, 3) := by decide +kernel
theorem dL_same_338 : decode cL_same 338 = .ok (.istore 16, 2) := by decide +kernel
theorem dL_same_340 : decode cL_same 340 = .ok (.aload_n 0, 1) := by decide +kernel
theorem dL_same_341 : decode cL_same 341 = .ok (.iload 16, 2) := by decide +kernel
theorem dL_same_343 : decode cL_same 343 = .ok (.iconst 0, 1) := by decide +kernel
theorem dL_same_344 : decode cL_same 344 = .ok (.invokevirtual 139, 3) := by decide +kernel
theorem dL_same_347 : decode cL_same 347 = .ok (.aload 14, 2) := by decide +kernel
theorem dL_same_349 : decode cL_same 349 = .ok (.iload 16, 2) := by decide +kernel
theorem dL_same_351 : decode cL_same 351 = .ok (.iaload, 1) := by decide +kernel
theorem dL_same_352 : decode cL_same 352 = .ok (.bipush 8, 2) := by decide +kernel
theorem dL_same_354 : decode cL_same 354 = .ok (.irem, 1) := by decide +kernel
theorem dL_same_355 : decode cL_same 355 = .ok (.if_icmp .ne 47, 3) := by decide +kernel
theorem dL_same_358 : decode cL_same 358 = .ok (.aload_n 0, 1) := by decide +kernel
theorem dL_same_359 : decode cL_same 359 = .ok (.iload 16, 2) := by decide +kernel
theorem dL_same_361 : decode cL_same 361 = .ok (.iconst 1, 1) := by decide +kernel
theorem dL_same_362 : decode cL_same 362 = .ok (.invokevirtual 139, 3) := by decide +kernel
theorem dL_same_365 : decode cL_same 365 = .ok (.aload 14, 2) := by decide +kernel
theorem dL_same_367 : decode cL_same 367 = .ok (.iload 16, 2) := by decide +kernel
theorem dL_same_369 : decode cL_same 369 = .ok (.iaload, 1) := by decide +kernel
theorem dL_same_370 : decode cL_same 370 = .ok (.bipush 8, 2) := by decide +kernel
theorem dL_same_372 : decode cL_same 372 = .ok (.idiv, 1) := by decide +kernel
theorem dL_same_373 : decode cL_same 373 = .ok (.bipush 64, 2) := by decide +kernel
theorem dL_same_375 : decode cL_same 375 = .ok (.irem, 1) := by decide +kernel
theorem dL_same_376 : decode cL_same 376 = .ok (.if_icmp .ne 26, 3) := by decide +kernel
theorem dL_same_379 : decode cL_same 379 = .ok (.aload_n 0, 1) := by decide +kernel
theorem dL_same_380 : decode cL_same 380 = .ok (.iload 16, 2) := by decide +kernel
theorem dL_same_382 : decode cL_same 382 = .ok (.iconst 2, 1) := by decide +kernel
theorem dL_same_383 : decode cL_same 383 = .ok (.invokevirtual 139, 3) := by decide +kernel
theorem dL_same_386 : decode cL_same 386 = .ok (.aload 14, 2) := by decide +kernel
theorem dL_same_388 : decode cL_same 388 = .ok (.iload 16, 2) := by decide +kernel
theorem dL_same_390 : decode cL_same 390 = .ok (.iaload, 1) := by decide +kernel
theorem dL_same_391 : decode cL_same 391 = .ok (.sipush 512, 3) := by decide +kernel
theorem dL_same_394 : decode cL_same 394 = .ok (.idiv, 1) := by decide +kernel
theorem dL_same_395 : decode cL_same 395 = .ok (.if_icmp .ne 7, 3) := by decide +kernel
theorem dL_same_398 : decode cL_same 398 = .ok (.iconst 1, 1) := by decide +kernel
theorem dL_same_399 : decode cL_same 399 = .ok (.goto 4, 3) := by decide +kernel
theorem dL_same_402 : decode cL_same 402 = .ok (.iconst 0, 1) := by decide +kernel
theorem dL_same_403 : decode cL_same 403 = .ok (.istore 15, 2) := by decide +kernel
theorem dL_same_405 : decode cL_same 405 = .ok (.iconst 0, 1) := by decide +kernel
theorem dL_same_406 : decode cL_same 406 = .ok (.istore 16, 2) := by decide +kernel
theorem dL_same_408 : decode cL_same 408 = .ok (.iload 16, 2) := by decide +kernel
theorem dL_same_410 : decode cL_same 410 = .ok (.aload 12, 2) := by decide +kernel
theorem dL_same_412 : decode cL_same 412 = .ok (.iconst 1, 1) := by decide +kernel
theorem dL_same_413 : decode cL_same 413 = .ok (.iaload, 1) := by decide +kernel
theorem dL_same_414 : decode cL_same 414 = .ok (.if_icmp .ge 306, 3) := by decide +kernel
theorem dL_same_417 : decode cL_same 417 = .ok (.iload 15, 2) := by decide +kernel
theorem dL_same_419 : decode cL_same 419 = .ok (.ifCond .eq 301, 3) := by decide +kernel
theorem dL_same_422 : decode cL_same 422 = .ok (.aload 7, 2) := by decide +kernel
theorem dL_same_424 : decode cL_same 424 = .ok (.iload 16, 2) := by decide +kernel
theorem dL_same_426 : decode cL_same 426 = .ok (.iaload, 1) := by decide +kernel
theorem dL_same_427 : decode cL_same 427 = .ok (.iconst 4, 1) := by decide +kernel
theorem dL_same_428 : decode cL_same 428 = .ok (.irem, 1) := by decide +kernel
theorem dL_same_429 : decode cL_same 429 = .ok (.istore 17, 2) := by decide +kernel
theorem dL_same_431 : decode cL_same 431 = .ok (.aload 8, 2) := by decide +kernel
theorem dL_same_433 : decode cL_same 433 = .ok (.iload 16, 2) := by decide +kernel
theorem dL_same_435 : decode cL_same 435 = .ok (.iaload, 1) := by decide +kernel
theorem dL_same_436 : decode cL_same 436 = .ok (.bipush 9, 2) := by decide +kernel
theorem dL_same_438 : decode cL_same 438 = .ok (.if_icmp .le 7, 3) := by decide +kernel
theorem dL_same_441 : decode cL_same 441 = .ok (.iconst 2, 1) := by decide +kernel
theorem dL_same_442 : decode cL_same 442 = .ok (.goto 4, 3) := by decide +kernel
theorem dL_same_445 : decode cL_same 445 = .ok (.iconst 1, 1) := by decide +kernel
theorem dL_same_446 : decode cL_same 446 = .ok (.istore 18, 2) := by decide +kernel
theorem dL_same_448 : decode cL_same 448 = .ok (.aload_n 0, 1) := by decide +kernel
theorem dL_same_449 : decode cL_same 449 = .ok (.iload 16, 2) := by decide +kernel
theorem dL_same_451 : decode cL_same 451 = .ok (.iconst 0, 1) := by decide +kernel
theorem dL_same_452 : decode cL_same 452 = .ok (.invokevirtual 142, 3) := by decide +kernel
theorem dL_same_455 : decode cL_same 455 = .ok (.iload 17, 2) := by decide +kernel
theorem dL_same_457 : decode cL_same 457 = .ok (.if_icmp .ne 254, 3) := by decide +kernel
theorem dL_same_460 : decode cL_same 460 = .ok (.aload_n 0, 1) := by decide +kernel
theorem dL_same_461 : decode cL_same 461 = .ok (.iload 16, 2) := by decide +kernel
theorem dL_same_463 : decode cL_same 463 = .ok (.iconst 1, 1) := by decide +kernel
theorem dL_same_464 : decode cL_same 464 = .ok (.invokevirtual 142, 3) := by decide +kernel
theorem dL_same_467 : decode cL_same 467 = .ok (.aload_n 3, 1) := by decide +kernel
theorem dL_same_468 : decode cL_same 468 = .ok (.iload 16, 2) := by decide +kernel
theorem dL_same_470 : decode cL_same 470 = .ok (.iaload, 1) := by decide +kernel
theorem dL_same_471 : decode cL_same 471 = .ok (.bipush 8, 2) := by decide +kernel
theorem dL_same_473 : decode cL_same 473 = .ok (.irem, 1) := by decide +kernel
theorem dL_same_474 : decode cL_same 474 = .ok (.if_icmp .ne 237, 3) := by decide +kernel
theorem dL_same_477 : decode cL_same 477 = .ok (.aload_n 0, 1) := by decide +kernel
theorem dL_same_478 : decode cL_same 478 = .ok (.iload 16, 2) := by decide +kernel
theorem dL_same_480 : decode cL_same 480 = .ok (.iconst 2, 1) := by decide +kernel
theorem dL_same_481 : decode cL_same 481 = .ok (.invokevirtual 142, 3) := by decide +kernel
theorem dL_same_484 : decode cL_same 484 = .ok (.aload 6, 2) := by decide +kernel
theorem dL_same_486 : decode cL_same 486 = .ok (.iload 16, 2) := by decide +kernel
theorem dL_same_488 : decode cL_same 488 = .ok (.iaload, 1) := by decide +kernel
theorem dL_same_489 : decode cL_same 489 = .ok (.bipush 32, 2) := by decide +kernel
theorem dL_same_491 : decode cL_same 491 = .ok (.irem, 1) := by decide +kernel
theorem dL_same_492 : decode cL_same 492 = .ok (.if_icmp .ne 219, 3) := by decide +kernel
theorem dL_same_495 : decode cL_same 495 = .ok (.aload_n 0, 1) := by decide +kernel
theorem dL_same_496 : decode cL_same 496 = .ok (.iload 16, 2) := by decide +kernel
theorem dL_same_498 : decode cL_same 498 = .ok (.iconst 3, 1) := by decide +kernel
theorem dL_same_499 : decode cL_same 499 = .ok (.invokevirtual 142, 3) := by decide +kernel
theorem dL_same_502 : decode cL_same 502 = .ok (.aload 8, 2) := by decide +kernel
theorem dL_same_504 : decode cL_same 504 = .ok (.iload 16, 2) := by decide +kernel
theorem dL_same_506 : decode cL_same 506 = .ok (.iaload, 1) := by decide +kernel
theorem dL_same_507 : decode cL_same 507 = .ok (.if_icmp .ne 204, 3) := by decide +kernel
theorem dL_same_510 : decode cL_same 510 = .ok (.aload_n 0, 1) := by decide +kernel
theorem dL_same_511 : decode cL_same 511 = .ok (.iload 16, 2) := by decide +kernel
theorem dL_same_513 : decode cL_same 513 = .ok (.iconst 4, 1) := by decide +kernel
theorem dL_same_514 : decode cL_same 514 = .ok (.invokevirtual 142, 3) := by decide +kernel
theorem dL_same_517 : decode cL_same 517 = .ok (.iload 17, 2) := by decide +kernel
theorem dL_same_519 : decode cL_same 519 = .ok (.ifCond .ne 7, 3) := by decide +kernel
theorem dL_same_522 : decode cL_same 522 = .ok (.iconst (-1), 1) := by decide +kernel
theorem dL_same_523 : decode cL_same 523 = .ok (.goto 8, 3) := by decide +kernel
theorem dL_same_526 : decode cL_same 526 = .ok (.aload 9, 2) := by decide +kernel
theorem dL_same_528 : decode cL_same 528 = .ok (.iload 16, 2) := by decide +kernel
theorem dL_same_530 : decode cL_same 530 = .ok (.iaload, 1) := by decide +kernel
theorem dL_same_531 : decode cL_same 531 = .ok (.if_icmp .ne 180, 3) := by decide +kernel
theorem dL_same_534 : decode cL_same 534 = .ok (.aload_n 0, 1) := by decide +kernel
theorem dL_same_535 : decode cL_same 535 = .ok (.iload 16, 2) := by decide +kernel
theorem dL_same_537 : decode cL_same 537 = .ok (.iconst 5, 1) := by decide +kernel
theorem dL_same_538 : decode cL_same 538 = .ok (.invokevirtual 142, 3) := by decide +kernel
theorem dL_same_541 : decode cL_same 541 = .ok (.aload 10, 2) := by decide +kernel
theorem dL_same_543 : decode cL_same 543 = .ok (.iload 16, 2) := by decide +kernel
theorem dL_same_545 : decode cL_same 545 = .ok (.iaload, 1) := by decide +kernel
theorem dL_same_546 : decode cL_same 546 = .ok (.iconst 1, 1) := by decide +kernel
theorem dL_same_547 : decode cL_same 547 = .ok (.isub, 1) := by decide +kernel
theorem dL_same_548 : decode cL_same 548 = .ok (.if_icmp .ne 163, 3) := by decide +kernel
theorem dL_same_551 : decode cL_same 551 = .ok (.aload_n 0, 1) := by decide +kernel
theorem dL_same_552 : decode cL_same 552 = .ok (.iload 16, 2) := by decide +kernel
theorem dL_same_554 : decode cL_same 554 = .ok (.invokevirtual 145, 3) := by decide +kernel
theorem dL_same_557 : decode cL_same 557 = .ok (.aload 11, 2) := by decide +kernel
theorem dL_same_559 : decode cL_same 559 = .ok (.iload 16, 2) := by decide +kernel
theorem dL_same_561 : decode cL_same 561 = .ok (.iaload, 1) := by decide +kernel
theorem dL_same_562 : decode cL_same 562 = .ok (.invokestatic 79, 3) := by decide +kernel
theorem dL_same_565 : decode cL_same 565 = .ok (.if_icmp .ne 146, 3) := by decide +kernel
theorem dL_same_568 : decode cL_same 568 = .ok (.aload_n 0, 1) := by decide +kernel
theorem dL_same_569 : decode cL_same 569 = .ok (.iload 16, 2) := by decide +kernel
theorem dL_same_571 : decode cL_same 571 = .ok (.invokevirtual 148, 3) := by decide +kernel
theorem dL_same_574 : decode cL_same 574 = .ok (.aload_n 3, 1) := by decide +kernel
theorem dL_same_575 : decode cL_same 575 = .ok (.iload 16, 2) := by decide +kernel
theorem dL_same_577 : decode cL_same 577 = .ok (.iaload, 1) := by decide +kernel
theorem dL_same_578 : decode cL_same 578 = .ok (.bipush 8, 2) := by decide +kernel
theorem dL_same_580 : decode cL_same 580 = .ok (.irem, 1) := by decide +kernel
theorem dL_same_581 : decode cL_same 581 = .ok (.iconst 3, 1) := by decide +kernel
theorem dL_same_582 : decode cL_same 582 = .ok (.if_icmp .ne 27, 3) := by decide +kernel
theorem dL_same_585 : decode cL_same 585 = .ok (.iload 16, 2) := by decide +kernel
theorem dL_same_587 : decode cL_same 587 = .ok (.aload_n 2, 1) := by decide +kernel
theorem dL_same_588 : decode cL_same 588 = .ok (.aload_n 3, 1) := by decide +kernel
theorem dL_same_589 : decode cL_same 589 = .ok (.aload 4, 2) := by decide +kernel
theorem dL_same_591 : decode cL_same 591 = .ok (.aload 5, 2) := by decide +kernel
theorem dL_same_593 : decode cL_same 593 = .ok (.aload 7, 2) := by decide +kernel
theorem dL_same_595 : decode cL_same 595 = .ok (.aload 9, 2) := by decide +kernel
theorem dL_same_597 : decode cL_same 597 = .ok (.aload 12, 2) := by decide +kernel
theorem dL_same_599 : decode cL_same 599 = .ok (.invokestatic 73, 3) := by decide +kernel
theorem dL_same_602 : decode cL_same 602 = .ok (.ifCond .eq 7, 3) := by decide +kernel
theorem dL_same_605 : decode cL_same 605 = .ok (.iconst 1, 1) := by decide +kernel
theorem dL_same_606 : decode cL_same 606 = .ok (.goto 4, 3) := by decide +kernel
theorem dL_same_609 : decode cL_same 609 = .ok (.iconst 0, 1) := by decide +kernel
theorem dL_same_610 : decode cL_same 610 = .ok (.if_icmp .ne 101, 3) := by decide +kernel
theorem dL_same_613 : decode cL_same 613 = .ok (.aload_n 0, 1) := by decide +kernel
theorem dL_same_614 : decode cL_same 614 = .ok (.iload 16, 2) := by decide +kernel
theorem dL_same_616 : decode cL_same 616 = .ok (.iload 18, 2) := by decide +kernel
theorem dL_same_618 : decode cL_same 618 = .ok (.invokevirtual 151, 3) := by decide +kernel
theorem dL_same_621 : decode cL_same 621 = .ok (.bipush 48, 2) := by decide +kernel
theorem dL_same_623 : decode cL_same 623 = .ok (.aload 8, 2) := by decide +kernel
theorem dL_same_625 : decode cL_same 625 = .ok (.iload 16, 2) := by decide +kernel
theorem dL_same_627 : decode cL_same 627 = .ok (.iaload, 1) := by decide +kernel
theorem dL_same_628 : decode cL_same 628 = .ok (.bipush 10, 2) := by decide +kernel
theorem dL_same_630 : decode cL_same 630 = .ok (.irem, 1) := by decide +kernel
theorem dL_same_631 : decode cL_same 631 = .ok (.iadd, 1) := by decide +kernel
theorem dL_same_632 : decode cL_same 632 = .ok (.if_icmp .ne 79, 3) := by decide +kernel
theorem dL_same_635 : decode cL_same 635 = .ok (.aload_n 0, 1) := by decide +kernel
theorem dL_same_636 : decode cL_same 636 = .ok (.iload 16, 2) := by decide +kernel
theorem dL_same_638 : decode cL_same 638 = .ok (.iload 18, 2) := by decide +kernel
theorem dL_same_640 : decode cL_same 640 = .ok (.iconst 1, 1) := by decide +kernel
theorem dL_same_641 : decode cL_same 641 = .ok (.iadd, 1) := by decide +kernel
theorem dL_same_642 : decode cL_same 642 = .ok (.invokevirtual 151, 3) := by decide +kernel
theorem dL_same_645 : decode cL_same 645 = .ok (.iload 17, 2) := by decide +kernel
theorem dL_same_647 : decode cL_same 647 = .ok (.ifCond .ne 8, 3) := by decide +kernel
theorem dL_same_650 : decode cL_same 650 = .ok (.bipush 46, 2) := by decide +kernel
theorem dL_same_652 : decode cL_same 652 = .ok (.goto 5, 3) := by decide +kernel
theorem dL_same_655 : decode cL_same 655 = .ok (.bipush 44, 2) := by decide +kernel
theorem dL_same_657 : decode cL_same 657 = .ok (.if_icmp .ne 54, 3) := by decide +kernel
theorem dL_same_660 : decode cL_same 660 = .ok (.aload_n 0, 1) := by decide +kernel
theorem dL_same_661 : decode cL_same 661 = .ok (.iload 16, 2) := by decide +kernel
theorem dL_same_663 : decode cL_same 663 = .ok (.iload 18, 2) := by decide +kernel
theorem dL_same_665 : decode cL_same 665 = .ok (.iconst 2, 1) := by decide +kernel
theorem dL_same_666 : decode cL_same 666 = .ok (.iadd, 1) := by decide +kernel
theorem dL_same_667 : decode cL_same 667 = .ok (.invokevirtual 151, 3) := by decide +kernel
theorem dL_same_670 : decode cL_same 670 = .ok (.iload 17, 2) := by decide +kernel
theorem dL_same_672 : decode cL_same 672 = .ok (.ifCond .ne 8, 3) := by decide +kernel
theorem dL_same_675 : decode cL_same 675 = .ok (.bipush 46, 2) := by decide +kernel
theorem dL_same_677 : decode cL_same 677 = .ok (.goto 27, 3) := by decide +kernel
theorem dL_same_680 : decode cL_same 680 = .ok (.iload 17, 2) := by decide +kernel
theorem dL_same_682 : decode cL_same 682 = .ok (.iconst 1, 1) := by decide +kernel
theorem dL_same_683 : decode cL_same 683 = .ok (.if_icmp .ne 8, 3) := by decide +kernel
theorem dL_same_686 : decode cL_same 686 = .ok (.bipush 102, 2) := by decide +kernel
theorem dL_same_688 : decode cL_same 688 = .ok (.goto 16, 3) := by decide +kernel
theorem dL_same_691 : decode cL_same 691 = .ok (.iload 17, 2) := by decide +kernel
theorem dL_same_693 : decode cL_same 693 = .ok (.iconst 2, 1) := by decide +kernel
theorem dL_same_694 : decode cL_same 694 = .ok (.if_icmp .ne 8, 3) := by decide +kernel
theorem dL_same_697 : decode cL_same 697 = .ok (.bipush 108, 2) := by decide +kernel
theorem dL_same_699 : decode cL_same 699 = .ok (.goto 5, 3) := by decide +kernel
theorem dL_same_702 : decode cL_same 702 = .ok (.bipush 118, 2) := by decide +kernel
theorem dL_same_704 : decode cL_same 704 = .ok (.if_icmp .ne 7, 3) := by decide +kernel
theorem dL_same_707 : decode cL_same 707 = .ok (.iconst 1, 1) := by decide +kernel
theorem dL_same_708 : decode cL_same 708 = .ok (.goto 4, 3) := by decide +kernel
theorem dL_same_711 : decode cL_same 711 = .ok (.iconst 0, 1) := by decide +kernel
theorem dL_same_712 : decode cL_same 712 = .ok (.istore 15, 2) := by decide +kernel
theorem dL_same_714 : decode cL_same 714 = .ok (.iinc 16 1, 3) := by decide +kernel
theorem dL_same_717 : decode cL_same 717 = .ok (.goto (-309), 3) := by decide +kernel
theorem dL_same_720 : decode cL_same 720 = .ok (.iload 15, 2) := by decide +kernel
theorem dL_same_722 : decode cL_same 722 = .ok (.ireturn, 1) := by decide +kernel
theorem dL_law_0 : decode cL_law 0 = .ok (.new 11, 3) := by decide +kernel
theorem dL_law_3 : decode cL_law 3 = .ok (.dup, 1) := by decide +kernel
theorem dL_law_4 : decode cL_law 4 = .ok (.invokespecial 155, 3) := by decide +kernel
theorem dL_law_7 : decode cL_law 7 = .ok (.astore_n 1, 1) := by decide +kernel
theorem dL_law_8 : decode cL_law 8 = .ok (.bipush 40, 2) := by decide +kernel
theorem dL_law_10 : decode cL_law 10 = .ok (.newarray .int, 2) := by decide +kernel
theorem dL_law_12 : decode cL_law 12 = .ok (.astore_n 2, 1) := by decide +kernel
theorem dL_law_13 : decode cL_law 13 = .ok (.bipush 24, 2) := by decide +kernel
theorem dL_law_15 : decode cL_law 15 = .ok (.newarray .int, 2) := by decide +kernel
theorem dL_law_17 : decode cL_law 17 = .ok (.astore_n 3, 1) := by decide +kernel
theorem dL_law_18 : decode cL_law 18 = .ok (.bipush 24, 2) := by decide +kernel
theorem dL_law_20 : decode cL_law 20 = .ok (.newarray .int, 2) := by decide +kernel
theorem dL_law_22 : decode cL_law 22 = .ok (.astore 4, 2) := by decide +kernel
theorem dL_law_24 : decode cL_law 24 = .ok (.bipush 24, 2) := by decide +kernel
theorem dL_law_26 : decode cL_law 26 = .ok (.newarray .int, 2) := by decide +kernel
theorem dL_law_28 : decode cL_law 28 = .ok (.astore 5, 2) := by decide +kernel
theorem dL_law_30 : decode cL_law 30 = .ok (.bipush 24, 2) := by decide +kernel
theorem dL_law_32 : decode cL_law 32 = .ok (.newarray .int, 2) := by decide +kernel
theorem dL_law_34 : decode cL_law 34 = .ok (.astore 6, 2) := by decide +kernel
theorem dL_law_36 : decode cL_law 36 = .ok (.bipush 24, 2) := by decide +kernel
theorem dL_law_38 : decode cL_law 38 = .ok (.newarray .int, 2) := by decide +kernel
theorem dL_law_40 : decode cL_law 40 = .ok (.astore 7, 2) := by decide +kernel
theorem dL_law_42 : decode cL_law 42 = .ok (.bipush 24, 2) := by decide +kernel
theorem dL_law_44 : decode cL_law 44 = .ok (.newarray .int, 2) := by decide +kernel
theorem dL_law_46 : decode cL_law 46 = .ok (.astore 8, 2) := by decide +kernel
theorem dL_law_48 : decode cL_law 48 = .ok (.bipush 24, 2) := by decide +kernel
theorem dL_law_50 : decode cL_law 50 = .ok (.newarray .int, 2) := by decide +kernel
theorem dL_law_52 : decode cL_law 52 = .ok (.astore 9, 2) := by decide +kernel
theorem dL_law_54 : decode cL_law 54 = .ok (.bipush 24, 2) := by decide +kernel
theorem dL_law_56 : decode cL_law 56 = .ok (.newarray .int, 2) := by decide +kernel
theorem dL_law_58 : decode cL_law 58 = .ok (.astore 10, 2) := by decide +kernel
theorem dL_law_60 : decode cL_law 60 = .ok (.bipush 24, 2) := by decide +kernel
theorem dL_law_62 : decode cL_law 62 = .ok (.newarray .int, 2) := by decide +kernel
theorem dL_law_64 : decode cL_law 64 = .ok (.astore 11, 2) := by decide +kernel
theorem dL_law_66 : decode cL_law 66 = .ok (.iconst 5, 1) := by decide +kernel
theorem dL_law_67 : decode cL_law 67 = .ok (.newarray .int, 2) := by decide +kernel
theorem dL_law_69 : decode cL_law 69 = .ok (.astore 12, 2) := by decide +kernel
theorem dL_law_71 : decode cL_law 71 = .ok (.bipush 14, 2) := by decide +kernel
theorem dL_law_73 : decode cL_law 73 = .ok (.newarray .long, 2) := by decide +kernel
theorem dL_law_75 : decode cL_law 75 = .ok (.astore 13, 2) := by decide +kernel
theorem dL_law_77 : decode cL_law 77 = .ok (.bipush 32, 2) := by decide +kernel
theorem dL_law_79 : decode cL_law 79 = .ok (.newarray .int, 2) := by decide +kernel
theorem dL_law_81 : decode cL_law 81 = .ok (.astore 14, 2) := by decide +kernel
theorem dL_law_83 : decode cL_law 83 = .ok (.iconst 1, 1) := by decide +kernel
theorem dL_law_84 : decode cL_law 84 = .ok (.istore 15, 2) := by decide +kernel
theorem dL_law_86 : decode cL_law 86 = .ok (.iconst 0, 1) := by decide +kernel
theorem dL_law_87 : decode cL_law 87 = .ok (.istore 16, 2) := by decide +kernel
theorem dL_law_89 : decode cL_law 89 = .ok (.iload 16, 2) := by decide +kernel
theorem dL_law_91 : decode cL_law 91 = .ok (.bipush 6, 2) := by decide +kernel
theorem dL_law_93 : decode cL_law 93 = .ok (.if_icmp .ge 94, 3) := by decide +kernel
theorem dL_law_96 : decode cL_law 96 = .ok (.iload 16, 2) := by decide +kernel
theorem dL_law_98 : decode cL_law 98 = .ok (.iconst 4, 1) := by decide +kernel
theorem dL_law_99 : decode cL_law 99 = .ok (.if_icmp .ge 11, 3) := by decide +kernel
theorem dL_law_102 : decode cL_law 102 = .ok (.bipush 30, 2) := by decide +kernel
theorem dL_law_104 : decode cL_law 104 = .ok (.iload 16, 2) := by decide +kernel
theorem dL_law_106 : decode cL_law 106 = .ok (.iadd, 1) := by decide +kernel
theorem dL_law_107 : decode cL_law 107 = .ok (.goto 10, 3) := by decide +kernel
theorem dL_law_110 : decode cL_law 110 = .ok (.bipush 17, 2) := by decide +kernel
theorem dL_law_112 : decode cL_law 112 = .ok (.iload 16, 2) := by decide +kernel
theorem dL_law_114 : decode cL_law 114 = .ok (.iconst 2, 1) := by decide +kernel
theorem dL_law_115 : decode cL_law 115 = .ok (.irem, 1) := by decide +kernel
theorem dL_law_116 : decode cL_law 116 = .ok (.isub, 1) := by decide +kernel
theorem dL_law_117 : decode cL_law 117 = .ok (.istore 17, 2) := by decide +kernel
theorem dL_law_119 : decode cL_law 119 = .ok (.aload_n 2, 1) := by decide +kernel
theorem dL_law_120 : decode cL_law 120 = .ok (.iload 16, 2) := by decide +kernel
theorem dL_law_122 : decode cL_law 122 = .ok (.sipush 360, 3) := by decide +kernel
theorem dL_law_125 : decode cL_law 125 = .ok (.iload 17, 2) := by decide +kernel
theorem dL_law_127 : decode cL_law 127 = .ok (.imul, 1) := by decide +kernel
theorem dL_law_128 : decode cL_law 128 = .ok (.iastore, 1) := by decide +kernel
theorem dL_law_129 : decode cL_law 129 = .ok (.aload_n 2, 1) := by decide +kernel
theorem dL_law_130 : decode cL_law 130 = .ok (.bipush 8, 2) := by decide +kernel
theorem dL_law_132 : decode cL_law 132 = .ok (.iload 16, 2) := by decide +kernel
theorem dL_law_134 : decode cL_law 134 = .ok (.iadd, 1) := by decide +kernel
theorem dL_law_135 : decode cL_law 135 = .ok (.iload 16, 2) := by decide +kernel
theorem dL_law_137 : decode cL_law 137 = .ok (.iconst 2, 1) := by decide +kernel
theorem dL_law_138 : decode cL_law 138 = .ok (.if_icmp .ne 7, 3) := by decide +kernel
theorem dL_law_141 : decode cL_law 141 = .ok (.iconst 1, 1) := by decide +kernel
theorem dL_law_142 : decode cL_law 142 = .ok (.goto 4, 3) := by decide +kernel
theorem dL_law_145 : decode cL_law 145 = .ok (.iconst 0, 1) := by decide +kernel
theorem dL_law_146 : decode cL_law 146 = .ok (.iastore, 1) := by decide +kernel
theorem dL_law_147 : decode cL_law 147 = .ok (.iload 15, 2) := by decide +kernel
theorem dL_law_149 : decode cL_law 149 = .ok (.ifCond .eq 29, 3) := by decide +kernel
theorem dL_law_152 : decode cL_law 152 = .ok (.aload_n 1, 1) := by decide +kernel
theorem dL_law_153 : decode cL_law 153 = .ok (.iload 17, 2) := by decide +kernel
theorem dL_law_155 : decode cL_law 155 = .ok (.iload 16, 2) := by decide +kernel
theorem dL_law_157 : decode cL_law 157 = .ok (.iconst 2, 1) := by decide +kernel
theorem dL_law_158 : decode cL_law 158 = .ok (.if_icmp .ne 7, 3) := by decide +kernel
theorem dL_law_161 : decode cL_law 161 = .ok (.iconst 1, 1) := by decide +kernel
theorem dL_law_162 : decode cL_law 162 = .ok (.goto 4, 3) := by decide +kernel
theorem dL_law_165 : decode cL_law 165 = .ok (.iconst 0, 1) := by decide +kernel
theorem dL_law_166 : decode cL_law 166 = .ok (.invokevirtual 156, 3) := by decide +kernel
theorem dL_law_169 : decode cL_law 169 = .ok (.iload 16, 2) := by decide +kernel
theorem dL_law_171 : decode cL_law 171 = .ok (.if_icmp .ne 7, 3) := by decide +kernel
theorem dL_law_174 : decode cL_law 174 = .ok (.iconst 1, 1) := by decide +kernel
theorem dL_law_175 : decode cL_law 175 = .ok (.goto 4, 3) := by decide +kernel
theorem dL_law_178 : decode cL_law 178 = .ok (.iconst 0, 1) := by decide +kernel
theorem dL_law_179 : decode cL_law 179 = .ok (.istore 15, 2) := by decide +kernel
theorem dL_law_181 : decode cL_law 181 = .ok (.iinc 16 1, 3) := by decide +kernel
theorem dL_law_184 : decode cL_law 184 = .ok (.goto (-95), 3) := by decide +kernel
theorem dL_law_187 : decode cL_law 187 = .ok (.aload 13, 2) := by decide +kernel
theorem dL_law_189 : decode cL_law 189 = .ok (.iconst 0, 1) := by decide +kernel
theorem dL_law_190 : decode cL_law 190 = .ok (.ldc2_w 77, 3) := by decide +kernel
theorem dL_law_193 : decode cL_law 193 = .ok (.lastore, 1) := by decide +kernel
theorem dL_law_194 : decode cL_law 194 = .ok (.aload 13, 2) := by decide +kernel
theorem dL_law_196 : decode cL_law 196 = .ok (.bipush 8, 2) := by decide +kernel
theorem dL_law_198 : decode cL_law 198 = .ok (.ldc2_w 77, 3) := by decide +kernel
theorem dL_law_201 : decode cL_law 201 = .ok (.lastore, 1) := by decide +kernel
theorem dL_law_202 : decode cL_law 202 = .ok (.iload 15, 2) := by decide +kernel
theorem dL_law_204 : decode cL_law 204 = .ok (.ifCond .eq 29, 3) := by decide +kernel
theorem dL_law_207 : decode cL_law 207 = .ok (.aload_n 1, 1) := by decide +kernel
theorem dL_law_208 : decode cL_law 208 = .ok (.iconst 0, 1) := by decide +kernel
theorem dL_law_209 : decode cL_law 209 = .ok (.sipush 999, 3) := by decide +kernel
theorem dL_law_212 : decode cL_law 212 = .ok (.invokevirtual 160, 3) := by decide +kernel
theorem dL_law_215 : decode cL_law 215 = .ok (.ifCond .ne 18, 3) := by decide +kernel
theorem dL_law_218 : decode cL_law 218 = .ok (.aload_n 1, 1) := by decide +kernel
theorem dL_law_219 : decode cL_law 219 = .ok (.iconst 1, 1) := by decide +kernel
theorem dL_law_220 : decode cL_law 220 = .ok (.ldc 88, 2) := by decide +kernel
theorem dL_law_222 : decode cL_law 222 = .ok (.invokevirtual 160, 3) := by decide +kernel
theorem dL_law_225 : decode cL_law 225 = .ok (.iconst 1, 1) := by decide +kernel
theorem dL_law_226 : decode cL_law 226 = .ok (.if_icmp .ne 7, 3) := by decide +kernel
theorem dL_law_229 : decode cL_law 229 = .ok (.iconst 1, 1) := by decide +kernel
theorem dL_law_230 : decode cL_law 230 = .ok (.goto 4, 3) := by decide +kernel
theorem dL_law_233 : decode cL_law 233 = .ok (.iconst 0, 1) := by decide +kernel
theorem dL_law_234 : decode cL_law 234 = .ok (.istore 15, 2) := by decide +kernel
theorem dL_law_236 : decode cL_law 236 = .ok (.iconst 0, 1) := by decide +kernel
theorem dL_law_237 : decode cL_law 237 = .ok (.istore 16, 2) := by decide +kernel
theorem dL_law_239 : decode cL_law 239 = .ok (.iload 16, 2) := by decide +kernel
theorem dL_law_241 : decode cL_law 241 = .ok (.sipush 130, 3) := by decide +kernel
theorem dL_law_244 : decode cL_law 244 = .ok (.if_icmp .ge 773, 3) := by decide +kernel
theorem dL_law_247 : decode cL_law 247 = .ok (.iload 15, 2) := by decide +kernel
theorem dL_law_249 : decode cL_law 249 = .ok (.ifCond .eq 768, 3) := by decide +kernel
theorem dL_law_252 : decode cL_law 252 = .ok (.aload_n 0, 1) := by decide +kernel
theorem dL_law_253 : decode cL_law 253 = .ok (.iload 16, 2) := by decide +kernel
theorem dL_law_255 : decode cL_law 255 = .ok (.invokestatic 163, 3) := by decide +kernel
theorem dL_law_258 : decode cL_law 258 = .ok (.istore 17, 2) := by decide +kernel
theorem dL_law_260 : decode cL_law 260 = .ok (.iload 17, 2) := by decide +kernel
theorem dL_law_262 : decode cL_law 262 = .ok (.bipush 32, 2) := by decide +kernel
theorem dL_law_264 : decode cL_law 264 = .ok (.invokestatic 98, 3) := by decide +kernel
theorem dL_law_267 : decode cL_law 267 = .ok (.istore 18, 2) := by decide +kernel
theorem dL_law_269 : decode cL_law 269 = .ok (.iload 17, 2) := by decide +kernel
theorem dL_law_271 : decode cL_law 271 = .ok (.iconst 5, 1) := by decide +kernel
theorem dL_law_272 : decode cL_law 272 = .ok (.ishr, 1) := by decide +kernel
theorem dL_law_273 : decode cL_law 273 = .ok (.istore 19, 2) := by decide +kernel
theorem dL_law_275 : decode cL_law 275 = .ok (.iload 18, 2) := by decide +kernel
theorem dL_law_277 : decode cL_law 277 = .ok (.iconst 5, 1) := by decide +kernel
theorem dL_law_278 : decode cL_law 278 = .ok (.if_icmp .lt 10, 3) := by decide +kernel
theorem dL_law_281 : decode cL_law 281 = .ok (.aload 12, 2) := by decide +kernel
theorem dL_law_283 : decode cL_law 283 = .ok (.iconst 1, 1) := by decide +kernel
theorem dL_law_284 : decode cL_law 284 = .ok (.iaload, 1) := by decide +kernel
theorem dL_law_285 : decode cL_law 285 = .ok (.ifCond .ne 37, 3) := by decide +kernel
theorem dL_law_288 : decode cL_law 288 = .ok (.aload 12, 2) := by decide +kernel
theorem dL_law_290 : decode cL_law 290 = .ok (.iconst 1, 1) := by decide +kernel
theorem dL_law_291 : decode cL_law 291 = .ok (.iaload, 1) := by decide +kernel
theorem dL_law_292 : decode cL_law 292 = .ok (.bipush 24, 2) := by decide +kernel
theorem dL_law_294 : decode cL_law 294 = .ok (.if_icmp .eq 18, 3) := by decide +kernel
theorem dL_law_297 : decode cL_law 297 = .ok (.aload_n 1, 1) := by decide +kernel
theorem dL_law_298 : decode cL_law 298 = .ok (.iload 19, 2) := by decide +kernel
theorem dL_law_300 : decode cL_law 300 = .ok (.aload_n 2, 1) := by decide +kernel
theorem dL_law_301 : decode cL_law 301 = .ok (.aload_n 3, 1) := by decide +kernel
theorem dL_law_302 : decode cL_law 302 = .ok (.aload 4, 2) := by decide +kernel
theorem dL_law_304 : decode cL_law 304 = .ok (.aload 12, 2) := by decide +kernel
theorem dL_law_306 : decode cL_law 306 = .ok (.invokestatic 167, 3) := by decide +kernel
theorem dL_law_309 : decode cL_law 309 = .ok (.ifCond .eq 7, 3) := by decide +kernel
theorem dL_law_312 : decode cL_law 312 = .ok (.iconst 1, 1) := by decide +kernel
theorem dL_law_313 : decode cL_law 313 = .ok (.goto 4, 3) := by decide +kernel
theorem dL_law_316 : decode cL_law 316 = .ok (.iconst 0, 1) := by decide +kernel
theorem dL_law_317 : decode cL_law 317 = .ok (.istore 15, 2) := by decide +kernel
theorem dL_law_319 : decode cL_law 319 = .ok (.goto 645, 3) := by decide +kernel
theorem dL_law_322 : decode cL_law 322 = .ok (.iload 18, 2) := by decide +kernel
theorem dL_law_324 : decode cL_law 324 = .ok (.bipush 24, 2) := by decide +kernel
theorem dL_law_326 : decode cL_law 326 = .ok (.if_icmp .ge 42, 3) := by decide +kernel
theorem dL_law_329 : decode cL_law 329 = .ok (.aload_n 1, 1) := by decide +kernel
theorem dL_law_330 : decode cL_law 330 = .ok (.iload 18, 2) := by decide +kernel
theorem dL_law_332 : decode cL_law 332 = .ok (.iconst 5, 1) := by decide +kernel
theorem dL_law_333 : decode cL_law 333 = .ok (.isub, 1) := by decide +kernel
theorem dL_law_334 : decode cL_law 334 = .ok (.iload 19, 2) := by decide +kernel
theorem dL_law_336 : decode cL_law 336 = .ok (.aload_n 2, 1) := by decide +kernel
theorem dL_law_337 : decode cL_law 337 = .ok (.aload_n 3, 1) := by decide +kernel
theorem dL_law_338 : decode cL_law 338 = .ok (.aload 4, 2) := by decide +kernel
theorem dL_law_340 : decode cL_law 340 = .ok (.aload 5, 2) := by decide +kernel
theorem dL_law_342 : decode cL_law 342 = .ok (.aload 6, 2) := by decide +kernel
theorem dL_law_344 : decode cL_law 344 = .ok (.aload 7, 2) := by decide +kernel
theorem dL_law_346 : decode cL_law 346 = .ok (.aload 8, 2) := by decide +kernel
theorem dL_law_348 : decode cL_law 348 = .ok (.aload 9, 2) := by decide +kernel
theorem dL_law_350 : decode cL_law 350 = .ok (.aload 10, 2) := by decide +kernel
theorem dL_law_352 : decode cL_law 352 = .ok (.aload 11, 2) := by decide +kernel
theorem dL_law_354 : decode cL_law 354 = .ok (.aload 12, 2) := by decide +kernel
theorem dL_law_356 : decode cL_law 356 = .ok (.aload 13, 2) := by decide +kernel
theorem dL_law_358 : decode cL_law 358 = .ok (.aload 14, 2) := by decide +kernel
theorem dL_law_360 : decode cL_law 360 = .ok (.invokestatic 171, 3) := by decide +kernel
theorem dL_law_363 : decode cL_law 363 = .ok (.istore 15, 2) := by decide +kernel
theorem dL_law_365 : decode cL_law 365 = .ok (.goto 599, 3) := by decide +kernel
theorem dL_law_368 : decode cL_law 368 = .ok (.iload 18, 2) := by decide +kernel
theorem dL_law_370 : decode cL_law 370 = .ok (.bipush 26, 2) := by decide +kernel
theorem dL_law_372 : decode cL_law 372 = .ok (.if_icmp .ge 229, 3) := by decide +kernel
theorem dL_law_375 : decode cL_law 375 = .ok (.iload 19, 2) := by decide +kernel
theorem dL_law_377 : decode cL_law 377 = .ok (.bipush 6, 2) := by decide +kernel
theorem dL_law_379 : decode cL_law 379 = .ok (.invokestatic 98, 3) := by decide +kernel
theorem dL_law_382 : decode cL_law 382 = .ok (.istore 20, 2) := by decide +kernel
theorem dL_law_384 : decode cL_law 384 = .ok (.iload 19, 2) := by decide +kernel
theorem dL_law_386 : decode cL_law 386 = .ok (.iconst 3, 1) := by decide +kernel
theorem dL_law_387 : decode cL_law 387 = .ok (.ishr, 1) := by decide +kernel
theorem dL_law_388 : decode cL_law 388 = .ok (.bipush 8, 2) := by decide +kernel
theorem dL_law_390 : decode cL_law 390 = .ok (.invokestatic 98, 3) := by decide +kernel
theorem dL_law_393 : decode cL_law 393 = .ok (.istore 21, 2) := by decide +kernel
theorem dL_law_395 : decode cL_law 395 = .ok (.iload 21, 2) := by decide +kernel
theorem dL_law_397 : decode cL_law 397 = .ok (.iload 20, 2) := by decide +kernel
theorem dL_law_399 : decode cL_law 399 = .ok (.if_icmp .eq 112, 3) := by decide +kernel
theorem dL_law_402 : decode cL_law 402 = .ok (.iload 21, 2) := by decide +kernel
theorem dL_law_404 : decode cL_law 404 = .ok (.bipush 6, 2) := by decide +kernel
theorem dL_law_406 : decode cL_law 406 = .ok (.if_icmp .ge 105, 3) := by decide +kernel
theorem dL_law_409 : decode cL_law 409 = .ok (.aload_n 2, 1) := by decide +kernel
theorem dL_law_410 : decode cL_law 410 = .ok (.bipush 16, 2) := by decide +kernel
theorem dL_law_412 : decode cL_law 412 = .ok (.iload 20, 2) := by decide +kernel
theorem dL_law_414 : decode cL_law 414 = .ok (.iadd, 1) := by decide +kernel
theorem dL_law_415 : decode cL_law 415 = .ok (.iaload, 1) := by decide +kernel
theorem dL_law_416 : decode cL_law 416 = .ok (.aload_n 2, 1) := by decide +kernel
theorem dL_law_417 : decode cL_law 417 = .ok (.bipush 16, 2) := by decide +kernel
theorem dL_law_419 : decode cL_law 419 = .ok (.iload 21, 2) := by decide +kernel
theorem dL_law_421 : decode cL_law 421 = .ok (.iadd, 1) := by decide +kernel
theorem dL_law_422 : decode cL_law 422 = .ok (.iaload, 1) := by decide +kernel
theorem dL_law_423 : decode cL_law 423 = .ok (.iadd, 1) := by decide +kernel
theorem dL_law_424 : decode cL_law 424 = .ok (.ifCond .ne 7, 3) := by decide +kernel
theorem dL_law_427 : decode cL_law 427 = .ok (.iconst 1, 1) := by decide +kernel
theorem dL_law_428 : decode cL_law 428 = .ok (.goto 4, 3) := by decide +kernel
theorem dL_law_431 : decode cL_law 431 = .ok (.iconst 0, 1) := by decide +kernel
theorem dL_law_432 : decode cL_law 432 = .ok (.istore 22, 2) := by decide +kernel
theorem dL_law_434 : decode cL_law 434 = .ok (.aload_n 2, 1) := by decide +kernel
theorem dL_law_435 : decode cL_law 435 = .ok (.bipush 32, 2) := by decide +kernel
theorem dL_law_437 : decode cL_law 437 = .ok (.iload 20, 2) := by decide +kernel
theorem dL_law_439 : decode cL_law 439 = .ok (.iadd, 1) := by decide +kernel
theorem dL_law_440 : decode cL_law 440 = .ok (.iaload, 1) := by decide +kernel
theorem dL_law_441 : decode cL_law 441 = .ok (.iconst 1, 1) := by decide +kernel
theorem dL_law_442 : decode cL_law 442 = .ok (.isub, 1) := by decide +kernel
theorem dL_law_443 : decode cL_law 443 = .ok (.istore 23, 2) := by decide +kernel
theorem dL_law_445 : decode cL_law 445 = .ok (.aload_n 2, 1) := by decide +kernel
theorem dL_law_446 : decode cL_law 446 = .ok (.bipush 32, 2) := by decide +kernel
theorem dL_law_448 : decode cL_law 448 = .ok (.iload 20, 2) := by decide +kernel
theorem dL_law_450 : decode cL_law 450 = .ok (.iadd, 1) := by decide +kernel
theorem dL_law_451 : decode cL_law 451 = .ok (.iload 22, 2) := by decide +kernel
theorem dL_law_453 : decode cL_law 453 = .ok (.ifCond .eq 10, 3) := by decide +kernel
theorem dL_law_456 : decode cL_law 456 = .ok (.iload 21, 2) := by decide +kernel
theorem dL_law_458 : decode cL_law 458 = .ok (.iconst 1, 1) := by decide +kernel
theorem dL_law_459 : decode cL_law 459 = .ok (.iadd, 1) := by decide +kernel
theorem dL_law_460 : decode cL_law 460 = .ok (.goto 10, 3) := by decide +kernel
theorem dL_law_463 : decode cL_law 463 = .ok (.aload_n 2, 1) := by decide +kernel
theorem dL_law_464 : decode cL_law 464 = .ok (.bipush 32, 2) := by decide +kernel
theorem dL_law_466 : decode cL_law 466 = .ok (.iload 20, 2) := by decide +kernel
theorem dL_law_468 : decode cL_law 468 = .ok (.iadd, 1) := by decide +kernel
theorem dL_law_469 : decode cL_law 469 = .ok (.iaload, 1) := by decide +kernel
theorem dL_law_470 : decode cL_law 470 = .ok (.iastore, 1) := by decide +kernel
theorem dL_law_471 : decode cL_law 471 = .ok (.aload_n 1, 1) := by decide +kernel
theorem dL_law_472 : decode cL_law 472 = .ok (.bipush 13, 2) := by decide +kernel
theorem dL_law_474 : decode cL_law 474 = .ok (.iload 20, 2) := by decide +kernel
theorem dL_law_476 : decode cL_law 476 = .ok (.iload 21, 2) := by decide +kernel
theorem dL_law_478 : decode cL_law 478 = .ok (.iconst 0, 1) := by decide +kernel
theorem dL_law_479 : decode cL_law 479 = .ok (.iconst 0, 1) := by decide +kernel
theorem dL_law_480 : decode cL_law 480 = .ok (.iconst 0, 1) := by decide +kernel
theorem dL_law_481 : decode cL_law 481 = .ok (.iconst 0, 1) := by decide +kernel
theorem dL_law_482 : decode cL_law 482 = .ok (.invokestatic 101, 3) := by decide +kernel
theorem dL_law_485 : decode cL_law 485 = .ok (.iload 22, 2) := by decide +kernel
theorem dL_law_487 : decode cL_law 487 = .ok (.ifCond .eq 8, 3) := by decide +kernel
theorem dL_law_490 : decode cL_law 490 = .ok (.iload 23, 2) := by decide +kernel
theorem dL_law_492 : decode cL_law 492 = .ok (.goto 6, 3) := by decide +kernel
theorem dL_law_495 : decode cL_law 495 = .ok (.sipush (-1003), 3) := by decide +kernel
theorem dL_law_498 : decode cL_law 498 = .ok (.if_icmp .ne 7, 3) := by decide +kernel
theorem dL_law_501 : decode cL_law 501 = .ok (.iconst 1, 1) := by decide +kernel
theorem dL_law_502 : decode cL_law 502 = .ok (.goto 4, 3) := by decide +kernel
theorem dL_law_505 : decode cL_law 505 = .ok (.iconst 0, 1) := by decide +kernel
theorem dL_law_506 : decode cL_law 506 = .ok (.istore 15, 2) := by decide +kernel
theorem dL_law_508 : decode cL_law 508 = .ok (.goto 90, 3) := by decide +kernel
theorem dL_law_511 : decode cL_law 511 = .ok (.aload_n 2, 1) := by decide +kernel
theorem dL_law_512 : decode cL_law 512 = .ok (.bipush 16, 2) := by decide +kernel
theorem dL_law_514 : decode cL_law 514 = .ok (.iload 20, 2) := by decide +kernel
theorem dL_law_516 : decode cL_law 516 = .ok (.iadd, 1) := by decide +kernel
theorem dL_law_517 : decode cL_law 517 = .ok (.iaload, 1) := by decide +kernel
theorem dL_law_518 : decode cL_law 518 = .ok (.ifCond .ne 7, 3) := by decide +kernel
theorem dL_law_521 : decode cL_law 521 = .ok (.iconst 1, 1) := by decide +kernel
theorem dL_law_522 : decode cL_law 522 = .ok (.goto 4, 3) := by decide +kernel
theorem dL_law_525 : decode cL_law 525 = .ok (.iconst 0, 1) := by decide +kernel
theorem dL_law_526 : decode cL_law 526 = .ok (.istore 22, 2) := by decide +kernel
theorem dL_law_528 : decode cL_law 528 = .ok (.aload_n 2, 1) := by decide +kernel
theorem dL_law_529 : decode cL_law 529 = .ok (.bipush 32, 2) := by decide +kernel
theorem dL_law_531 : decode cL_law 531 = .ok (.iload 20, 2) := by decide +kernel
theorem dL_law_533 : decode cL_law 533 = .ok (.iadd, 1) := by decide +kernel
theorem dL_law_534 : decode cL_law 534 = .ok (.iaload, 1) := by decide +kernel
theorem dL_law_535 : decode cL_law 535 = .ok (.iconst 1, 1) := by decide +kernel
theorem dL_law_536 : decode cL_law 536 = .ok (.isub, 1) := by decide +kernel
theorem dL_law_537 : decode cL_law 537 = .ok (.istore 23, 2) := by decide +kernel
theorem dL_law_539 : decode cL_law 539 = .ok (.aload_n 2, 1) := by decide +kernel
theorem dL_law_540 : decode cL_law 540 = .ok (.bipush 32, 2) := by decide +kernel
theorem dL_law_542 : decode cL_law 542 = .ok (.iload 20, 2) := by decide +kernel
theorem dL_law_544 : decode cL_law 544 = .ok (.iadd, 1) := by decide +kernel
theorem dL_law_545 : decode cL_law 545 = .ok (.iload 22, 2) := by decide +kernel
theorem dL_law_547 : decode cL_law 547 = .ok (.ifCond .eq 7, 3) := by decide +kernel
theorem dL_law_550 : decode cL_law 550 = .ok (.iconst 0, 1) := by decide +kernel
theorem dL_law_551 : decode cL_law 551 = .ok (.goto 10, 3) := by decide +kernel
theorem dL_law_554 : decode cL_law 554 = .ok (.aload_n 2, 1) := by decide +kernel
theorem dL_law_555 : decode cL_law 555 = .ok (.bipush 32, 2) := by decide +kernel
theorem dL_law_557 : decode cL_law 557 = .ok (.iload 20, 2) := by decide +kernel
theorem dL_law_559 : decode cL_law 559 = .ok (.iadd, 1) := by decide +kernel
theorem dL_law_560 : decode cL_law 560 = .ok (.iaload, 1) := by decide +kernel
theorem dL_law_561 : decode cL_law 561 = .ok (.iastore, 1) := by decide +kernel
theorem dL_law_562 : decode cL_law 562 = .ok (.aload_n 1, 1) := by decide +kernel
theorem dL_law_563 : decode cL_law 563 = .ok (.bipush 13, 2) := by decide +kernel
theorem dL_law_565 : decode cL_law 565 = .ok (.iload 20, 2) := by decide +kernel
theorem dL_law_567 : decode cL_law 567 = .ok (.iconst (-1), 1) := by decide +kernel
theorem dL_law_568 : decode cL_law 568 = .ok (.iconst 0, 1) := by decide +kernel
theorem dL_law_569 : decode cL_law 569 = .ok (.iconst 0, 1) := by decide +kernel
theorem dL_law_570 : decode cL_law 570 = .ok (.iconst 0, 1) := by decide +kernel
theorem dL_law_571 : decode cL_law 571 = .ok (.iconst 0, 1) := by decide +kernel
theorem dL_law_572 : decode cL_law 572 = .ok (.invokestatic 101, 3) := by decide +kernel
theorem dL_law_575 : decode cL_law 575 = .ok (.iload 22, 2) := by decide +kernel
theorem dL_law_577 : decode cL_law 577 = .ok (.ifCond .eq 8, 3) := by decide +kernel
theorem dL_law_580 : decode cL_law 580 = .ok (.iload 23, 2) := by decide +kernel
theorem dL_law_582 : decode cL_law 582 = .ok (.goto 6, 3) := by decide +kernel
theorem dL_law_585 : decode cL_law 585 = .ok (.sipush (-1003), 3) := by decide +kernel
theorem dL_law_588 : decode cL_law 588 = .ok (.if_icmp .ne 7, 3) := by decide +kernel
theorem dL_law_591 : decode cL_law 591 = .ok (.iconst 1, 1) := by decide +kernel
theorem dL_law_592 : decode cL_law 592 = .ok (.goto 4, 3) := by decide +kernel
theorem dL_law_595 : decode cL_law 595 = .ok (.iconst 0, 1) := by decide +kernel
theorem dL_law_596 : decode cL_law 596 = .ok (.istore 15, 2) := by decide +kernel
theorem dL_law_598 : decode cL_law 598 = .ok (.goto 366, 3) := by decide +kernel
theorem dL_law_601 : decode cL_law 601 = .ok (.iload 18, 2) := by decide +kernel
theorem dL_law_603 : decode cL_law 603 = .ok (.bipush 26, 2) := by decide +kernel
theorem dL_law_605 : decode cL_law 605 = .ok (.if_icmp .ne 218, 3) := by decide +kernel
theorem dL_law_608 : decode cL_law 608 = .ok (.iload 19, 2) := by decide +kernel
theorem dL_law_610 : decode cL_law 610 = .ok (.iconst 5, 1) := by decide +kernel
theorem dL_law_611 : decode cL_law 611 = .ok (.invokestatic 98, 3) := by decide +kernel
theorem dL_law_614 : decode cL_law 614 = .ok (.istore 20, 2) := by decide +kernel
theorem dL_law_616 : decode cL_law 616 = .ok (.iload 20, 2) := by decide +kernel
theorem dL_law_618 : decode cL_law 618 = .ok (.iconst 1, 1) := by decide +kernel
theorem dL_law_619 : decode cL_law 619 = .ok (.iadd, 1) := by decide +kernel
theorem dL_law_620 : decode cL_law 620 = .ok (.iload 19, 2) := by decide +kernel
theorem dL_law_622 : decode cL_law 622 = .ok (.iconst 3, 1) := by decide +kernel
theorem dL_law_623 : decode cL_law 623 = .ok (.ishr, 1) := by decide +kernel
theorem dL_law_624 : decode cL_law 624 = .ok (.iconst 5, 1) := by decide +kernel
theorem dL_law_625 : decode cL_law 625 = .ok (.iload 20, 2) := by decide +kernel
theorem dL_law_627 : decode cL_law 627 = .ok (.isub, 1) := by decide +kernel
theorem dL_law_628 : decode cL_law 628 = .ok (.invokestatic 98, 3) := by decide +kernel
theorem dL_law_631 : decode cL_law 631 = .ok (.iadd, 1) := by decide +kernel
theorem dL_law_632 : decode cL_law 632 = .ok (.istore 21, 2) := by decide +kernel
theorem dL_law_634 : decode cL_law 634 = .ok (.iconst 0, 1) := by decide +kernel
theorem dL_law_635 : decode cL_law 635 = .ok (.istore 22, 2) := by decide +kernel
theorem dL_law_637 : decode cL_law 637 = .ok (.iconst 0, 1) := by decide +kernel
theorem dL_law_638 : decode cL_law 638 = .ok (.istore 23, 2) := by decide +kernel
theorem dL_law_640 : decode cL_law 640 = .ok (.iload 23, 2) := by decide +kernel
theorem dL_law_642 : decode cL_law 642 = .ok (.bipush 6, 2) := by decide +kernel
theorem dL_law_644 : decode cL_law 644 = .ok (.if_icmp .ge 26, 3) := by decide +kernel
theorem dL_law_647 : decode cL_law 647 = .ok (.iload 22, 2) := by decide +kernel
theorem dL_law_649 : decode cL_law 649 = .ok (.aload_n 2, 1) := by decide +kernel
theorem dL_law_650 : decode cL_law 650 = .ok (.bipush 24, 2) := by decide +kernel
theorem dL_law_652 : decode cL_law 652 = .ok (.iload 23, 2) := by decide +kernel
theorem dL_law_654 : decode cL_law 654 = .ok (.iadd, 1) := by decide +kernel
theorem dL_law_655 : decode cL_law 655 = .ok (.iaload, 1) := by decide +kernel
theorem dL_law_656 : decode cL_law 656 = .ok (.iload 20, 2) := by decide +kernel
theorem dL_law_658 : decode cL_law 658 = .ok (.ishr, 1) := by decide +kernel
theorem dL_law_659 : decode cL_law 659 = .ok (.iconst 1, 1) := by decide +kernel
theorem dL_law_660 : decode cL_law 660 = .ok (.iand, 1) := by decide +kernel
theorem dL_law_661 : decode cL_law 661 = .ok (.iadd, 1) := by decide +kernel
theorem dL_law_662 : decode cL_law 662 = .ok (.istore 22, 2) := by decide +kernel
theorem dL_law_664 : decode cL_law 664 = .ok (.iinc 23 1, 3) := by decide +kernel
theorem dL_law_667 : decode cL_law 667 = .ok (.goto (-27), 3) := by decide +kernel
theorem dL_law_670 : decode cL_law 670 = .ok (.iconst 0, 1) := by decide +kernel
theorem dL_law_671 : decode cL_law 671 = .ok (.istore 23, 2) := by decide +kernel
theorem dL_law_673 : decode cL_law 673 = .ok (.iconst 0, 1) := by decide +kernel
theorem dL_law_674 : decode cL_law 674 = .ok (.istore 24, 2) := by decide +kernel
theorem dL_law_676 : decode cL_law 676 = .ok (.iload 24, 2) := by decide +kernel
theorem dL_law_678 : decode cL_law 678 = .ok (.bipush 6, 2) := by decide +kernel
theorem dL_law_680 : decode cL_law 680 = .ok (.if_icmp .ge 26, 3) := by decide +kernel
theorem dL_law_683 : decode cL_law 683 = .ok (.iload 23, 2) := by decide +kernel
theorem dL_law_685 : decode cL_law 685 = .ok (.aload_n 2, 1) := by decide +kernel
theorem dL_law_686 : decode cL_law 686 = .ok (.bipush 24, 2) := by decide +kernel
theorem dL_law_688 : decode cL_law 688 = .ok (.iload 21, 2) := by decide +kernel
theorem dL_law_690 : decode cL_law 690 = .ok (.iadd, 1) := by decide +kernel
theorem dL_law_691 : decode cL_law 691 = .ok (.iaload, 1) := by decide +kernel
theorem dL_law_692 : decode cL_law 692 = .ok (.iload 24, 2) := by decide +kernel
theorem dL_law_694 : decode cL_law 694 = .ok (.ishr, 1) := by decide +kernel
theorem dL_law_695 : decode cL_law 695 = .ok (.iconst 1, 1) := by decide +kernel
theorem dL_law_696 : decode cL_law 696 = .ok (.iand, 1) := by decide +kernel
theorem dL_law_697 : decode cL_law 697 = .ok (.iadd, 1) := by decide +kernel
theorem dL_law_698 : decode cL_law 698 = .ok (.istore 23, 2) := by decide +kernel
theorem dL_law_700 : decode cL_law 700 = .ok (.iinc 24 1, 3) := by decide +kernel
theorem dL_law_703 : decode cL_law 703 = .ok (.goto (-27), 3) := by decide +kernel
theorem dL_law_706 : decode cL_law 706 = .ok (.iload 23, 2) := by decide +kernel
theorem dL_law_708 : decode cL_law 708 = .ok (.iconst 2, 1) := by decide +kernel
theorem dL_law_709 : decode cL_law 709 = .ok (.if_icmp .ge 40, 3) := by decide +kernel
theorem dL_law_712 : decode cL_law 712 = .ok (.aload_n 2, 1) := by decide +kernel
theorem dL_law_713 : decode cL_law 713 = .ok (.bipush 24, 2) := by decide +kernel
theorem dL_law_715 : decode cL_law 715 = .ok (.iload 21, 2) := by decide +kernel
theorem dL_law_717 : decode cL_law 717 = .ok (.iadd, 1) := by decide +kernel
theorem dL_law_718 : decode cL_law 718 = .ok (.iaload, 1) := by decide +kernel
theorem dL_law_719 : decode cL_law 719 = .ok (.iload 20, 2) := by decide +kernel
theorem dL_law_721 : decode cL_law 721 = .ok (.ishr, 1) := by decide +kernel
theorem dL_law_722 : decode cL_law 722 = .ok (.iconst 1, 1) := by decide +kernel
theorem dL_law_723 : decode cL_law 723 = .ok (.iand, 1) := by decide +kernel
theorem dL_law_724 : decode cL_law 724 = .ok (.ifCond .ne 25, 3) := by decide +kernel
theorem dL_law_727 : decode cL_law 727 = .ok (.aload_n 2, 1) := by decide +kernel
theorem dL_law_728 : decode cL_law 728 = .ok (.bipush 16, 2) := by decide +kernel
theorem dL_law_730 : decode cL_law 730 = .ok (.iload 21, 2) := by decide +kernel
theorem dL_law_732 : decode cL_law 732 = .ok (.iadd, 1) := by decide +kernel
theorem dL_law_733 : decode cL_law 733 = .ok (.iaload, 1) := by decide +kernel
theorem dL_law_734 : decode cL_law 734 = .ok (.aload_n 2, 1) := by decide +kernel
theorem dL_law_735 : decode cL_law 735 = .ok (.bipush 16, 2) := by decide +kernel
theorem dL_law_737 : decode cL_law 737 = .ok (.iload 20, 2) := by decide +kernel
theorem dL_law_739 : decode cL_law 739 = .ok (.iadd, 1) := by decide +kernel
theorem dL_law_740 : decode cL_law 740 = .ok (.iaload, 1) := by decide +kernel
theorem dL_law_741 : decode cL_law 741 = .ok (.iadd, 1) := by decide +kernel
theorem dL_law_742 : decode cL_law 742 = .ok (.ifCond .ne 7, 3) := by decide +kernel
theorem dL_law_745 : decode cL_law 745 = .ok (.iconst 1, 1) := by decide +kernel
theorem dL_law_746 : decode cL_law 746 = .ok (.goto 4, 3) := by decide +kernel
theorem dL_law_749 : decode cL_law 749 = .ok (.iconst 0, 1) := by decide +kernel
theorem dL_law_750 : decode cL_law 750 = .ok (.istore 24, 2) := by decide +kernel
theorem dL_law_752 : decode cL_law 752 = .ok (.iload 22, 2) := by decide +kernel
theorem dL_law_754 : decode cL_law 754 = .ok (.iconst 4, 1) := by decide +kernel
theorem dL_law_755 : decode cL_law 755 = .ok (.if_icmp .ge 65, 3) := by decide +kernel
theorem dL_law_758 : decode cL_law 758 = .ok (.aload_n 2, 1) := by decide +kernel
theorem dL_law_759 : decode cL_law 759 = .ok (.bipush 24, 2) := by decide +kernel
theorem dL_law_761 : decode cL_law 761 = .ok (.iload 21, 2) := by decide +kernel
theorem dL_law_763 : decode cL_law 763 = .ok (.iadd, 1) := by decide +kernel
theorem dL_law_764 : decode cL_law 764 = .ok (.dup2, 1) := by decide +kernel
theorem dL_law_765 : decode cL_law 765 = .ok (.iaload, 1) := by decide +kernel
theorem dL_law_766 : decode cL_law 766 = .ok (.iload 24, 2) := by decide +kernel
theorem dL_law_768 : decode cL_law 768 = .ok (.ifCond .eq 10, 3) := by decide +kernel
theorem dL_law_771 : decode cL_law 771 = .ok (.iconst 1, 1) := by decide +kernel
theorem dL_law_772 : decode cL_law 772 = .ok (.iload 20, 2) := by decide +kernel
theorem dL_law_774 : decode cL_law 774 = .ok (.ishl, 1) := by decide +kernel
theorem dL_law_775 : decode cL_law 775 = .ok (.goto 4, 3) := by decide +kernel
theorem dL_law_778 : decode cL_law 778 = .ok (.iconst 0, 1) := by decide +kernel
theorem dL_law_779 : decode cL_law 779 = .ok (.ior, 1) := by decide +kernel
theorem dL_law_780 : decode cL_law 780 = .ok (.iastore, 1) := by decide +kernel
theorem dL_law_781 : decode cL_law 781 = .ok (.aload_n 1, 1) := by decide +kernel
theorem dL_law_782 : decode cL_law 782 = .ok (.bipush 12, 2) := by decide +kernel
theorem dL_law_784 : decode cL_law 784 = .ok (.iload 20, 2) := by decide +kernel
theorem dL_law_786 : decode cL_law 786 = .ok (.iload 21, 2) := by decide +kernel
theorem dL_law_788 : decode cL_law 788 = .ok (.iconst 0, 1) := by decide +kernel
theorem dL_law_789 : decode cL_law 789 = .ok (.iconst 0, 1) := by decide +kernel
theorem dL_law_790 : decode cL_law 790 = .ok (.iconst 0, 1) := by decide +kernel
theorem dL_law_791 : decode cL_law 791 = .ok (.iconst 0, 1) := by decide +kernel
theorem dL_law_792 : decode cL_law 792 = .ok (.invokestatic 101, 3) := by decide +kernel
theorem dL_law_795 : decode cL_law 795 = .ok (.iload 24, 2) := by decide +kernel
theorem dL_law_797 : decode cL_law 797 = .ok (.ifCond .eq 10, 3) := by decide +kernel
theorem dL_law_800 : decode cL_law 800 = .ok (.iload 23, 2) := by decide +kernel
theorem dL_law_802 : decode cL_law 802 = .ok (.iconst 1, 1) := by decide +kernel
theorem dL_law_803 : decode cL_law 803 = .ok (.iadd, 1) := by decide +kernel
theorem dL_law_804 : decode cL_law 804 = .ok (.goto 6, 3) := by decide +kernel
theorem dL_law_807 : decode cL_law 807 = .ok (.sipush (-1003), 3) := by decide +kernel
theorem dL_law_810 : decode cL_law 810 = .ok (.if_icmp .ne 7, 3) := by decide +kernel
theorem dL_law_813 : decode cL_law 813 = .ok (.iconst 1, 1) := by decide +kernel
theorem dL_law_814 : decode cL_law 814 = .ok (.goto 4, 3) := by decide +kernel
theorem dL_law_817 : decode cL_law 817 = .ok (.iconst 0, 1) := by decide +kernel
theorem dL_law_818 : decode cL_law 818 = .ok (.istore 15, 2) := by decide +kernel
theorem dL_law_820 : decode cL_law 820 = .ok (.goto 144, 3) := by decide +kernel
theorem dL_law_823 : decode cL_law 823 = .ok (.iload 18, 2) := by decide +kernel
theorem dL_law_825 : decode cL_law 825 = .ok (.bipush 27, 2) := by decide +kernel
theorem dL_law_827 : decode cL_law 827 = .ok (.if_icmp .ne 77, 3) := by decide +kernel
theorem dL_law_830 : decode cL_law 830 = .ok (.iload 19, 2) := by decide +kernel
theorem dL_law_832 : decode cL_law 832 = .ok (.bipush 6, 2) := by decide +kernel
theorem dL_law_834 : decode cL_law 834 = .ok (.invokestatic 98, 3) := by decide +kernel
theorem dL_law_837 : decode cL_law 837 = .ok (.istore 20, 2) := by decide +kernel
theorem dL_law_839 : decode cL_law 839 = .ok (.aload 12, 2) := by decide +kernel
theorem dL_law_841 : decode cL_law 841 = .ok (.iconst 3, 1) := by decide +kernel
theorem dL_law_842 : decode cL_law 842 = .ok (.iaload, 1) := by decide +kernel
theorem dL_law_843 : decode cL_law 843 = .ok (.bipush 25, 2) := by decide +kernel
theorem dL_law_845 : decode cL_law 845 = .ok (.if_icmp .gt 49, 3) := by decide +kernel
theorem dL_law_848 : decode cL_law 848 = .ok (.iload 19, 2) := by decide +kernel
theorem dL_law_850 : decode cL_law 850 = .ok (.iconst 3, 1) := by decide +kernel
theorem dL_law_851 : decode cL_law 851 = .ok (.ishr, 1) := by decide +kernel
theorem dL_law_852 : decode cL_law 852 = .ok (.iconst 2, 1) := by decide +kernel
theorem dL_law_853 : decode cL_law 853 = .ok (.invokestatic 98, 3) := by decide +kernel
theorem dL_law_856 : decode cL_law 856 = .ok (.ifCond .eq 38, 3) := by decide +kernel
theorem dL_law_859 : decode cL_law 859 = .ok (.aload_n 1, 1) := by decide +kernel
theorem dL_law_860 : decode cL_law 860 = .ok (.bipush 11, 2) := by decide +kernel
theorem dL_law_862 : decode cL_law 862 = .ok (.iload 20, 2) := by decide +kernel
theorem dL_law_864 : decode cL_law 864 = .ok (.iconst 0, 1) := by decide +kernel
theorem dL_law_865 : decode cL_law 865 = .ok (.iconst 0, 1) := by decide +kernel
theorem dL_law_866 : decode cL_law 866 = .ok (.iconst 0, 1) := by decide +kernel
theorem dL_law_867 : decode cL_law 867 = .ok (.iconst 0, 1) := by decide +kernel
theorem dL_law_868 : decode cL_law 868 = .ok (.iconst 0, 1) := by decide +kernel
theorem dL_law_869 : decode cL_law 869 = .ok (.invokestatic 101, 3) := by decide +kernel
theorem dL_law_872 : decode cL_law 872 = .ok (.iload 20, 2) := by decide +kernel
theorem dL_law_874 : decode cL_law 874 = .ok (.aload_n 2, 1) := by decide +kernel
theorem dL_law_875 : decode cL_law 875 = .ok (.aload_n 3, 1) := by decide +kernel
theorem dL_law_876 : decode cL_law 876 = .ok (.aload 4, 2) := by decide +kernel
theorem dL_law_878 : decode cL_law 878 = .ok (.aload 7, 2) := by decide +kernel
theorem dL_law_880 : decode cL_law 880 = .ok (.aload 8, 2) := by decide +kernel
theorem dL_law_882 : decode cL_law 882 = .ok (.aload 12, 2) := by decide +kernel
theorem dL_law_884 : decode cL_law 884 = .ok (.aload 13, 2) := by decide +kernel
theorem dL_law_886 : decode cL_law 886 = .ok (.aload 14, 2) := by decide +kernel
theorem dL_law_888 : decode cL_law 888 = .ok (.invokestatic 175, 3) := by decide +kernel
theorem dL_law_891 : decode cL_law 891 = .ok (.if_icmp .ne 7, 3) := by decide +kernel
theorem dL_law_894 : decode cL_law 894 = .ok (.iconst 1, 1) := by decide +kernel
theorem dL_law_895 : decode cL_law 895 = .ok (.goto 4, 3) := by decide +kernel
theorem dL_law_898 : decode cL_law 898 = .ok (.iconst 0, 1) := by decide +kernel
theorem dL_law_899 : decode cL_law 899 = .ok (.istore 15, 2) := by decide +kernel
theorem dL_law_901 : decode cL_law 901 = .ok (.goto 63, 3) := by decide +kernel
theorem dL_law_904 : decode cL_law 904 = .ok (.iload 18, 2) := by decide +kernel
theorem dL_law_906 : decode cL_law 906 = .ok (.bipush 28, 2) := by decide +kernel
theorem dL_law_908 : decode cL_law 908 = .ok (.if_icmp .ne 16, 3) := by decide +kernel
theorem dL_law_911 : decode cL_law 911 = .ok (.iconst 1, 1) := by decide +kernel
theorem dL_law_912 : decode cL_law 912 = .ok (.iload 19, 2) := by decide +kernel
theorem dL_law_914 : decode cL_law 914 = .ok (.sipush 400, 3) := by decide +kernel
theorem dL_law_917 : decode cL_law 917 = .ok (.invokestatic 98, 3) := by decide +kernel
theorem dL_law_920 : decode cL_law 920 = .ok (.iadd, 1) := by decide +kernel
theorem dL_law_921 : decode cL_law 921 = .ok (.goto 12, 3) := by decide +kernel
theorem dL_law_924 : decode cL_law 924 = .ok (.iconst 1, 1) := by decide +kernel
theorem dL_law_925 : decode cL_law 925 = .ok (.iload 19, 2) := by decide +kernel
theorem dL_law_927 : decode cL_law 927 = .ok (.bipush 12, 2) := by decide +kernel
theorem dL_law_929 : decode cL_law 929 = .ok (.invokestatic 98, 3) := by decide +kernel
theorem dL_law_932 : decode cL_law 932 = .ok (.iadd, 1) := by decide +kernel
theorem dL_law_933 : decode cL_law 933 = .ok (.istore 20, 2) := by decide +kernel
theorem dL_law_935 : decode cL_law 935 = .ok (.aload 12, 2) := by decide +kernel
theorem dL_law_937 : decode cL_law 937 = .ok (.iconst 0, 1) := by decide +kernel
theorem dL_law_938 : decode cL_law 938 = .ok (.dup2, 1) := by decide +kernel
theorem dL_law_939 : decode cL_law 939 = .ok (.iaload, 1) := by decide +kernel
theorem dL_law_940 : decode cL_law 940 = .ok (.iload 20, 2) := by decide +kernel
theorem dL_law_942 : decode cL_law 942 = .ok (.iadd, 1) := by decide +kernel
theorem dL_law_943 : decode cL_law 943 = .ok (.iastore, 1) := by decide +kernel
theorem dL_law_944 : decode cL_law 944 = .ok (.aload_n 1, 1) := by decide +kernel
theorem dL_law_945 : decode cL_law 945 = .ok (.iload 20, 2) := by decide +kernel
theorem dL_law_947 : decode cL_law 947 = .ok (.invokevirtual 179, 3) := by decide +kernel
theorem dL_law_950 : decode cL_law 950 = .ok (.aload 12, 2) := by decide +kernel
theorem dL_law_952 : decode cL_law 952 = .ok (.iconst 0, 1) := by decide +kernel
theorem dL_law_953 : decode cL_law 953 = .ok (.iaload, 1) := by decide +kernel
theorem dL_law_954 : decode cL_law 954 = .ok (.if_icmp .ne 7, 3) := by decide +kernel
theorem dL_law_957 : decode cL_law 957 = .ok (.iconst 1, 1) := by decide +kernel
theorem dL_law_958 : decode cL_law 958 = .ok (.goto 4, 3) := by decide +kernel
theorem dL_law_961 : decode cL_law 961 = .ok (.iconst 0, 1) := by decide +kernel
theorem dL_law_962 : decode cL_law 962 = .ok (.istore 15, 2) := by decide +kernel
theorem dL_law_964 : decode cL_law 964 = .ok (.iload 15, 2) := by decide +kernel
theorem dL_law_966 : decode cL_law 966 = .ok (.ifCond .eq 42, 3) := by decide +kernel
theorem dL_law_969 : decode cL_law 969 = .ok (.aload_n 1, 1) := by decide +kernel
theorem dL_law_970 : decode cL_law 970 = .ok (.iload 19, 2) := by decide +kernel
theorem dL_law_972 : decode cL_law 972 = .ok (.iconst 2, 1) := by decide +kernel
theorem dL_law_973 : decode cL_law 973 = .ok (.ishr, 1) := by decide +kernel
theorem dL_law_974 : decode cL_law 974 = .ok (.aload_n 2, 1) := by decide +kernel
theorem dL_law_975 : decode cL_law 975 = .ok (.aload_n 3, 1) := by decide +kernel
theorem dL_law_976 : decode cL_law 976 = .ok (.aload 4, 2) := by decide +kernel
theorem dL_law_978 : decode cL_law 978 = .ok (.aload 5, 2) := by decide +kernel
theorem dL_law_980 : decode cL_law 980 = .ok (.aload 6, 2) := by decide +kernel
theorem dL_law_982 : decode cL_law 982 = .ok (.aload 7, 2) := by decide +kernel
theorem dL_law_984 : decode cL_law 984 = .ok (.aload 8, 2) := by decide +kernel
theorem dL_law_986 : decode cL_law 986 = .ok (.aload 9, 2) := by decide +kernel
theorem dL_law_988 : decode cL_law 988 = .ok (.aload 10, 2) := by decide +kernel
theorem dL_law_990 : decode cL_law 990 = .ok (.aload 11, 2) := by decide +kernel
theorem dL_law_992 : decode cL_law 992 = .ok (.aload 12, 2) := by decide +kernel
theorem dL_law_994 : decode cL_law 994 = .ok (.aload 13, 2) := by decide +kernel
theorem dL_law_996 : decode cL_law 996 = .ok (.aload 14, 2) := by decide +kernel
theorem dL_law_998 : decode cL_law 998 = .ok (.invokestatic 182, 3) := by decide +kernel
theorem dL_law_1001 : decode cL_law 1001 = .ok (.ifCond .eq 7, 3) := by decide +kernel
theorem dL_law_1004 : decode cL_law 1004 = .ok (.iconst 1, 1) := by decide +kernel
theorem dL_law_1005 : decode cL_law 1005 = .ok (.goto 4, 3) := by decide +kernel
theorem dL_law_1008 : decode cL_law 1008 = .ok (.iconst 0, 1) := by decide +kernel
theorem dL_law_1009 : decode cL_law 1009 = .ok (.istore 15, 2) := by decide +kernel
theorem dL_law_1011 : decode cL_law 1011 = .ok (.iinc 16 1, 3) := by decide +kernel
theorem dL_law_1014 : decode cL_law 1014 = .ok (.goto (-775), 3) := by decide +kernel
theorem dL_law_1017 : decode cL_law 1017 = .ok (.iload 15, 2) := by decide +kernel
theorem dL_law_1019 : decode cL_law 1019 = .ok (.ireturn, 1) := by decide +kernel
