theorem d_La_law_0 : decode c_La_law 0 = .ok (.new 23, 3) := by decide +kernel
theorem d_La_law_3 : decode c_La_law 3 = .ok (.dup, 1) := by decide +kernel
theorem d_La_law_4 : decode c_La_law 4 = .ok (.invokespecial 25, 3) := by decide +kernel
theorem d_La_law_7 : decode c_La_law 7 = .ok (.astore_n 1, 1) := by decide +kernel
theorem d_La_law_8 : decode c_La_law 8 = .ok (.new 23, 3) := by decide +kernel
theorem d_La_law_11 : decode c_La_law 11 = .ok (.dup, 1) := by decide +kernel
theorem d_La_law_12 : decode c_La_law 12 = .ok (.invokespecial 25, 3) := by decide +kernel
theorem d_La_law_15 : decode c_La_law 15 = .ok (.astore_n 2, 1) := by decide +kernel
theorem d_La_law_16 : decode c_La_law 16 = .ok (.iconst 0, 1) := by decide +kernel
theorem d_La_law_17 : decode c_La_law 17 = .ok (.istore_n 3, 1) := by decide +kernel
theorem d_La_law_18 : decode c_La_law 18 = .ok (.iconst 0, 1) := by decide +kernel
theorem d_La_law_19 : decode c_La_law 19 = .ok (.istore 4, 2) := by decide +kernel
theorem d_La_law_21 : decode c_La_law 21 = .ok (.iload 4, 2) := by decide +kernel
theorem d_La_law_23 : decode c_La_law 23 = .ok (.bipush 30, 2) := by decide +kernel
theorem d_La_law_25 : decode c_La_law 25 = .ok (.if_icmp .ge 655, 3) := by decide +kernel
theorem d_La_law_28 : decode c_La_law 28 = .ok (.bipush 12, 2) := by decide +kernel
theorem d_La_law_30 : decode c_La_law 30 = .ok (.iload 4, 2) := by decide +kernel
theorem d_La_law_32 : decode c_La_law 32 = .ok (.imul, 1) := by decide +kernel
theorem d_La_law_33 : decode c_La_law 33 = .ok (.istore 5, 2) := by decide +kernel
theorem d_La_law_35 : decode c_La_law 35 = .ok (.iconst 0, 1) := by decide +kernel
theorem d_La_law_36 : decode c_La_law 36 = .ok (.istore 6, 2) := by decide +kernel
theorem d_La_law_38 : decode c_La_law 38 = .ok (.iload 6, 2) := by decide +kernel
theorem d_La_law_40 : decode c_La_law 40 = .ok (.iconst 2, 1) := by decide +kernel
theorem d_La_law_41 : decode c_La_law 41 = .ok (.if_icmp .ge 544, 3) := by decide +kernel
theorem d_La_law_44 : decode c_La_law 44 = .ok (.iload 6, 2) := by decide +kernel
theorem d_La_law_46 : decode c_La_law 46 = .ok (.ifCond .ne 7, 3) := by decide +kernel
theorem d_La_law_49 : decode c_La_law 49 = .ok (.aload_n 1, 1) := by decide +kernel
theorem d_La_law_50 : decode c_La_law 50 = .ok (.goto 4, 3) := by decide +kernel
theorem d_La_law_53 : decode c_La_law 53 = .ok (.aload_n 2, 1) := by decide +kernel
theorem d_La_law_54 : decode c_La_law 54 = .ok (.astore 7, 2) := by decide +kernel
theorem d_La_law_56 : decode c_La_law 56 = .ok (.aload 7, 2) := by decide +kernel
theorem d_La_law_58 : decode c_La_law 58 = .ok (.iconst 0, 1) := by decide +kernel
theorem d_La_law_59 : decode c_La_law 59 = .ok (.invokevirtual 26, 3) := by decide +kernel
theorem d_La_law_62 : decode c_La_law 62 = .ok (.istore 8, 2) := by decide +kernel
theorem d_La_law_64 : decode c_La_law 64 = .ok (.iconst 1, 1) := by decide +kernel
theorem d_La_law_65 : decode c_La_law 65 = .ok (.iload 8, 2) := by decide +kernel
theorem d_La_law_67 : decode c_La_law 67 = .ok (.ishl, 1) := by decide +kernel
theorem d_La_law_68 : decode c_La_law 68 = .ok (.iconst 1, 1) := by decide +kernel
theorem d_La_law_69 : decode c_La_law 69 = .ok (.isub, 1) := by decide +kernel
theorem d_La_law_70 : decode c_La_law 70 = .ok (.istore 9, 2) := by decide +kernel
theorem d_La_law_72 : decode c_La_law 72 = .ok (.aload 7, 2) := by decide +kernel
theorem d_La_law_74 : decode c_La_law 74 = .ok (.iconst 1, 1) := by decide +kernel
theorem d_La_law_75 : decode c_La_law 75 = .ok (.invokevirtual 26, 3) := by decide +kernel
theorem d_La_law_78 : decode c_La_law 78 = .ok (.istore 10, 2) := by decide +kernel
theorem d_La_law_80 : decode c_La_law 80 = .ok (.iload 8, 2) := by decide +kernel
theorem d_La_law_82 : decode c_La_law 82 = .ok (.bipush 8, 2) := by decide +kernel
theorem d_La_law_84 : decode c_La_law 84 = .ok (.if_icmp .ge 13, 3) := by decide +kernel
theorem d_La_law_87 : decode c_La_law 87 = .ok (.aload_n 0, 1) := by decide +kernel
theorem d_La_law_88 : decode c_La_law 88 = .ok (.iload 5, 2) := by decide +kernel
theorem d_La_law_90 : decode c_La_law 90 = .ok (.iconst 3, 1) := by decide +kernel
theorem d_La_law_91 : decode c_La_law 91 = .ok (.invokestatic 29, 3) := by decide +kernel
theorem d_La_law_94 : decode c_La_law 94 = .ok (.ifCond .eq 8, 3) := by decide +kernel
theorem d_La_law_97 : decode c_La_law 97 = .ok (.iload 8, 2) := by decide +kernel
theorem d_La_law_99 : decode c_La_law 99 = .ok (.ifCond .ne 43, 3) := by decide +kernel
theorem d_La_law_102 : decode c_La_law 102 = .ok (.aload 7, 2) := by decide +kernel
theorem d_La_law_104 : decode c_La_law 104 = .ok (.aload_n 0, 1) := by decide +kernel
theorem d_La_law_105 : decode c_La_law 105 = .ok (.iload 5, 2) := by decide +kernel
theorem d_La_law_107 : decode c_La_law 107 = .ok (.iconst 1, 1) := by decide +kernel
theorem d_La_law_108 : decode c_La_law 108 = .ok (.iadd, 1) := by decide +kernel
theorem d_La_law_109 : decode c_La_law 109 = .ok (.iconst 4, 1) := by decide +kernel
theorem d_La_law_110 : decode c_La_law 110 = .ok (.invokestatic 29, 3) := by decide +kernel
theorem d_La_law_113 : decode c_La_law 113 = .ok (.iconst 1, 1) := by decide +kernel
theorem d_La_law_114 : decode c_La_law 114 = .ok (.aload_n 0, 1) := by decide +kernel
theorem d_La_law_115 : decode c_La_law 115 = .ok (.iload 5, 2) := by decide +kernel
theorem d_La_law_117 : decode c_La_law 117 = .ok (.iconst 2, 1) := by decide +kernel
theorem d_La_law_118 : decode c_La_law 118 = .ok (.iadd, 1) := by decide +kernel
theorem d_La_law_119 : decode c_La_law 119 = .ok (.bipush 99, 2) := by decide +kernel
theorem d_La_law_121 : decode c_La_law 121 = .ok (.invokestatic 29, 3) := by decide +kernel
theorem d_La_law_124 : decode c_La_law 124 = .ok (.iadd, 1) := by decide +kernel
theorem d_La_law_125 : decode c_La_law 125 = .ok (.aload_n 0, 1) := by decide +kernel
theorem d_La_law_126 : decode c_La_law 126 = .ok (.iload 5, 2) := by decide +kernel
theorem d_La_law_128 : decode c_La_law 128 = .ok (.iconst 3, 1) := by decide +kernel
theorem d_La_law_129 : decode c_La_law 129 = .ok (.iadd, 1) := by decide +kernel
theorem d_La_law_130 : decode c_La_law 130 = .ok (.bipush 101, 2) := by decide +kernel
theorem d_La_law_132 : decode c_La_law 132 = .ok (.invokestatic 29, 3) := by decide +kernel
theorem d_La_law_135 : decode c_La_law 135 = .ok (.invokevirtual 33, 3) := by decide +kernel
theorem d_La_law_138 : decode c_La_law 138 = .ok (.pop, 1) := by decide +kernel
theorem d_La_law_139 : decode c_La_law 139 = .ok (.goto 434, 3) := by decide +kernel
theorem d_La_law_142 : decode c_La_law 142 = .ok (.iload 10, 2) := by decide +kernel
theorem d_La_law_144 : decode c_La_law 144 = .ok (.bipush 6, 2) := by decide +kernel
theorem d_La_law_146 : decode c_La_law 146 = .ok (.if_icmp .ge 15, 3) := by decide +kernel
theorem d_La_law_149 : decode c_La_law 149 = .ok (.aload_n 0, 1) := by decide +kernel
theorem d_La_law_150 : decode c_La_law 150 = .ok (.iload 5, 2) := by decide +kernel
theorem d_La_law_152 : decode c_La_law 152 = .ok (.iconst 4, 1) := by decide +kernel
theorem d_La_law_153 : decode c_La_law 153 = .ok (.iadd, 1) := by decide +kernel
theorem d_La_law_154 : decode c_La_law 154 = .ok (.iconst 3, 1) := by decide +kernel
theorem d_La_law_155 : decode c_La_law 155 = .ok (.invokestatic 29, 3) := by decide +kernel
theorem d_La_law_158 : decode c_La_law 158 = .ok (.ifCond .eq 8, 3) := by decide +kernel
theorem d_La_law_161 : decode c_La_law 161 = .ok (.iload 10, 2) := by decide +kernel
theorem d_La_law_163 : decode c_La_law 163 = .ok (.ifCond .ne 61, 3) := by decide +kernel
theorem d_La_law_166 : decode c_La_law 166 = .ok (.aload 7, 2) := by decide +kernel
theorem d_La_law_168 : decode c_La_law 168 = .ok (.aload_n 0, 1) := by decide +kernel
theorem d_La_law_169 : decode c_La_law 169 = .ok (.iload 5, 2) := by decide +kernel
theorem d_La_law_171 : decode c_La_law 171 = .ok (.iconst 5, 1) := by decide +kernel
theorem d_La_law_172 : decode c_La_law 172 = .ok (.iadd, 1) := by decide +kernel
theorem d_La_law_173 : decode c_La_law 173 = .ok (.bipush 97, 2) := by decide +kernel
theorem d_La_law_175 : decode c_La_law 175 = .ok (.invokestatic 29, 3) := by decide +kernel
theorem d_La_law_178 : decode c_La_law 178 = .ok (.iconst 1, 1) := by decide +kernel
theorem d_La_law_179 : decode c_La_law 179 = .ok (.iconst 1, 1) := by decide +kernel
theorem d_La_law_180 : decode c_La_law 180 = .ok (.aload_n 0, 1) := by decide +kernel
theorem d_La_law_181 : decode c_La_law 181 = .ok (.iload 5, 2) := by decide +kernel
theorem d_La_law_183 : decode c_La_law 183 = .ok (.bipush 6, 2) := by decide +kernel
theorem d_La_law_185 : decode c_La_law 185 = .ok (.iadd, 1) := by decide +kernel
theorem d_La_law_186 : decode c_La_law 186 = .ok (.iconst 2, 1) := by decide +kernel
theorem d_La_law_187 : decode c_La_law 187 = .ok (.invokestatic 29, 3) := by decide +kernel
theorem d_La_law_190 : decode c_La_law 190 = .ok (.iadd, 1) := by decide +kernel
theorem d_La_law_191 : decode c_La_law 191 = .ok (.aload_n 0, 1) := by decide +kernel
theorem d_La_law_192 : decode c_La_law 192 = .ok (.iload 5, 2) := by decide +kernel
theorem d_La_law_194 : decode c_La_law 194 = .ok (.bipush 7, 2) := by decide +kernel
theorem d_La_law_196 : decode c_La_law 196 = .ok (.iadd, 1) := by decide +kernel
theorem d_La_law_197 : decode c_La_law 197 = .ok (.bipush 50, 2) := by decide +kernel
theorem d_La_law_199 : decode c_La_law 199 = .ok (.invokestatic 29, 3) := by decide +kernel
theorem d_La_law_202 : decode c_La_law 202 = .ok (.aload_n 0, 1) := by decide +kernel
theorem d_La_law_203 : decode c_La_law 203 = .ok (.iload 5, 2) := by decide +kernel
theorem d_La_law_205 : decode c_La_law 205 = .ok (.bipush 8, 2) := by decide +kernel
theorem d_La_law_207 : decode c_La_law 207 = .ok (.iadd, 1) := by decide +kernel
theorem d_La_law_208 : decode c_La_law 208 = .ok (.iload 9, 2) := by decide +kernel
theorem d_La_law_210 : decode c_La_law 210 = .ok (.iconst 1, 1) := by decide +kernel
theorem d_La_law_211 : decode c_La_law 211 = .ok (.iadd, 1) := by decide +kernel
theorem d_La_law_212 : decode c_La_law 212 = .ok (.invokestatic 29, 3) := by decide +kernel
theorem d_La_law_215 : decode c_La_law 215 = .ok (.iconst 1, 1) := by decide +kernel
theorem d_La_law_216 : decode c_La_law 216 = .ok (.ior, 1) := by decide +kernel
theorem d_La_law_217 : decode c_La_law 217 = .ok (.invokevirtual 37, 3) := by decide +kernel
theorem d_La_law_220 : decode c_La_law 220 = .ok (.pop, 1) := by decide +kernel
theorem d_La_law_221 : decode c_La_law 221 = .ok (.goto 352, 3) := by decide +kernel
theorem d_La_law_224 : decode c_La_law 224 = .ok (.aload_n 0, 1) := by decide +kernel
theorem d_La_law_225 : decode c_La_law 225 = .ok (.iload 5, 2) := by decide +kernel
theorem d_La_law_227 : decode c_La_law 227 = .ok (.iconst 5, 1) := by decide +kernel
theorem d_La_law_228 : decode c_La_law 228 = .ok (.iadd, 1) := by decide +kernel
theorem d_La_law_229 : decode c_La_law 229 = .ok (.iload 10, 2) := by decide +kernel
theorem d_La_law_231 : decode c_La_law 231 = .ok (.invokestatic 29, 3) := by decide +kernel
theorem d_La_law_234 : decode c_La_law 234 = .ok (.istore 11, 2) := by decide +kernel
theorem d_La_law_236 : decode c_La_law 236 = .ok (.aload_n 0, 1) := by decide +kernel
theorem d_La_law_237 : decode c_La_law 237 = .ok (.iload 5, 2) := by decide +kernel
theorem d_La_law_239 : decode c_La_law 239 = .ok (.bipush 6, 2) := by decide +kernel
theorem d_La_law_241 : decode c_La_law 241 = .ok (.iadd, 1) := by decide +kernel
theorem d_La_law_242 : decode c_La_law 242 = .ok (.iload 9, 2) := by decide +kernel
theorem d_La_law_244 : decode c_La_law 244 = .ok (.iconst 1, 1) := by decide +kernel
theorem d_La_law_245 : decode c_La_law 245 = .ok (.iadd, 1) := by decide +kernel
theorem d_La_law_246 : decode c_La_law 246 = .ok (.invokestatic 29, 3) := by decide +kernel
theorem d_La_law_249 : decode c_La_law 249 = .ok (.aload_n 0, 1) := by decide +kernel
theorem d_La_law_250 : decode c_La_law 250 = .ok (.iload 5, 2) := by decide +kernel
theorem d_La_law_252 : decode c_La_law 252 = .ok (.bipush 7, 2) := by decide +kernel
theorem d_La_law_254 : decode c_La_law 254 = .ok (.iadd, 1) := by decide +kernel
theorem d_La_law_255 : decode c_La_law 255 = .ok (.iload 9, 2) := by decide +kernel
theorem d_La_law_257 : decode c_La_law 257 = .ok (.iconst 1, 1) := by decide +kernel
theorem d_La_law_258 : decode c_La_law 258 = .ok (.iadd, 1) := by decide +kernel
theorem d_La_law_259 : decode c_La_law 259 = .ok (.invokestatic 29, 3) := by decide +kernel
theorem d_La_law_262 : decode c_La_law 262 = .ok (.ior, 1) := by decide +kernel
theorem d_La_law_263 : decode c_La_law 263 = .ok (.istore 12, 2) := by decide +kernel
theorem d_La_law_265 : decode c_La_law 265 = .ok (.aload_n 0, 1) := by decide +kernel
theorem d_La_law_266 : decode c_La_law 266 = .ok (.iload 5, 2) := by decide +kernel
theorem d_La_law_268 : decode c_La_law 268 = .ok (.bipush 8, 2) := by decide +kernel
theorem d_La_law_270 : decode c_La_law 270 = .ok (.iadd, 1) := by decide +kernel
theorem d_La_law_271 : decode c_La_law 271 = .ok (.iload 8, 2) := by decide +kernel
theorem d_La_law_273 : decode c_La_law 273 = .ok (.invokestatic 29, 3) := by decide +kernel
theorem d_La_law_276 : decode c_La_law 276 = .ok (.istore 13, 2) := by decide +kernel
theorem d_La_law_278 : decode c_La_law 278 = .ok (.aload_n 0, 1) := by decide +kernel
theorem d_La_law_279 : decode c_La_law 279 = .ok (.iload 5, 2) := by decide +kernel
theorem d_La_law_281 : decode c_La_law 281 = .ok (.bipush 9, 2) := by decide +kernel
theorem d_La_law_283 : decode c_La_law 283 = .ok (.iadd, 1) := by decide +kernel
theorem d_La_law_284 : decode c_La_law 284 = .ok (.bipush 6, 2) := by decide +kernel
theorem d_La_law_286 : decode c_La_law 286 = .ok (.invokestatic 29, 3) := by decide +kernel
theorem d_La_law_289 : decode c_La_law 289 = .ok (.tableswitch 210 0 4 #[35, 61, 80, 132, 171], 35) := by decide +kernel
theorem d_La_law_324 : decode c_La_law 324 = .ok (.aload 7, 2) := by decide +kernel
theorem d_La_law_326 : decode c_La_law 326 = .ok (.iload 11, 2) := by decide +kernel
theorem d_La_law_328 : decode c_La_law 328 = .ok (.iload 12, 2) := by decide +kernel
theorem d_La_law_330 : decode c_La_law 330 = .ok (.iconst 0, 1) := by decide +kernel
theorem d_La_law_331 : decode c_La_law 331 = .ok (.invokevirtual 41, 3) := by decide +kernel
theorem d_La_law_334 : decode c_La_law 334 = .ok (.ifCond .le 175, 3) := by decide +kernel
theorem d_La_law_337 : decode c_La_law 337 = .ok (.aload 7, 2) := by decide +kernel
theorem d_La_law_339 : decode c_La_law 339 = .ok (.iload 11, 2) := by decide +kernel
theorem d_La_law_341 : decode c_La_law 341 = .ok (.iload 12, 2) := by decide +kernel
theorem d_La_law_343 : decode c_La_law 343 = .ok (.invokevirtual 44, 3) := by decide +kernel
theorem d_La_law_346 : decode c_La_law 346 = .ok (.pop, 1) := by decide +kernel
theorem d_La_law_347 : decode c_La_law 347 = .ok (.goto 162, 3) := by decide +kernel
theorem d_La_law_350 : decode c_La_law 350 = .ok (.aload 7, 2) := by decide +kernel
theorem d_La_law_352 : decode c_La_law 352 = .ok (.aload_n 0, 1) := by decide +kernel
theorem d_La_law_353 : decode c_La_law 353 = .ok (.iload 5, 2) := by decide +kernel
theorem d_La_law_355 : decode c_La_law 355 = .ok (.bipush 10, 2) := by decide +kernel
theorem d_La_law_357 : decode c_La_law 357 = .ok (.iadd, 1) := by decide +kernel
theorem d_La_law_358 : decode c_La_law 358 = .ok (.iconst 4, 1) := by decide +kernel
theorem d_La_law_359 : decode c_La_law 359 = .ok (.invokestatic 29, 3) := by decide +kernel
theorem d_La_law_362 : decode c_La_law 362 = .ok (.invokevirtual 47, 3) := by decide +kernel
theorem d_La_law_365 : decode c_La_law 365 = .ok (.pop, 1) := by decide +kernel
theorem d_La_law_366 : decode c_La_law 366 = .ok (.goto 143, 3) := by decide +kernel
theorem d_La_law_369 : decode c_La_law 369 = .ok (.aload 7, 2) := by decide +kernel
theorem d_La_law_371 : decode c_La_law 371 = .ok (.iload 11, 2) := by decide +kernel
theorem d_La_law_373 : decode c_La_law 373 = .ok (.iconst 4, 1) := by decide +kernel
theorem d_La_law_374 : decode c_La_law 374 = .ok (.invokevirtual 50, 3) := by decide +kernel
theorem d_La_law_377 : decode c_La_law 377 = .ok (.iload 13, 2) := by decide +kernel
theorem d_La_law_379 : decode c_La_law 379 = .ok (.ishr, 1) := by decide +kernel
theorem d_La_law_380 : decode c_La_law 380 = .ok (.iconst 1, 1) := by decide +kernel
theorem d_La_law_381 : decode c_La_law 381 = .ok (.iand, 1) := by decide +kernel
theorem d_La_law_382 : decode c_La_law 382 = .ok (.ifCond .ne 127, 3) := by decide +kernel
theorem d_La_law_385 : decode c_La_law 385 = .ok (.aload 7, 2) := by decide +kernel
theorem d_La_law_387 : decode c_La_law 387 = .ok (.iload 11, 2) := by decide +kernel
theorem d_La_law_389 : decode c_La_law 389 = .ok (.iload 12, 2) := by decide +kernel
theorem d_La_law_391 : decode c_La_law 391 = .ok (.iconst 1, 1) := by decide +kernel
theorem d_La_law_392 : decode c_La_law 392 = .ok (.iload 13, 2) := by decide +kernel
theorem d_La_law_394 : decode c_La_law 394 = .ok (.ishl, 1) := by decide +kernel
theorem d_La_law_395 : decode c_La_law 395 = .ok (.iconst (-1), 1) := by decide +kernel
theorem d_La_law_396 : decode c_La_law 396 = .ok (.ixor, 1) := by decide +kernel
theorem d_La_law_397 : decode c_La_law 397 = .ok (.iand, 1) := by decide +kernel
theorem d_La_law_398 : decode c_La_law 398 = .ok (.iconst 2, 1) := by decide +kernel
theorem d_La_law_399 : decode c_La_law 399 = .ok (.invokevirtual 41, 3) := by decide +kernel
theorem d_La_law_402 : decode c_La_law 402 = .ok (.iconst 1, 1) := by decide +kernel
theorem d_La_law_403 : decode c_La_law 403 = .ok (.if_icmp .ne 106, 3) := by decide +kernel
theorem d_La_law_406 : decode c_La_law 406 = .ok (.aload 7, 2) := by decide +kernel
theorem d_La_law_408 : decode c_La_law 408 = .ok (.iload 11, 2) := by decide +kernel
theorem d_La_law_410 : decode c_La_law 410 = .ok (.iload 13, 2) := by decide +kernel
theorem d_La_law_412 : decode c_La_law 412 = .ok (.iload 12, 2) := by decide +kernel
theorem d_La_law_414 : decode c_La_law 414 = .ok (.invokevirtual 53, 3) := by decide +kernel
theorem d_La_law_417 : decode c_La_law 417 = .ok (.pop, 1) := by decide +kernel
theorem d_La_law_418 : decode c_La_law 418 = .ok (.goto 91, 3) := by decide +kernel
theorem d_La_law_421 : decode c_La_law 421 = .ok (.aload 7, 2) := by decide +kernel
theorem d_La_law_423 : decode c_La_law 423 = .ok (.iload 13, 2) := by decide +kernel
theorem d_La_law_425 : decode c_La_law 425 = .ok (.aload_n 0, 1) := by decide +kernel
theorem d_La_law_426 : decode c_La_law 426 = .ok (.iload 5, 2) := by decide +kernel
theorem d_La_law_428 : decode c_La_law 428 = .ok (.bipush 10, 2) := by decide +kernel
theorem d_La_law_430 : decode c_La_law 430 = .ok (.iadd, 1) := by decide +kernel
theorem d_La_law_431 : decode c_La_law 431 = .ok (.iconst 3, 1) := by decide +kernel
theorem d_La_law_432 : decode c_La_law 432 = .ok (.invokestatic 29, 3) := by decide +kernel
theorem d_La_law_435 : decode c_La_law 435 = .ok (.ifCond .ne 17, 3) := by decide +kernel
theorem d_La_law_438 : decode c_La_law 438 = .ok (.aload_n 0, 1) := by decide +kernel
theorem d_La_law_439 : decode c_La_law 439 = .ok (.iload 5, 2) := by decide +kernel
theorem d_La_law_441 : decode c_La_law 441 = .ok (.bipush 11, 2) := by decide +kernel
theorem d_La_law_443 : decode c_La_law 443 = .ok (.iadd, 1) := by decide +kernel
theorem d_La_law_444 : decode c_La_law 444 = .ok (.bipush 97, 2) := by decide +kernel
theorem d_La_law_446 : decode c_La_law 446 = .ok (.invokestatic 29, 3) := by decide +kernel
theorem d_La_law_449 : decode c_La_law 449 = .ok (.goto 4, 3) := by decide +kernel
theorem d_La_law_452 : decode c_La_law 452 = .ok (.iconst 0, 1) := by decide +kernel
theorem d_La_law_453 : decode c_La_law 453 = .ok (.invokevirtual 56, 3) := by decide +kernel
theorem d_La_law_456 : decode c_La_law 456 = .ok (.pop, 1) := by decide +kernel
theorem d_La_law_457 : decode c_La_law 457 = .ok (.goto 52, 3) := by decide +kernel
theorem d_La_law_460 : decode c_La_law 460 = .ok (.aload 7, 2) := by decide +kernel
theorem d_La_law_462 : decode c_La_law 462 = .ok (.aload_n 0, 1) := by decide +kernel
theorem d_La_law_463 : decode c_La_law 463 = .ok (.iload 5, 2) := by decide +kernel
theorem d_La_law_465 : decode c_La_law 465 = .ok (.bipush 10, 2) := by decide +kernel
theorem d_La_law_467 : decode c_La_law 467 = .ok (.iadd, 1) := by decide +kernel
theorem d_La_law_468 : decode c_La_law 468 = .ok (.iconst 2, 1) := by decide +kernel
theorem d_La_law_469 : decode c_La_law 469 = .ok (.invokestatic 29, 3) := by decide +kernel
theorem d_La_law_472 : decode c_La_law 472 = .ok (.iload 11, 2) := by decide +kernel
theorem d_La_law_474 : decode c_La_law 474 = .ok (.aload_n 0, 1) := by decide +kernel
theorem d_La_law_475 : decode c_La_law 475 = .ok (.iload 5, 2) := by decide +kernel
theorem d_La_law_477 : decode c_La_law 477 = .ok (.bipush 11, 2) := by decide +kernel
theorem d_La_law_479 : decode c_La_law 479 = .ok (.iadd, 1) := by decide +kernel
theorem d_La_law_480 : decode c_La_law 480 = .ok (.iconst 2, 1) := by decide +kernel
theorem d_La_law_481 : decode c_La_law 481 = .ok (.invokestatic 29, 3) := by decide +kernel
theorem d_La_law_484 : decode c_La_law 484 = .ok (.ifCond .ne 7, 3) := by decide +kernel
theorem d_La_law_487 : decode c_La_law 487 = .ok (.iconst 1, 1) := by decide +kernel
theorem d_La_law_488 : decode c_La_law 488 = .ok (.goto 4, 3) := by decide +kernel
theorem d_La_law_491 : decode c_La_law 491 = .ok (.iconst 0, 1) := by decide +kernel
theorem d_La_law_492 : decode c_La_law 492 = .ok (.invokevirtual 59, 3) := by decide +kernel
theorem d_La_law_495 : decode c_La_law 495 = .ok (.pop, 1) := by decide +kernel
theorem d_La_law_496 : decode c_La_law 496 = .ok (.goto 13, 3) := by decide +kernel
theorem d_La_law_499 : decode c_La_law 499 = .ok (.aload 7, 2) := by decide +kernel
theorem d_La_law_501 : decode c_La_law 501 = .ok (.iload 11, 2) := by decide +kernel
theorem d_La_law_503 : decode c_La_law 503 = .ok (.iload 12, 2) := by decide +kernel
theorem d_La_law_505 : decode c_La_law 505 = .ok (.invokevirtual 63, 3) := by decide +kernel
theorem d_La_law_508 : decode c_La_law 508 = .ok (.pop, 1) := by decide +kernel
theorem d_La_law_509 : decode c_La_law 509 = .ok (.iload 6, 2) := by decide +kernel
theorem d_La_law_511 : decode c_La_law 511 = .ok (.iconst 1, 1) := by decide +kernel
theorem d_La_law_512 : decode c_La_law 512 = .ok (.if_icmp .ne 61, 3) := by decide +kernel
theorem d_La_law_515 : decode c_La_law 515 = .ok (.aload 7, 2) := by decide +kernel
theorem d_La_law_517 : decode c_La_law 517 = .ok (.iload 11, 2) := by decide +kernel
theorem d_La_law_519 : decode c_La_law 519 = .ok (.invokevirtual 66, 3) := by decide +kernel
theorem d_La_law_522 : decode c_La_law 522 = .ok (.ldc2_w 70, 3) := by decide +kernel
theorem d_La_law_525 : decode c_La_law 525 = .ok (.dcmp .l, 1) := by decide +kernel
theorem d_La_law_526 : decode c_La_law 526 = .ok (.ifCond .gt 45, 3) := by decide +kernel
theorem d_La_law_529 : decode c_La_law 529 = .ok (.aload 7, 2) := by decide +kernel
theorem d_La_law_531 : decode c_La_law 531 = .ok (.iload 11, 2) := by decide +kernel
theorem d_La_law_533 : decode c_La_law 533 = .ok (.invokevirtual 72, 3) := by decide +kernel
theorem d_La_law_536 : decode c_La_law 536 = .ok (.iload 9, 2) := by decide +kernel
theorem d_La_law_538 : decode c_La_law 538 = .ok (.if_icmp .gt 33, 3) := by decide +kernel
theorem d_La_law_541 : decode c_La_law 541 = .ok (.aload 7, 2) := by decide +kernel
theorem d_La_law_543 : decode c_La_law 543 = .ok (.iload 11, 2) := by decide +kernel
theorem d_La_law_545 : decode c_La_law 545 = .ok (.invokevirtual 75, 3) := by decide +kernel
theorem d_La_law_548 : decode c_La_law 548 = .ok (.invokevirtual 79, 3) := by decide +kernel
theorem d_La_law_551 : decode c_La_law 551 = .ok (.iload 8, 2) := by decide +kernel
theorem d_La_law_553 : decode c_La_law 553 = .ok (.if_icmp .lt 18, 3) := by decide +kernel
theorem d_La_law_556 : decode c_La_law 556 = .ok (.aload 7, 2) := by decide +kernel
theorem d_La_law_558 : decode c_La_law 558 = .ok (.iload 11, 2) := by decide +kernel
theorem d_La_law_560 : decode c_La_law 560 = .ok (.iload 9, 2) := by decide +kernel
theorem d_La_law_562 : decode c_La_law 562 = .ok (.iconst 5, 1) := by decide +kernel
theorem d_La_law_563 : decode c_La_law 563 = .ok (.invokevirtual 41, 3) := by decide +kernel
theorem d_La_law_566 : decode c_La_law 566 = .ok (.iload 8, 2) := by decide +kernel
theorem d_La_law_568 : decode c_La_law 568 = .ok (.if_icmp .le 5, 3) := by decide +kernel
theorem d_La_law_573 : decode c_La_law 573 = .ok (.aload 7, 2) := by decide +kernel
theorem d_La_law_575 : decode c_La_law 575 = .ok (.invokevirtual 85, 3) := by decide +kernel
theorem d_La_law_578 : decode c_La_law 578 = .ok (.pop, 1) := by decide +kernel
theorem d_La_law_579 : decode c_La_law 579 = .ok (.iinc 6 1, 3) := by decide +kernel
theorem d_La_law_582 : decode c_La_law 582 = .ok (.goto (-544), 3) := by decide +kernel
theorem d_La_law_585 : decode c_La_law 585 = .ok (.iconst 1, 1) := by decide +kernel
theorem d_La_law_586 : decode c_La_law 586 = .ok (.aload_n 0, 1) := by decide +kernel
theorem d_La_law_587 : decode c_La_law 587 = .ok (.iload 5, 2) := by decide +kernel
theorem d_La_law_589 : decode c_La_law 589 = .ok (.bipush 11, 2) := by decide +kernel
theorem d_La_law_591 : decode c_La_law 591 = .ok (.iadd, 1) := by decide +kernel
theorem d_La_law_592 : decode c_La_law 592 = .ok (.bipush 9, 2) := by decide +kernel
theorem d_La_law_594 : decode c_La_law 594 = .ok (.invokestatic 29, 3) := by decide +kernel
theorem d_La_law_597 : decode c_La_law 597 = .ok (.iadd, 1) := by decide +kernel
theorem d_La_law_598 : decode c_La_law 598 = .ok (.istore 6, 2) := by decide +kernel
theorem d_La_law_600 : decode c_La_law 600 = .ok (.iload_n 3, 1) := by decide +kernel
theorem d_La_law_601 : decode c_La_law 601 = .ok (.iload 6, 2) := by decide +kernel
theorem d_La_law_603 : decode c_La_law 603 = .ok (.iadd, 1) := by decide +kernel
theorem d_La_law_604 : decode c_La_law 604 = .ok (.istore_n 3, 1) := by decide +kernel
theorem d_La_law_605 : decode c_La_law 605 = .ok (.aload_n 1, 1) := by decide +kernel
theorem d_La_law_606 : decode c_La_law 606 = .ok (.iload 6, 2) := by decide +kernel
theorem d_La_law_608 : decode c_La_law 608 = .ok (.invokevirtual 88, 3) := by decide +kernel
theorem d_La_law_611 : decode c_La_law 611 = .ok (.iload_n 3, 1) := by decide +kernel
theorem d_La_law_612 : decode c_La_law 612 = .ok (.if_icmp .eq 5, 3) := by decide +kernel
theorem d_La_law_617 : decode c_La_law 617 = .ok (.iconst 0, 1) := by decide +kernel
theorem d_La_law_618 : decode c_La_law 618 = .ok (.istore 7, 2) := by decide +kernel
theorem d_La_law_620 : decode c_La_law 620 = .ok (.iload 7, 2) := by decide +kernel
theorem d_La_law_622 : decode c_La_law 622 = .ok (.iload 6, 2) := by decide +kernel
theorem d_La_law_624 : decode c_La_law 624 = .ok (.if_icmp .ge 28, 3) := by decide +kernel
theorem d_La_law_627 : decode c_La_law 627 = .ok (.aload_n 2, 1) := by decide +kernel
theorem d_La_law_628 : decode c_La_law 628 = .ok (.iconst 1, 1) := by decide +kernel
theorem d_La_law_629 : decode c_La_law 629 = .ok (.invokevirtual 88, 3) := by decide +kernel
theorem d_La_law_632 : decode c_La_law 632 = .ok (.iload_n 3, 1) := by decide +kernel
theorem d_La_law_633 : decode c_La_law 633 = .ok (.iload 6, 2) := by decide +kernel
theorem d_La_law_635 : decode c_La_law 635 = .ok (.isub, 1) := by decide +kernel
theorem d_La_law_636 : decode c_La_law 636 = .ok (.iload 7, 2) := by decide +kernel
theorem d_La_law_638 : decode c_La_law 638 = .ok (.iadd, 1) := by decide +kernel
theorem d_La_law_639 : decode c_La_law 639 = .ok (.iconst 1, 1) := by decide +kernel
theorem d_La_law_640 : decode c_La_law 640 = .ok (.iadd, 1) := by decide +kernel
theorem d_La_law_641 : decode c_La_law 641 = .ok (.if_icmp .eq 5, 3) := by decide +kernel
theorem d_La_law_646 : decode c_La_law 646 = .ok (.iinc 7 1, 3) := by decide +kernel
theorem d_La_law_649 : decode c_La_law 649 = .ok (.goto (-29), 3) := by decide +kernel
theorem d_La_law_652 : decode c_La_law 652 = .ok (.iload 4, 2) := by decide +kernel
theorem d_La_law_654 : decode c_La_law 654 = .ok (.bipush 10, 2) := by decide +kernel
theorem d_La_law_656 : decode c_La_law 656 = .ok (.irem, 1) := by decide +kernel
theorem d_La_law_657 : decode c_La_law 657 = .ok (.ifCond .ne 17, 3) := by decide +kernel
theorem d_La_law_660 : decode c_La_law 660 = .ok (.aload_n 1, 1) := by decide +kernel
theorem d_La_law_661 : decode c_La_law 661 = .ok (.invokevirtual 91, 3) := by decide +kernel
theorem d_La_law_664 : decode c_La_law 664 = .ok (.aload_n 2, 1) := by decide +kernel
theorem d_La_law_665 : decode c_La_law 665 = .ok (.invokevirtual 91, 3) := by decide +kernel
theorem d_La_law_668 : decode c_La_law 668 = .ok (.lcmp, 1) := by decide +kernel
theorem d_La_law_669 : decode c_La_law 669 = .ok (.ifCond .eq 5, 3) := by decide +kernel
theorem d_La_law_674 : decode c_La_law 674 = .ok (.iinc 4 1, 3) := by decide +kernel
theorem d_La_law_677 : decode c_La_law 677 = .ok (.goto (-656), 3) := by decide +kernel
theorem d_La_law_680 : decode c_La_law 680 = .ok (.aload_n 1, 1) := by decide +kernel
theorem d_La_law_681 : decode c_La_law 681 = .ok (.invokevirtual 91, 3) := by decide +kernel
theorem d_La_law_684 : decode c_La_law 684 = .ok (.aload_n 2, 1) := by decide +kernel
theorem d_La_law_685 : decode c_La_law 685 = .ok (.invokevirtual 91, 3) := by decide +kernel
theorem d_La_law_688 : decode c_La_law 688 = .ok (.lcmp, 1) := by decide +kernel
theorem d_La_law_689 : decode c_La_law 689 = .ok (.ifCond .ne 21, 3) := by decide +kernel
theorem d_La_law_692 : decode c_La_law 692 = .ok (.aload_n 1, 1) := by decide +kernel
theorem d_La_law_693 : decode c_La_law 693 = .ok (.invokevirtual 95, 3) := by decide +kernel
theorem d_La_law_696 : decode c_La_law 696 = .ok (.ifCond .eq 14, 3) := by decide +kernel
theorem d_La_law_699 : decode c_La_law 699 = .ok (.aload_n 2, 1) := by decide +kernel
theorem d_La_law_700 : decode c_La_law 700 = .ok (.invokevirtual 95, 3) := by decide +kernel
theorem d_La_law_703 : decode c_La_law 703 = .ok (.ifCond .eq 7, 3) := by decide +kernel
theorem d_La_law_706 : decode c_La_law 706 = .ok (.iconst 1, 1) := by decide +kernel
theorem d_La_law_707 : decode c_La_law 707 = .ok (.goto 4, 3) := by decide +kernel
theorem d_La_law_711 : decode c_La_law 711 = .ok (.ireturn, 1) := by decide +kernel

section ZLE
theorem z_lawend {g0 : State} {d : zD} {y : MethodName} {tb : List ExceptionTableEntry} {p : Program} {l : Launch} {e : Env} {m : MethodId} {below : List Frame} {meth : Method} {c : Code} {G : zG} {L : List (Nat × Value)} {pc : Nat} {b : Nat} (hd : decode code pc = .ok (.ireturn, 1)) : Z g0 d y code 14 ret tb p l e room_1 g0 m #[Value.ref b] below meth c (lw_Z below #[Value.ref b] g0) 600086 7301442 G L [.int 1] pc :=
  fun hc H locs ls hP hS hl => va_forget (fun q hq => hS.2.2 q hq) (W.base (lw_ret (d0 := g0.drawn) (Drawn.sameBut.refl g0.drawn lw_cs) hc.x hc.b hc.r hc.locks hd))
end ZLE
def mVg : Nat → Nat → Int32 := fun r => if r = 7 then fun k => nI (zinv k) else if r = 0 then zm6 0 23 0 0 0 0 else fun _ => 0
theorem gInit {N : Nat} : zSM N tV0 mVg 0 0 0 := by
  refine ⟨⟨rfl, rfl, rfl, rfl, rfl⟩, fun k hk => absurd hk (Nat.not_lt_zero _), fun k hk => absurd hk (Nat.not_lt_zero _), ⟨rfl, ⟨by decide, zTr.z⟩, fun e he => absurd he (Nat.not_lt_zero _)⟩, fun j hj => ⟨zti_inv j hj, zinv_lt j⟩, fun j hj => ⟨rfl, zinv_lt j⟩, 23, by decide, rfl⟩

set_option maxHeartbeats 16000000 in
set_option maxRecDepth 100000 in
theorem z_law {g0 : State} {d : zD} {l : Launch} {a0 : Array Value} (hs0 : zS0 d a0 g0) (hst : l.stackTraces = false) {b NN : Nat} {xs : Nat → Int32} (hX : va_X b NN xs g0 g0.heap) (hbl : b < g0.heap.size) (hNN : NN ≤ 260) {nm ds : String} {tb : List ExceptionTableEntry} {p : Program} {e : Env} {m : MethodId} {below : List Frame} {meth : Method} {c : Code} : Z g0 d ⟨"ThreeboxesLaw", nm, ds⟩ code 14 ret tb p l e room_1 g0 m #[Value.ref b] below meth c (lw_Z below #[Value.ref b] g0) 0 0 (fun _ => none) [(0, .ref b)] [] 0 := by
  refine z_new (fs := [.null, .null, .null, .null, .null, .null, .int 0, .int 0, .int 0, .int 0]) zc_Tb qK_La_23 qO_Tb qN_Tb (by decide) ⟨by show _ ≤ 600086; omega, by show _ ≤ 7301442; omega⟩ d_La_law_0 (fun x1 hx1 hb1 => ?_)
  refine z_dup d_La_law_3 rfl ?_
  refine z_callIp1 ((m_Tb_init hs0 hst zu_s)) ym_Tb_init rfl qM_La_25 qI_Tb_init d_La_law_4 rfl (Nat.le_of_ble_eq_true rfl) ⟨by show _ ≤ 600086; omega, by show _ ≤ 7301442; omega⟩ ⟨Nat.le_of_ble_eq_true rfl, Nat.le_of_ble_eq_true rfl⟩ (fun r_4 G_4 hp_4 => ?_)
  obtain ⟨rfl, A, D, eA, hT, hA0, hk0⟩ := hp_4
  refine z_astore_n (L' := [(1, _), (0, _)]) d_La_law_7 rfl (by decide) rfl ?_
  refine z_new (fs := [.null, .null, .null, .null, .null, .null, .int 0, .int 0, .int 0, .int 0]) zc_Tb qK_La_23 qO_Tb qN_Tb (by decide) ⟨by show _ ≤ 600086; omega, by show _ ≤ 7301442; omega⟩ d_La_law_8 (fun x2 hx2 hb2 => ?_)
  have hA2 : ∀ r, tlive 0 0 r → A r ≠ x2 := hT.none hx2
  have hT2 := hT.out (w := zob 8 [.null, .null, .null, .null, .null, .null, .int 0, .int 0, .int 0, .int 0]) hA2
  refine z_dup d_La_law_11 rfl ?_
  refine z_callIp1 ((m_Tb_init hs0 hst zu_s)) ym_Tb_init rfl qM_La_25 qI_Tb_init d_La_law_12 rfl (Nat.le_of_ble_eq_true rfl) ⟨by show _ ≤ 600086; omega, by show _ ≤ 7301442; omega⟩ ⟨Nat.le_of_ble_eq_true rfl, Nat.le_of_ble_eq_true rfl⟩ (fun r_12 G_12 hp_12 => ?_)
  obtain ⟨rfl, B, E, eB, hU, hB0, hk2⟩ := hp_12
  have hT3 : zT d A D tV0 0 0 G_12 := ⟨⟨hT2.1.1, fun r hr => hk2 _ _ (hT2.1.2 r hr) (hA2 r hr)⟩, hT2.2⟩
  have hAB : ∀ r q, tlive 0 0 r → tlive 0 0 q → A r ≠ B q := fun r q hr hq e => by
    rcases hB0 q hq with e2 | e2
    · exact hA2 r hr (e.trans e2)
    · rw [← e, hT2.1.2 r hr] at e2; cases e2
  have hLw0 : gLaw d x1 x2 (10 * 0) 0 G_12 := ⟨A, D, tV0, B, E, tV0, mVg, 0, 0, 0, eA, eB, ⟨hT3, hU, hAB⟩, gInit, gInit, ⟨fun k hk => absurd hk (Nat.not_lt_zero _), fun k hk => absurd hk (Nat.not_lt_zero _)⟩, by decide, by decide, rfl⟩
  refine z_astore_n (L' := [(2, _), (1, _), (0, _)]) d_La_law_15 rfl (by decide) rfl ?_
  refine z_iconst (v := (nI 0)) d_La_law_16 (by decide) ?_
  refine z_istore_n (L' := [(3, _), (2, _), (1, _), (0, _)]) d_La_law_17 rfl (by decide) rfl ?_
  refine z_iconst (v := (nI 0)) d_La_law_18 (by decide) ?_
  refine z_istore (L' := [(4, _), (3, _), (2, _), (1, _), (0, _)]) d_La_law_19 (by decide) rfl ?_
  have key_21 : ∀ (n : Nat) (j dy : Nat) (G2 : zG), 31 - j < n → (j ≤ 30) → (dy ≤ 9 * j) → (gLaw d x1 x2 (10 * j) dy G2) → Z g0 d ⟨"ThreeboxesLaw", nm, ds⟩ code 14 ret tb p l e room_1 g0 m #[Value.ref b] below meth c (lw_Z below #[Value.ref b] g0) (100 + 3000 * j) (2000 + 60000 * j) (G2) [(4, .int (nI j)), (3, .int (nI dy)), (2, .ref x2), (1, .ref x1), (0, .ref b)] [] 21 := by
    intro n
    induction n with
    | zero => intro j dy G2 h0; exact absurd h0 (Nat.not_lt_zero _)
    | succ n ih_21 =>
      intro j dy G2 hm_21 hj hd9 hLw
      obtain ⟨A, D, V, B, E, U, W, nk, ns, ne, eA, eB, hQ0, hSa, hSb, hP, hnk, hns, hdy⟩ := hLw
      refine z_iload 0 d_La_law_21 rfl ?_
      refine z_bipush (v := (nI 30)) d_La_law_23 (by decide) ?_
      refine z_icmp_ge 680 d_La_law_25 (by decide) (fun c_25 => ?_) (fun c_25 => ?_)
      · skip
        have hj30 : 30 ≤ j := (nI_leI (by first | decide | omega) (by first | decide | omega)).mp c_25
        subst eA
        subst eB
        refine z_aload_n 3 d_La_law_680 rfl rfl ?_
        refine z_callVp1 ((m_Tb_digestE hs0 hst hQ0.t (gq := gqW W nk) (hSa.gq (by omega) hnk hP.t1) (hSa.sd (by omega)) hSa.2.2.2.2.1 zinv_v hSa.lie)) ym_Tb_digest qM_La_91 qI_Tb_digest qV_Tb_Tb_digest zc_Tb hQ0.t.tb d_La_law_681 rfl (Nat.le_of_ble_eq_true rfl) ⟨by show _ ≤ 600086; omega, by show _ ≤ 7301442; omega⟩ ⟨Nat.le_of_ble_eq_true rfl, Nat.le_of_ble_eq_true rfl⟩ (fun r_681 G_681 hp_681 => ?_)
        obtain ⟨hr_681, D7, V7, hT7, hF7, hS7⟩ := gD_v hSa hP (by omega) hnk hns hp_681
        obtain rfl : r_681 = _ := hr_681
        have hQ7 := (hQ0.ask hT7 hF7).sw
        refine z_aload_n 2 d_La_law_684 rfl rfl ?_
        refine z_callVp1 ((m_Tb_digestE hs0 hst hQ7.t (gq := gqW W nk) (hSb.gq (by omega) hnk hP.t1) (hSb.sd (by omega)) hSb.2.2.2.2.1 zinv_v hSb.lie)) ym_Tb_digest qM_La_91 qI_Tb_digest qV_Tb_Tb_digest zc_Tb hQ7.t.tb d_La_law_685 rfl (Nat.le_of_ble_eq_true rfl) ⟨by show _ ≤ 600086; omega, by show _ ≤ 7301442; omega⟩ ⟨Nat.le_of_ble_eq_true rfl, Nat.le_of_ble_eq_true rfl⟩ (fun r_685 G_685 hp_685 => ?_)
        obtain ⟨hr_685, E8, U8, hT8, hF8, hS8⟩ := gD_v hSb hP (by omega) hnk hns hp_685
        obtain rfl : r_685 = _ := hr_685
        have hQ8 := (hQ7.ask hT8 hF8).sw
        refine z_lcmp d_La_law_688 ?_
        refine z_if_ne 710 d_La_law_689 (by decide) (fun c_689 => absurd ((lg_cmp_eq _ _).mpr rfl) c_689) (fun c_689 => ?_)
        refine z_aload_n 3 d_La_law_692 rfl rfl ?_
        refine z_callVp1 ((m_Tb_isSoundE hs0 hst hQ8.t (hS7.sd (by omega)) hS7.2.2.2.2.1 zinv_v hS7.lie)) ym_Tb_isSound qM_La_95 qI_Tb_isSound qV_Tb_Tb_isSound zc_Tb hQ8.t.tb d_La_law_693 rfl (Nat.le_of_ble_eq_true rfl) ⟨by show _ ≤ 600086; omega, by show _ ≤ 7301442; omega⟩ ⟨Nat.le_of_ble_eq_true rfl, Nat.le_of_ble_eq_true rfl⟩ (fun r_693 G_693 hp_693 => ?_)
        obtain ⟨hr_693, D10, V10, hT10, hF10, hS10⟩ := gSo_v hS7 hP (by omega) hp_693
        obtain rfl : r_693 = _ := hr_693
        have hQ10 := (hQ8.ask hT10 hF10).sw
        refine z_if_eq 710 d_La_law_696 (by decide) (fun c_696 => absurd c_696 (by decide)) (fun c_696 => ?_)
        refine z_aload_n 2 d_La_law_699 rfl rfl ?_
        refine z_callVp1 ((m_Tb_isSoundE hs0 hst hQ10.t (hS8.sd (by omega)) hS8.2.2.2.2.1 zinv_v hS8.lie)) ym_Tb_isSound qM_La_95 qI_Tb_isSound qV_Tb_Tb_isSound zc_Tb hQ10.t.tb d_La_law_700 rfl (Nat.le_of_ble_eq_true rfl) ⟨by show _ ≤ 600086; omega, by show _ ≤ 7301442; omega⟩ ⟨Nat.le_of_ble_eq_true rfl, Nat.le_of_ble_eq_true rfl⟩ (fun r_700 G_700 hp_700 => ?_)
        obtain ⟨hr_700, D11, V11, hT11, hF11, hS11⟩ := gSo_v hS8 hP (by omega) hp_700
        obtain rfl : r_700 = _ := hr_700
        skip
        refine z_if_eq 710 d_La_law_703 (by decide) (fun c_703 => absurd c_703 (by decide)) (fun c_703 => ?_)
        refine z_iconst (v := 1) d_La_law_706 (by decide) ?_
        refine z_goto 711 d_La_law_707 (by decide) ?_
        refine z_widen (k := 600086) (n := 7301442) (by omega) (by omega) ?_
        exact z_lawend d_La_law_711
      · skip
        have hj3 : j < 30 := by
          by_cases q : j < 30
          · exact q
          · exact absurd ((nI_leI (by first | decide | omega) (by first | decide | omega)).mpr (show 30 ≤ j by omega)) c_25
        obtain ⟨W1, nk1, ns1, ne1, hR, hP1, hnk1, hns1⟩ := gCs_ex (q := fun c m => zdw NN xs (12 * j + c) m) (fun c m hm => zdw_lt hm) hSa hP (by omega) hnk hns
        have hdy1 : W1 0 2 = nI dy := (gCs_day hR).trans hdy
        refine z_bipush (v := (nI 12)) d_La_law_28 (by decide) ?_
        refine z_iload 0 d_La_law_30 rfl ?_
        refine z_imul d_La_law_32 ?_
        refine z_topv (v := nI (12 * j)) (pk_mul _ _) ?_
        refine z_istore (L' := [(5, _), (4, _), (3, _), (2, _), (1, _), (0, _)]) d_La_law_33 (by decide) rfl ?_
        refine z_iconst (v := (nI 0)) d_La_law_35 (by decide) ?_
        refine z_istore (L' := [(6, _), (5, _), (4, _), (3, _), (2, _), (1, _), (0, _)]) d_La_law_36 (by decide) rfl ?_
        refine z_iload 0 d_La_law_38 rfl ?_
        refine z_iconst (v := (nI 2)) d_La_law_40 (by decide) ?_
        refine z_icmp_ge 585 d_La_law_41 (by decide) (fun c_41 => absurd ((nI_leI (a := 2) (b := 0) (by decide) (by decide)).mp c_41) (by decide)) (fun c_41 => ?_)
        refine z_iload 0 d_La_law_44 rfl ?_
        refine z_if_ne 53 d_La_law_46 (by decide) (fun c_46 => absurd nI_0 c_46) (fun c_46 => ?_)
        refine z_aload_n 5 d_La_law_49 rfl rfl ?_
        refine z_goto 54 d_La_law_50 (by decide) ?_
        have key_54 : ∀ (n : Nat) (tw xm : Nat) (G3 : zG) (A3 : Nat → Nat) (D3 : Nat → UInt64) (V3 : Nat → Nat → Int32) (B3 : Nat → Nat) (E3 : Nat → UInt64) (U3 : Nat → Nat → Int32) (mk ms : Nat), 2 - tw < n → (tw < 2) → (A3 0 = xm) → (zQ d A3 D3 V3 nk ns B3 E3 U3 mk ms G3) → (zSM (10 * j) V3 W nk ns ne) → (gTw x1 x2 (10 * j) W nk ns ne W1 nk1 ns1 ne1 tw (A3 0) (B3 0) U3 mk ms) → Z g0 d ⟨"ThreeboxesLaw", nm, ds⟩ code 14 ret tb p l e room_1 g0 m #[Value.ref b] below meth c (lw_Z below #[Value.ref b] g0) (100 + 3000 * j + 1000 * tw) (2000 + 60000 * j + 20000 * tw) (G3) [(6, .int (nI tw)), (5, .int (nI (12 * j))), (4, .int (nI j)), (3, .int (nI dy)), (2, .ref x2), (1, .ref x1), (0, .ref b)] [.ref xm] 54 := by
          intro n
          induction n with
          | zero => intro tw xm G3 A3 D3 V3 B3 E3 U3 mk ms h0; exact absurd h0 (Nat.not_lt_zero _)
          | succ n ih_54 =>
            intro tw xm G3 A3 D3 V3 B3 E3 U3 mk ms hm_54 htw exm hQ hS hTw
            subst exm
            have hJ_573 : ∀ (G4 : zG) (A4 : Nat → Nat) (D4 : Nat → UInt64) (V4 : Nat → Nat → Int32), (zQ d A4 D4 V4 nk1 ns1 B3 E3 U3 mk ms G4) → (A4 0 = A3 0) → (zSM (10 * j + 1) V4 W1 nk1 ns1 ne1) → Z g0 d ⟨"ThreeboxesLaw", nm, ds⟩ code 14 ret tb p l e room_1 g0 m #[Value.ref b] below meth c (lw_Z below #[Value.ref b] g0) (100 + 3000 * j + 1000 * tw + 600) (2000 + 60000 * j + 20000 * tw + 16000) (G4) [(7, .ref (A3 0)), (6, .int (nI tw)), (5, .int (nI (12 * j))), (4, .int (nI j)), (3, .int (nI dy)), (2, .ref x2), (1, .ref x1), (0, .ref b)] [] 573 := by
              intro G4 A4 D4 V4 hQ4 eA4 hS4
              rw [← eA4]
              refine z_aload 0 d_La_law_573 rfl ?_
              refine z_callVp1 ((m_Tb_knockE hs0 hst hQ4.t)) ym_Tb_knock qM_La_85 qI_Tb_knock qV_Tb_Tb_knock zc_Tb hQ4.t.tb d_La_law_575 rfl (Nat.le_of_ble_eq_true rfl) ⟨by show _ ≤ 600086; omega, by show _ ≤ 7301442; omega⟩ ⟨Nat.le_of_ble_eq_true rfl, Nat.le_of_ble_eq_true rfl⟩ (fun r_575 G_575 hp_575 => ?_)
              obtain ⟨rfl, hT5, hF5⟩ := hp_575
              have hQ5 := hQ4.ask hT5 hF5
              have hS5 := gL_knock hS4
              refine z_pop d_La_law_578 rfl ?_
              refine z_iinc (v := nI (tw + 1)) (L' := [(6, _), (7, _), (5, _), (4, _), (3, _), (2, _), (1, _), (0, _)]) 1 d_La_law_579 rfl (nI_1 tw) (by decide) rfl ?_
              refine z_goto 38 d_La_law_582 (by decide) ?_
              refine z_iload 0 d_La_law_38 rfl ?_
              refine z_iconst (v := (nI 2)) d_La_law_40 (by decide) ?_
              refine z_icmp_ge 585 d_La_law_41 (by decide) (fun c_41 => ?_) (fun c_41 => ?_)
              · skip
                have h41 : 2 ≤ tw + 1 := (nI_leI (by first | decide | omega) (by first | decide | omega)).mp c_41
                obtain ⟨y1, eA3, eB3, y4, y5, hSo⟩ := hTw.resolve_left (fun q => by have := q.1; omega)
                subst mk
                subst ms
                have eA9 := eA4.trans eA3
                subst eB3
                subst eA9
                refine z_iconst (v := (nI 1)) d_La_law_585 (by decide) ?_
                refine z_aload_n 7 d_La_law_586 rfl rfl ?_
                refine z_iload 2 d_La_law_587 rfl ?_
                refine z_bipush (v := (nI 11)) d_La_law_589 (by decide) ?_
                refine z_iadd d_La_law_591 ?_
                refine z_topv (v := nI (12 * j + 11)) (nI_add _ _) ?_
                refine z_bipush (v := (nI 9)) d_La_law_592 (by decide) ?_
                refine z_callS0 ((m_La_drawn hs0 hst hX hbl hNN (k := 12 * j + 11) (n := 9) (by omega) (by decide) (by decide))) ym_La_drawn qM_La_29 qS_La_drawn d_La_law_594 rfl (Nat.le_of_ble_eq_true rfl) ⟨by show _ ≤ 600086; omega, by show _ ≤ 7301442; omega⟩ ⟨Nat.le_of_ble_eq_true rfl, Nat.le_of_ble_eq_true rfl⟩ ?_
                refine z_iadd d_La_law_597 ?_
                refine z_topv (v := nI (1 + (zdw NN xs (12 * j + 11) 9))) (nI_add _ _) ?_
                obtain ⟨dz, hdz1, hdz9, edz⟩ : ∃ dz, 1 ≤ dz ∧ dz ≤ 9 ∧ 1 + (zdw NN xs (12 * j + 11) 9) = dz := ⟨_, by omega, by have := zdw_lt (NN := NN) (xs := xs) (k := 12 * j + 11) (m := 9) (by decide); omega, rfl⟩
                rw [edz]
                refine z_istore (L' := [(6, _), (7, _), (5, _), (4, _), (3, _), (2, _), (1, _), (0, _)]) d_La_law_598 (by decide) rfl ?_
                refine z_iload_n 4 d_La_law_600 rfl rfl ?_
                refine z_iload 0 d_La_law_601 rfl ?_
                refine z_iadd d_La_law_603 ?_
                refine z_topv (v := nI (dy + dz)) (nI_add _ _) ?_
                refine z_istore_n (L' := [(3, _), (6, _), (7, _), (5, _), (4, _), (2, _), (1, _), (0, _)]) d_La_law_604 rfl (by decide) rfl ?_
                refine z_aload_n 6 d_La_law_605 rfl rfl ?_
                refine z_iload 1 d_La_law_606 rfl ?_
                refine z_callV ((m_Tb_pass hs0 hst hQ5.sw.t (nI dz))) ym_Tb_pass qM_La_88 qI_Tb_pass qV_Tb_Tb_pass zc_Tb hQ5.sw.t.tb d_La_law_608 rfl (Nat.le_of_ble_eq_true rfl) ⟨by show _ ≤ 600086; omega, by show _ ≤ 7301442; omega⟩ ⟨Nat.le_of_ble_eq_true rfl, Nat.le_of_ble_eq_true rfl⟩ ?_ ?_
                · exact fun E G9 hx => (gX_pass hSo (gKn_day.trans hdy1) hdz1 (by omega) (by omega) hx).elim
                intro r_608 G_608 hp_608
                obtain ⟨hr_608, U6, hT6, hF6, hS6⟩ := gL_pass hSo (gKn_day.trans hdy1) hp_608
                obtain rfl : r_608 = _ := hr_608
                have hQ6 := (hQ5.sw.ask hT6 hF6).sw
                refine z_iload_n 0 d_La_law_611 rfl rfl ?_
                refine z_icmp_eq 617 d_La_law_612 (by decide) (fun c_612 => ?_) (fun c_612 => absurd rfl c_612)
                refine z_iconst (v := (nI 0)) d_La_law_617 (by decide) ?_
                refine z_istore (L' := [(7, _), (3, _), (6, _), (5, _), (4, _), (2, _), (1, _), (0, _)]) d_La_law_618 (by decide) rfl ?_
                refine z_sub (L' := [(7, _), (3, _), (6, _), (4, _), (2, _), (1, _), (0, _)]) [0, 1, 2, 4, 5, 6, 7] rfl ?_
                have key_620 : ∀ (n : Nat) (t : Nat) (G6 : zG) (V6 : Nat → Nat → Int32), dz - t < n → (t ≤ dz) → (zQ d A4 D4 V6 nk1 ns1 B3 E3 U6 nk1 ns1 G6) → (zSM (10 * j + 2) V6 (gDt (gKn W1) t) nk1 ns1 ne1) → Z g0 d ⟨"ThreeboxesLaw", nm, ds⟩ code 14 ret tb p l e room_1 g0 m #[Value.ref b] below meth c (lw_Z below #[Value.ref b] g0) (100 + 3000 * j + 2000 + 10 * t) (2000 + 60000 * j + 42000 + 40 * t) (G6) [(7, .int (nI t)), (3, .int (nI (dy + dz))), (6, .int (nI dz)), (4, .int (nI j)), (2, .ref (A4 0)), (1, .ref (B3 0)), (0, .ref b)] [] 620 := by
                  intro n
                  induction n with
                  | zero => intro t G6 V6 h0; exact absurd h0 (Nat.not_lt_zero _)
                  | succ n ih_620 =>
                    intro t G6 V6 hm_620 ht hQt hSt
                    refine z_iload 0 d_La_law_620 rfl ?_
                    refine z_iload 2 d_La_law_622 rfl ?_
                    refine z_icmp_ge 652 d_La_law_624 (by decide) (fun c_624 => ?_) (fun c_624 => ?_)
                    · skip
                      have htd : dz ≤ t := (nI_leI (by first | decide | omega) (by first | decide | omega)).mp c_624
                      obtain rfl : dz = t := by omega
                      obtain ⟨dq, rfl⟩ : ∃ dq, dz = dq + 1 := ⟨dz - 1, by omega⟩
                      rw [gDt_eq] at hSt
                      have hP9 : gP (gDy (gKn W1) (nI (dq + 1))) nk1 ns1 := (hP1.r0 hnk1 hns1 _).r0 hnk1 hns1 _
                      have hdd : gDy (gKn W1) (nI (dq + 1)) 0 2 = nI (dy + (dq + 1)) := by
                        rw [← gDt_eq]
                        exact gDt_day (gKn_day.trans hdy1) _
                      refine z_iload 3 d_La_law_652 rfl ?_
                      refine z_bipush (v := (nI 10)) d_La_law_654 (by decide) ?_
                      refine z_irem d_La_law_656 (by decide) ?_
                      refine z_if_ne 674 d_La_law_657 (by decide) (fun c_657 => ?_) (fun c_657 => ?_)
                      · skip
                        refine z_iinc (v := nI (j + 1)) (L' := [(4, _), (7, _), (3, _), (6, _), (2, _), (1, _), (0, _)]) 3 d_La_law_674 rfl (nI_1 j) (by decide) rfl ?_
                        refine z_goto 21 d_La_law_677 (by decide) ?_
                        refine z_sub (L' := [(4, _), (3, _), (2, _), (1, _), (0, _)]) [0, 2, 4, 5, 6] rfl ?_
                        refine z_widen (k := (100 + 3000 * (j + 1))) (n := (2000 + 60000 * (j + 1))) (by omega) (by omega) ?_
                        first
                          | exact ih_21 (j + 1) (dy + (dq + 1)) _ (by omega) (by omega) (by omega) ⟨_, _, _, _, _, _, _, _, _, _, rfl, rfl, hQ9.sw, hS8.up (by omega), hS9.up (by omega), hP9, hnk1, hns1, hdd⟩
                          | exact ih_21 (j + 1) (dy + (dq + 1)) _ (by omega) (by omega) (by omega) ⟨_, _, _, _, _, _, _, _, _, _, rfl, rfl, hQt.sw, hS6.up (by omega), hSt.up (by omega), hP9, hnk1, hns1, hdd⟩
                      · skip
                        refine z_aload_n 5 d_La_law_660 rfl rfl ?_
                        refine z_callVp1 ((m_Tb_digestE hs0 hst hQt.sw.t (gq := gqW (gDy (gKn W1) (nI (dq + 1))) nk1) (hS6.gq (by omega) hnk1 hP9.t1) (hS6.sd (by omega)) hS6.2.2.2.2.1 zinv_v hS6.lie)) ym_Tb_digest qM_La_91 qI_Tb_digest qV_Tb_Tb_digest zc_Tb hQt.sw.t.tb d_La_law_661 rfl (Nat.le_of_ble_eq_true rfl) ⟨by show _ ≤ 600086; omega, by show _ ≤ 7301442; omega⟩ ⟨Nat.le_of_ble_eq_true rfl, Nat.le_of_ble_eq_true rfl⟩ (fun r_661 G_661 hp_661 => ?_)
                        obtain ⟨hr_661, E7, U7, hT7, hF7, hS8⟩ := gD_v hS6 hP9 (by omega) hnk1 hns1 hp_661
                        obtain rfl : r_661 = _ := hr_661
                        have hQ8 := (hQt.sw.ask hT7 hF7).sw
                        refine z_aload_n 4 d_La_law_664 rfl rfl ?_
                        refine z_callVp1 ((m_Tb_digestE hs0 hst hQ8.t (gq := gqW (gDy (gKn W1) (nI (dq + 1))) nk1) (hSt.gq (by omega) hnk1 hP9.t1) (hSt.sd (by omega)) hSt.2.2.2.2.1 zinv_v hSt.lie)) ym_Tb_digest qM_La_91 qI_Tb_digest qV_Tb_Tb_digest zc_Tb hQ8.t.tb d_La_law_665 rfl (Nat.le_of_ble_eq_true rfl) ⟨by show _ ≤ 600086; omega, by show _ ≤ 7301442; omega⟩ ⟨Nat.le_of_ble_eq_true rfl, Nat.le_of_ble_eq_true rfl⟩ (fun r_665 G_665 hp_665 => ?_)
                        obtain ⟨hr_665, D9, V9, hT9, hF9, hS9⟩ := gD_v hSt hP9 (by omega) hnk1 hns1 hp_665
                        obtain rfl : r_665 = _ := hr_665
                        have hQ9 := hQ8.ask hT9 hF9
                        refine z_lcmp d_La_law_668 ?_
                        refine z_if_eq 674 d_La_law_669 (by decide) (fun c_669 => ?_) (fun c_669 => absurd ((lg_cmp_eq _ _).mpr rfl) c_669)
                        refine z_iinc (v := nI (j + 1)) (L' := [(4, _), (7, _), (3, _), (6, _), (2, _), (1, _), (0, _)]) 3 d_La_law_674 rfl (nI_1 j) (by decide) rfl ?_
                        refine z_goto 21 d_La_law_677 (by decide) ?_
                        refine z_sub (L' := [(4, _), (3, _), (2, _), (1, _), (0, _)]) [0, 2, 4, 5, 6] rfl ?_
                        refine z_widen (k := (100 + 3000 * (j + 1))) (n := (2000 + 60000 * (j + 1))) (by omega) (by omega) ?_
                        first
                          | exact ih_21 (j + 1) (dy + (dq + 1)) _ (by omega) (by omega) (by omega) ⟨_, _, _, _, _, _, _, _, _, _, rfl, rfl, hQ9.sw, hS8.up (by omega), hS9.up (by omega), hP9, hnk1, hns1, hdd⟩
                          | exact ih_21 (j + 1) (dy + (dq + 1)) _ (by omega) (by omega) (by omega) ⟨_, _, _, _, _, _, _, _, _, _, rfl, rfl, hQt.sw, hS6.up (by omega), hSt.up (by omega), hP9, hnk1, hns1, hdd⟩
                    · skip
                      have ht6 : t < dz := by
                        by_cases q : t < dz
                        · exact q
                        · exact absurd ((nI_leI (by first | decide | omega) (by first | decide | omega)).mpr (show dz ≤ t by omega)) c_624
                      refine z_aload_n 4 d_La_law_627 rfl rfl ?_
                      refine z_iconst (v := (nI 1)) d_La_law_628 (by decide) ?_
                      refine z_callV ((m_Tb_pass hs0 hst hQt.t (nI 1))) ym_Tb_pass qM_La_88 qI_Tb_pass qV_Tb_Tb_pass zc_Tb hQt.t.tb d_La_law_629 rfl (Nat.le_of_ble_eq_true rfl) ⟨by show _ ≤ 600086; omega, by show _ ≤ 7301442; omega⟩ ⟨Nat.le_of_ble_eq_true rfl, Nat.le_of_ble_eq_true rfl⟩ ?_ ?_
                      · exact fun E G9 hx => (gX_pass hSt (gDt_day (gKn_day.trans hdy1) t) (by decide) (by decide) (by omega) hx).elim
                      intro r_629 G_629 hp_629
                      obtain ⟨hr_629, V7, hT7, hF7, hS7⟩ := gL_pass hSt (gDt_day (gKn_day.trans hdy1) t) hp_629
                      obtain rfl : r_629 = _ := hr_629
                      have hQ7 := hQt.ask hT7 hF7
                      refine z_iload_n 1 d_La_law_632 rfl rfl ?_
                      refine z_iload 2 d_La_law_633 rfl ?_
                      refine z_isub d_La_law_635 ?_
                      refine z_topv (v := nI dy) (by rw [← nI_add, Int32.add_sub_cancel]) ?_
                      refine z_iload 0 d_La_law_636 rfl ?_
                      refine z_iadd d_La_law_638 ?_
                      refine z_topv (v := nI (dy + t)) (nI_add _ _) ?_
                      refine z_iconst (v := (nI 1)) d_La_law_639 (by decide) ?_
                      refine z_iadd d_La_law_640 ?_
                      refine z_topv (v := nI (dy + t + 1)) (nI_add _ _) ?_
                      refine z_icmp_eq 646 d_La_law_641 (by decide) (fun c_641 => ?_) (fun c_641 => absurd rfl c_641)
                      refine z_iinc (v := nI (t + 1)) (L' := [(7, _), (3, _), (6, _), (4, _), (2, _), (1, _), (0, _)]) 0 d_La_law_646 rfl (nI_1 t) (by decide) rfl ?_
                      refine z_goto 620 d_La_law_649 (by decide) ?_
                      refine z_widen (k := (100 + 3000 * j + 2000 + 10 * (t + 1))) (n := (2000 + 60000 * j + 42000 + 40 * (t + 1))) (by omega) (by omega) ?_
                      exact ih_620 (t + 1) _ _ (by omega) (by omega) hQ7 hS7
                refine z_widen (k := (100 + 3000 * j + 2000 + 10 * 0)) (n := (2000 + 60000 * j + 42000 + 40 * 0)) (by omega) (by omega) ?_
                exact key_620 (dz + 1) 0 _ _ (by omega) (by omega) hQ6 hS5
              · skip
                have h41 : tw + 1 < 2 := by
                  by_cases q : tw + 1 < 2
                  · exact q
                  · exact absurd ((nI_leI (by first | decide | omega) (by first | decide | omega)).mpr (show 2 ≤ tw + 1 by omega)) c_41
                obtain ⟨y1, eA3, eB3, y4, y5, hSo⟩ := hTw.resolve_right (fun q => by have := q.1; omega)
                subst mk
                subst ms
                refine z_iload 0 d_La_law_44 rfl ?_
                refine z_if_ne 53 d_La_law_46 (by decide) (fun c_46 => ?_) (fun c_46 => absurd ((nI_z (by omega)).mp c_46) (by omega))
                refine z_aload_n 5 d_La_law_53 rfl rfl ?_
                refine z_sub (L' := [(6, _), (5, _), (4, _), (3, _), (2, _), (1, _), (0, _)]) [0, 2, 3, 4, 5, 6, 7] rfl ?_
                refine z_widen (k := (100 + 3000 * j + 1000 * (tw + 1))) (n := (2000 + 60000 * j + 20000 * (tw + 1))) (by omega) (by omega) ?_
                exact ih_54 (tw + 1) _ _ B3 E3 U3 A4 _ _ nk1 ns1 (by omega) (by omega) eB3 hQ5.sw hSo (Or.inr ⟨by omega, eB3, eA4.trans eA3, rfl, rfl, hS5⟩)
            have hJ_509 : ∀ (G4 : zG) (A4 : Nat → Nat) (D4 : Nat → UInt64) (V4 : Nat → Nat → Int32), (zQ d A4 D4 V4 nk1 ns1 B3 E3 U3 mk ms G4) → (A4 0 = A3 0) → (zSM (10 * j + 1) V4 W1 nk1 ns1 ne1) → (nk1 = nk) → (ns1 = ns) → ((zdw NN xs (12 * j + 5) ns) < ns) → Z g0 d ⟨"ThreeboxesLaw", nm, ds⟩ code 14 ret tb p l e room_1 g0 m #[Value.ref b] below meth c (lw_Z below #[Value.ref b] g0) (100 + 3000 * j + 1000 * tw + 300) (2000 + 60000 * j + 20000 * tw + 8000) (G4) [(11, .int (nI (zdw NN xs (12 * j + 5) ns))), (9, .int (nI (2 ^ nk - 1))), (8, .int (nI nk)), (7, .ref (A3 0)), (6, .int (nI tw)), (5, .int (nI (12 * j))), (4, .int (nI j)), (3, .int (nI dy)), (2, .ref x2), (1, .ref x1), (0, .ref b)] [] 509 := by
              intro G4 A4 D4 V4 hQ4 eA4 hS4 yk ys hsi
              rw [← eA4]
              subst nk1
              subst ns1
              refine z_iload 4 d_La_law_509 rfl ?_
              refine z_iconst (v := (nI 1)) d_La_law_511 (by decide) ?_
              refine z_icmp_ne 573 d_La_law_512 (by decide) (fun c_512 => ?_) (fun c_512 => ?_)
              · skip
                have hQ9 := hQ4
                have hS9 := hS4
                refine z_sub (L' := [(7, _), (6, _), (5, _), (4, _), (3, _), (2, _), (1, _), (0, _)]) [3, 4, 5, 6, 7, 8, 9, 10] rfl ?_
                refine z_widen (k := (100 + 3000 * j + 1000 * tw + 600)) (n := (2000 + 60000 * j + 20000 * tw + 16000)) (by omega) (by omega) ?_
                first
                  | exact hJ_573 _ _ _ _ hQ5 hN5.1 hS5
                  | (rw [eA4]; exact hJ_573 _ _ _ _ hQ9 eA4 hS9)
              · skip
                refine z_aload 3 d_La_law_515 rfl ?_
                refine z_iload 0 d_La_law_517 rfl ?_
                refine z_callV ((m_Tb_lostE hs0 hst hQ4.t _)) ym_Tb_lost qM_La_66 qI_Tb_lost qV_Tb_Tb_lost zc_Tb hQ4.t.tb d_La_law_519 rfl (Nat.le_of_ble_eq_true rfl) ⟨by show _ ≤ 600086; omega, by show _ ≤ 7301442; omega⟩ ⟨Nat.le_of_ble_eq_true rfl, Nat.le_of_ble_eq_true rfl⟩ ?_ ?_
                · exact fun E G9 hx => (gX_lost hns rfl hsi hx).elim
                intro r_519 G_519 hp_519
                obtain ⟨⟨u5, hr_519, hu5⟩, D6, V6, hT6, hF6, hS6⟩ := gLo_v hS4 hP1 hns rfl hsi hp_519
                obtain rfl : r_519 = _ := hr_519
                have hQ6 := hQ4.ask hT6 hF6
                refine z_ldc2d qXd_La_70 d_La_law_522 ?_
                refine z_dcmp d_La_law_525 ?_
                refine z_if_gt 571 d_La_law_526 (by decide) (fun c_526 => absurd c_526 (gcmp hu5)) (fun c_526 => ?_)
                refine z_aload 3 d_La_law_529 rfl ?_
                refine z_iload 0 d_La_law_531 rfl ?_
                refine z_callV ((m_Tb_fewestE hs0 hst hQ6.t _)) ym_Tb_fewest qM_La_72 qI_Tb_fewest qV_Tb_Tb_fewest zc_Tb hQ6.t.tb d_La_law_533 rfl (Nat.le_of_ble_eq_true rfl) ⟨by show _ ≤ 600086; omega, by show _ ≤ 7301442; omega⟩ ⟨Nat.le_of_ble_eq_true rfl, Nat.le_of_ble_eq_true rfl⟩ ?_ ?_
                · exact fun E G9 hx => (gX_fewest hns rfl hsi hx).elim
                intro r_533 G_533 hp_533
                obtain ⟨⟨v5, hr_533, hv5⟩, D7, V7, hT7, hF7, hS7⟩ := gF_v hS6 (by omega) hnk hns rfl hsi hp_533
                obtain rfl : r_533 = _ := hr_533
                have hQ7 := hQ6.ask hT7 hF7
                refine z_iload 1 d_La_law_536 rfl ?_
                refine z_icmp_gt 571 d_La_law_538 (by decide) (fun c_538 => absurd c_538 hv5) (fun c_538 => ?_)
                refine z_aload 3 d_La_law_541 rfl ?_
                refine z_iload 0 d_La_law_543 rfl ?_
                refine z_callV ((m_Tb_row hs0 hst hQ7.t _)) ym_Tb_row qM_La_75 qI_Tb_row qV_Tb_Tb_row zc_Tb hQ7.t.tb d_La_law_545 rfl (Nat.le_of_ble_eq_true rfl) ⟨by show _ ≤ 600086; omega, by show _ ≤ 7301442; omega⟩ ⟨Nat.le_of_ble_eq_true rfl, Nat.le_of_ble_eq_true rfl⟩ ?_ ?_
                · exact fun E G9 hx => (gX_row hns rfl hsi hx).elim
                intro r_545 G_545 hp_545
                obtain ⟨⟨q5, b5, g5, cn, hr_545, hq5, hb5, hnc, hcn⟩, D8, V8, hT8, hF8, hS8⟩ := gRo_v (x := 0) hS7 hp_545
                obtain rfl : r_545 = _ := hr_545
                have hQ8 := hQ7.ask hT8 hF8
                refine z_callV0 ((m_St_length hs0 hst hq5 hb5 hcn)) ym_St_length qM_La_79 qI_St_length qV_St_St_length zc_St hq5 d_La_law_548 rfl (Nat.le_of_ble_eq_true rfl) ⟨by show _ ≤ 600086; omega, by show _ ≤ 7301442; omega⟩ ⟨Nat.le_of_ble_eq_true rfl, Nat.le_of_ble_eq_true rfl⟩ ?_
                refine z_iload 2 d_La_law_551 rfl ?_
                refine z_icmp_lt 571 d_La_law_553 (by decide) (fun c_553 => absurd ((nI_ltI (by omega) (by omega)).mp c_553) (by omega)) (fun c_553 => ?_)
                refine z_aload 3 d_La_law_556 rfl ?_
                refine z_iload 0 d_La_law_558 rfl ?_
                refine z_iload 1 d_La_law_560 rfl ?_
                refine z_iconst (v := (nI 5)) d_La_law_562 (by decide) ?_
                refine z_callV ((m_Tb_wouldE hs0 hst hQ8.t _ _ _)) ym_Tb_would qM_La_41 qI_Tb_would qV_Tb_Tb_would zc_Tb hQ8.t.tb d_La_law_563 rfl (Nat.le_of_ble_eq_true rfl) ⟨by show _ ≤ 600086; omega, by show _ ≤ 7301442; omega⟩ ⟨Nat.le_of_ble_eq_true rfl, Nat.le_of_ble_eq_true rfl⟩ ?_ ?_
                · exact fun E G9 hx => (gX_would hnk hns rfl rfl (q := 5) rfl hsi (by have := Nat.two_pow_pos nk; omega) (by decide) hx).elim
                intro r_563 G_563 hp_563
                obtain ⟨hr_563, Dq, Vq, hTq, hFq, hS9⟩ := gW_v hS8 hP1 (by omega) hnk hns rfl rfl (q := 5) rfl hsi (by have := Nat.two_pow_pos nk; omega) (by decide) hp_563
                obtain rfl : r_563 = _ := hr_563
                have hQ9 := hQ8.ask hTq hFq
                refine z_iload 2 d_La_law_566 rfl ?_
                refine z_icmp_le 573 d_La_law_568 (by decide) (fun c_568 => ?_) (fun c_568 => absurd (gW_5 hS8 hnk hsi) c_568)
                refine z_sub (L' := [(7, _), (6, _), (5, _), (4, _), (3, _), (2, _), (1, _), (0, _)]) [3, 4, 5, 6, 7, 8, 9, 10] rfl ?_
                refine z_widen (k := (100 + 3000 * j + 1000 * tw + 600)) (n := (2000 + 60000 * j + 20000 * tw + 16000)) (by omega) (by omega) ?_
                first
                  | exact hJ_573 _ _ _ _ hQ5 hN5.1 hS5
                  | (rw [eA4]; exact hJ_573 _ _ _ _ hQ9 eA4 hS9)
            refine z_astore (L' := [(7, _), (6, _), (5, _), (4, _), (3, _), (2, _), (1, _), (0, _)]) d_La_law_54 (by decide) rfl ?_
            refine z_aload 0 d_La_law_56 rfl ?_
            refine z_iconst (v := (nI 0)) d_La_law_58 (by decide) ?_
            refine z_callV ((m_Tb_bankE hs0 hst hQ.t (nI 0))) ym_Tb_bank qM_La_26 qI_Tb_bank qV_Tb_Tb_bank zc_Tb hQ.t.tb d_La_law_59 rfl (Nat.le_of_ble_eq_true rfl) ⟨by show _ ≤ 600086; omega, by show _ ≤ 7301442; omega⟩ ⟨Nat.le_of_ble_eq_true rfl, Nat.le_of_ble_eq_true rfl⟩ ?_ ?_
            · exact fun E G9 hx => (gX_bank (q := 0) (by decide) hx).elim
            intro r_59 G_59 hp_59
            obtain ⟨hr_59, Da, Va, hTa, hFa, hSa4⟩ := gB_0 hS hp_59
            obtain rfl : r_59 = _ := hr_59
            have hQa := hQ.ask hTa hFa
            refine z_istore (L' := [(8, _), (7, _), (6, _), (5, _), (4, _), (3, _), (2, _), (1, _), (0, _)]) d_La_law_62 (by decide) rfl ?_
            refine z_iconst (v := 1) d_La_law_64 (by decide) ?_
            refine z_iload 0 d_La_law_65 rfl ?_
            refine z_ishl d_La_law_67 ?_
            refine z_iconst (v := 1) d_La_law_68 (by decide) ?_
            refine z_isub d_La_law_69 ?_
            refine z_topv (v := nI (2 ^ nk - 1)) (gall nk hnk) ?_
            refine z_istore (L' := [(9, _), (8, _), (7, _), (6, _), (5, _), (4, _), (3, _), (2, _), (1, _), (0, _)]) d_La_law_70 (by decide) rfl ?_
            refine z_aload 2 d_La_law_72 rfl ?_
            refine z_iconst (v := (nI 1)) d_La_law_74 (by decide) ?_
            refine z_callV ((m_Tb_bankE hs0 hst hQa.t (nI 1))) ym_Tb_bank qM_La_26 qI_Tb_bank qV_Tb_Tb_bank zc_Tb hQa.t.tb d_La_law_75 rfl (Nat.le_of_ble_eq_true rfl) ⟨by show _ ≤ 600086; omega, by show _ ≤ 7301442; omega⟩ ⟨Nat.le_of_ble_eq_true rfl, Nat.le_of_ble_eq_true rfl⟩ ?_ ?_
            · exact fun E G9 hx => (gX_bank (q := 1) (by decide) hx).elim
            intro r_75 G_75 hp_75
            obtain ⟨hr_75, Db, Vb, hTb, hFb, hSb4⟩ := gB_1 hSa4 hp_75
            obtain rfl : r_75 = _ := hr_75
            have hQb := hQa.ask hTb hFb
            refine z_istore (L' := [(10, _), (9, _), (8, _), (7, _), (6, _), (5, _), (4, _), (3, _), (2, _), (1, _), (0, _)]) d_La_law_78 (by decide) rfl ?_
            refine z_iload 2 d_La_law_80 rfl ?_
            refine z_bipush (v := (nI 8)) d_La_law_82 (by decide) ?_
            refine z_icmp_ge 97 d_La_law_84 (by decide) (fun c_84 => ?_) (fun c_84 => ?_)
            · skip
              have h84 : 8 ≤ nk := (nI_leI (by first | decide | omega) (by first | decide | omega)).mp c_84
              refine z_iload 2 d_La_law_97 rfl ?_
              refine z_if_ne 142 d_La_law_99 (by decide) (fun c_99 => ?_) (fun c_99 => ?_)
              · skip
                have hn0 : nk ≠ 0 := fun q => c_99 ((congrArg nI q).trans nI_0)
                have hc1 : ¬ ((nk < 8 ∧ zdw NN xs (12 * j + 0) 3 = 0) ∨ nk = 0) := by
                  rintro (q | q)
                  · first | exact absurd q.1 (by omega) | exact h94 q.2
                  · exact hn0 q
                refine z_iload 0 d_La_law_142 rfl ?_
                refine z_bipush (v := (nI 6)) d_La_law_144 (by decide) ?_
                refine z_icmp_ge 161 d_La_law_146 (by decide) (fun c_146 => ?_) (fun c_146 => ?_)
                · skip
                  have h146 : 6 ≤ ns := (nI_leI (by first | decide | omega) (by first | decide | omega)).mp c_146
                  refine z_iload 0 d_La_law_161 rfl ?_
                  refine z_if_ne 224 d_La_law_163 (by decide) (fun c_163 => ?_) (fun c_163 => ?_)
                  · skip
                    have hs9 : ns ≠ 0 := fun q => c_163 ((congrArg nI q).trans nI_0)
                    have hc2 : ¬ ((ns < 6 ∧ zdw NN xs (12 * j + 4) 3 = 0) ∨ ns = 0) := by
                      rintro (q | q)
                      · first | exact absurd q.1 (by omega) | exact h158 q.2
                      · exact hs9 q
                    obtain ⟨hX9, y1, y2⟩ := gCs_X hR hc1 hc2
                    subst nk1
                    subst ns1
                    have hns0 : 0 < ns := by omega
                    have hnk0 : 0 < nk := by omega
                    have hsi : (zdw NN xs (12 * j + 5) ns) < ns := zdw_lt hns0
                    have hgl : (zdw NN xs (12 * j + 6) (2 ^ nk) ||| zdw NN xs (12 * j + 7) (2 ^ nk)) < 2 ^ nk := Nat.or_lt_two_pow (zdw_lt (Nat.two_pow_pos nk)) (zdw_lt (Nat.two_pow_pos nk))
                    have hki : (zdw NN xs (12 * j + 8) nk) < nk := zdw_lt hnk0
                    have hp2 := zpw hnk
                    refine z_aload_n 10 d_La_law_224 rfl rfl ?_
                    refine z_iload 5 d_La_law_225 rfl ?_
                    refine z_iconst (v := (nI 5)) d_La_law_227 (by decide) ?_
                    refine z_iadd d_La_law_228 ?_
                    refine z_topv (v := nI (12 * j + 5)) (nI_add _ _) ?_
                    refine z_iload 0 d_La_law_229 rfl ?_
                    refine z_callS0 ((m_La_drawn hs0 hst hX hbl hNN (k := 12 * j + 5) (n := ns) (by omega) (by omega) (by omega))) ym_La_drawn qM_La_29 qS_La_drawn d_La_law_231 rfl (Nat.le_of_ble_eq_true rfl) ⟨by show _ ≤ 600086; omega, by show _ ≤ 7301442; omega⟩ ⟨Nat.le_of_ble_eq_true rfl, Nat.le_of_ble_eq_true rfl⟩ ?_
                    refine z_istore (L' := [(11, _), (10, _), (9, _), (8, _), (7, _), (6, _), (5, _), (4, _), (3, _), (2, _), (1, _), (0, _)]) d_La_law_234 (by decide) rfl ?_
                    refine z_aload_n 11 d_La_law_236 rfl rfl ?_
                    refine z_iload 6 d_La_law_237 rfl ?_
                    refine z_bipush (v := (nI 6)) d_La_law_239 (by decide) ?_
                    refine z_iadd d_La_law_241 ?_
                    refine z_topv (v := nI (12 * j + 6)) (nI_add _ _) ?_
                    refine z_iload 2 d_La_law_242 rfl ?_
                    refine z_iconst (v := (nI 1)) d_La_law_244 (by decide) ?_
                    refine z_iadd d_La_law_245 ?_
                    refine z_topv (v := nI (2 ^ nk)) (g2p nk) ?_
                    refine z_callS0 ((m_La_drawn hs0 hst hX hbl hNN (k := 12 * j + 6) (n := (2 ^ nk)) (by omega) (Nat.two_pow_pos nk) (by have := zpw hnk; omega))) ym_La_drawn qM_La_29 qS_La_drawn d_La_law_246 rfl (Nat.le_of_ble_eq_true rfl) ⟨by show _ ≤ 600086; omega, by show _ ≤ 7301442; omega⟩ ⟨Nat.le_of_ble_eq_true rfl, Nat.le_of_ble_eq_true rfl⟩ ?_
                    refine z_aload_n 11 d_La_law_249 rfl rfl ?_
                    refine z_iload 6 d_La_law_250 rfl ?_
                    refine z_bipush (v := (nI 7)) d_La_law_252 (by decide) ?_
                    refine z_iadd d_La_law_254 ?_
                    refine z_topv (v := nI (12 * j + 7)) (nI_add _ _) ?_
                    refine z_iload 2 d_La_law_255 rfl ?_
                    refine z_iconst (v := (nI 1)) d_La_law_257 (by decide) ?_
                    refine z_iadd d_La_law_258 ?_
                    refine z_topv (v := nI (2 ^ nk)) (g2p nk) ?_
                    refine z_callS0 ((m_La_drawn hs0 hst hX hbl hNN (k := 12 * j + 7) (n := (2 ^ nk)) (by omega) (Nat.two_pow_pos nk) (by have := zpw hnk; omega))) ym_La_drawn qM_La_29 qS_La_drawn d_La_law_259 rfl (Nat.le_of_ble_eq_true rfl) ⟨by show _ ≤ 600086; omega, by show _ ≤ 7301442; omega⟩ ⟨Nat.le_of_ble_eq_true rfl, Nat.le_of_ble_eq_true rfl⟩ ?_
                    refine z_ior d_La_law_262 ?_
                    refine z_topv (v := nI ((zdw NN xs (12 * j + 6) (2 ^ nk)) ||| (zdw NN xs (12 * j + 7) (2 ^ nk)))) (gor _ (by have := zpw hnk; have := zdw_lt (NN := NN) (xs := xs) (k := 12 * j + 6) (Nat.two_pow_pos nk); omega) _ (by have := zpw hnk; have := zdw_lt (NN := NN) (xs := xs) (k := 12 * j + 7) (Nat.two_pow_pos nk); omega)) ?_
                    refine z_istore (L' := [(12, _), (11, _), (10, _), (9, _), (8, _), (7, _), (6, _), (5, _), (4, _), (3, _), (2, _), (1, _), (0, _)]) d_La_law_263 (by decide) rfl ?_
                    refine z_aload_n 12 d_La_law_265 rfl rfl ?_
                    refine z_iload 7 d_La_law_266 rfl ?_
                    refine z_bipush (v := (nI 8)) d_La_law_268 (by decide) ?_
                    refine z_iadd d_La_law_270 ?_
                    refine z_topv (v := nI (12 * j + 8)) (nI_add _ _) ?_
                    refine z_iload 4 d_La_law_271 rfl ?_
                    refine z_callS0 ((m_La_drawn hs0 hst hX hbl hNN (k := 12 * j + 8) (n := nk) (by omega) (by omega) (by omega))) ym_La_drawn qM_La_29 qS_La_drawn d_La_law_273 rfl (Nat.le_of_ble_eq_true rfl) ⟨by show _ ≤ 600086; omega, by show _ ≤ 7301442; omega⟩ ⟨Nat.le_of_ble_eq_true rfl, Nat.le_of_ble_eq_true rfl⟩ ?_
                    refine z_istore (L' := [(13, _), (12, _), (11, _), (10, _), (9, _), (8, _), (7, _), (6, _), (5, _), (4, _), (3, _), (2, _), (1, _), (0, _)]) d_La_law_276 (by decide) rfl ?_
                    refine z_aload_n 13 d_La_law_278 rfl rfl ?_
                    refine z_iload 8 d_La_law_279 rfl ?_
                    refine z_bipush (v := (nI 9)) d_La_law_281 (by decide) ?_
                    refine z_iadd d_La_law_283 ?_
                    refine z_topv (v := nI (12 * j + 9)) (nI_add _ _) ?_
                    refine z_bipush (v := (nI 6)) d_La_law_284 (by decide) ?_
                    refine z_callS0 ((m_La_drawn hs0 hst hX hbl hNN (k := 12 * j + 9) (n := 6) (by omega) (by decide) (by decide))) ym_La_drawn qM_La_29 qS_La_drawn d_La_law_286 rfl (Nat.le_of_ble_eq_true rfl) ⟨by show _ ≤ 600086; omega, by show _ ≤ 7301442; omega⟩ ⟨Nat.le_of_ble_eq_true rfl, Nat.le_of_ble_eq_true rfl⟩ ?_
                    skip
                    by_cases e0 : zdw NN xs (12 * j + 9) 6 = 0
                    · rw [e0]
                      refine z_tableIn 324 d_La_law_289 (by decide) (by decide) rfl (by decide) ?_
                      refine z_aload 6 d_La_law_324 rfl ?_
                      refine z_iload 2 d_La_law_326 rfl ?_
                      refine z_iload 1 d_La_law_328 rfl ?_
                      refine z_iconst (v := (nI 0)) d_La_law_330 (by decide) ?_
                      refine z_callV ((m_Tb_wouldE hs0 hst hQb.t _ _ _)) ym_Tb_would qM_La_41 qI_Tb_would qV_Tb_Tb_would zc_Tb hQb.t.tb d_La_law_331 rfl (Nat.le_of_ble_eq_true rfl) ⟨by show _ ≤ 600086; omega, by show _ ≤ 7301442; omega⟩ ⟨Nat.le_of_ble_eq_true rfl, Nat.le_of_ble_eq_true rfl⟩ ?_ ?_
                      · exact fun E G9 hx => (gX_would hnk hns rfl rfl (q := 0) rfl hsi hgl (by decide) hx).elim
                      intro r_331 G_331 hp_331
                      obtain ⟨hr_331, D6, V6, hT6, hF6, hS6⟩ := gW_v hSb4 hP (by omega) hnk hns rfl rfl (q := 0) rfl hsi hgl (by decide) hp_331
                      obtain rfl : r_331 = _ := hr_331
                      have hQ6 := hQb.ask hT6 hF6
                      refine z_topv qWd_0 ?_
                      refine z_if_le 509 d_La_law_334 (by decide) (fun c_334 => ?_) (fun c_334 => ?_)
                      · skip
                        have hz := (gle0 gzp).mp c_334
                        obtain ⟨y1, y2⟩ := gCx_0n hX9 e0 hz
                        subst W1
                        subst ne1
                        have hQ5 := hQ6
                        have hS5 := hS6.up (N' := 10 * j + 1) (by omega)
                        have hN5 : A3 0 = A3 0 ∧ True := ⟨rfl, trivial⟩
                        refine z_sub (L' := [(11, _), (9, _), (8, _), (7, _), (6, _), (5, _), (4, _), (3, _), (2, _), (1, _), (0, _)]) [2, 4, 5, 6, 7, 8, 9, 10, 11, 12, 13] rfl ?_
                        refine z_widen (k := (100 + 3000 * j + 1000 * tw + 300)) (n := (2000 + 60000 * j + 20000 * tw + 8000)) (by omega) (by omega) ?_
                        exact hJ_509 _ _ _ _ hQ5 hN5.1 hS5 rfl rfl hsi
                      · skip
                        have hz : 0 < zpop 9 (mgr W (zdw NN xs (12 * j + 5) ns) (zdw NN xs (12 * j + 6) (2 ^ nk) ||| zdw NN xs (12 * j + 7) (2 ^ nk))) := by
                          by_cases q : 0 < zpop 9 (mgr W (zdw NN xs (12 * j + 5) ns) (zdw NN xs (12 * j + 6) (2 ^ nk) ||| zdw NN xs (12 * j + 7) (2 ^ nk)))
                          · exact q
                          · exact absurd ((gle0 gzp).mpr q) c_334
                        refine z_aload 6 d_La_law_337 rfl ?_
                        refine z_iload 2 d_La_law_339 rfl ?_
                        refine z_iload 1 d_La_law_341 rfl ?_
                        refine z_callV ((m_Tb_freshE hs0 hst hQ6.t _ _)) ym_Tb_fresh qM_La_44 qI_Tb_fresh qV_Tb_Tb_fresh zc_Tb hQ6.t.tb d_La_law_343 rfl (Nat.le_of_ble_eq_true rfl) ⟨by show _ ≤ 600086; omega, by show _ ≤ 7301442; omega⟩ ⟨Nat.le_of_ble_eq_true rfl, Nat.le_of_ble_eq_true rfl⟩ ?_ ?_
                        · exact fun E G9 hx => (gX_fresh hS6 hP (by omega) hnk hns rfl rfl hsi hgl hz hx).elim
                        intro r_343 G_343 hp_343
                        obtain ⟨v9, hv9⟩ := gV_fresh hp_343
                        obtain rfl : r_343 = _ := hv9
                        obtain ⟨A5, D5, V5, hT5, hN5, hF5, hS5⟩ := gL_fresh hS6 hP (by omega) hnk hns rfl rfl hsi hgl (gCx_0 hX9 e0 hz) hp_343
                        have hQ5 := hQ6.act hT5 hN5 hF5
                        refine z_pop d_La_law_346 rfl ?_
                        refine z_goto 509 d_La_law_347 (by decide) ?_
                        refine z_sub (L' := [(11, _), (9, _), (8, _), (7, _), (6, _), (5, _), (4, _), (3, _), (2, _), (1, _), (0, _)]) [2, 4, 5, 6, 7, 8, 9, 10, 11, 12, 13] rfl ?_
                        refine z_widen (k := (100 + 3000 * j + 1000 * tw + 300)) (n := (2000 + 60000 * j + 20000 * tw + 8000)) (by omega) (by omega) ?_
                        exact hJ_509 _ _ _ _ hQ5 hN5.1 hS5 rfl rfl hsi
                    by_cases e1 : zdw NN xs (12 * j + 9) 6 = 1
                    · rw [e1]
                      refine z_tableIn 350 d_La_law_289 (by decide) (by decide) rfl (by decide) ?_
                      refine z_aload 6 d_La_law_350 rfl ?_
                      refine z_aload_n 13 d_La_law_352 rfl rfl ?_
                      refine z_iload 8 d_La_law_353 rfl ?_
                      refine z_bipush (v := (nI 10)) d_La_law_355 (by decide) ?_
                      refine z_iadd d_La_law_357 ?_
                      refine z_topv (v := nI (12 * j + 10)) (nI_add _ _) ?_
                      refine z_iconst (v := (nI 4)) d_La_law_358 (by decide) ?_
                      refine z_callS0 ((m_La_drawn hs0 hst hX hbl hNN (k := 12 * j + 10) (n := 4) (by omega) (by decide) (by decide))) ym_La_drawn qM_La_29 qS_La_drawn d_La_law_359 rfl (Nat.le_of_ble_eq_true rfl) ⟨by show _ ≤ 600086; omega, by show _ ≤ 7301442; omega⟩ ⟨Nat.le_of_ble_eq_true rfl, Nat.le_of_ble_eq_true rfl⟩ ?_
                      refine z_callV ((m_Tb_floodE hs0 hst hQb.t _)) ym_Tb_flood qM_La_47 qI_Tb_flood qV_Tb_Tb_flood zc_Tb hQb.t.tb d_La_law_362 rfl (Nat.le_of_ble_eq_true rfl) ⟨by show _ ≤ 600086; omega, by show _ ≤ 7301442; omega⟩ ⟨Nat.le_of_ble_eq_true rfl, Nat.le_of_ble_eq_true rfl⟩ ?_ ?_
                      · exact fun E G9 hx => (gX_flood rfl (zdw_lt (by decide)) hx).elim
                      intro r_362 G_362 hp_362
                      obtain ⟨v9, hv9⟩ := gV_flood hp_362
                      obtain rfl : r_362 = _ := hv9
                      obtain ⟨A5, D5, V5, hT5, hN5, hF5, hS5⟩ := gL_flood hSb4 hnk hns (gCx_1 hX9 e0 e1) hp_362
                      have hQ5 := hQb.act hT5 hN5 hF5
                      refine z_pop d_La_law_365 rfl ?_
                      refine z_goto 509 d_La_law_366 (by decide) ?_
                      refine z_sub (L' := [(11, _), (9, _), (8, _), (7, _), (6, _), (5, _), (4, _), (3, _), (2, _), (1, _), (0, _)]) [2, 4, 5, 6, 7, 8, 9, 10, 11, 12, 13] rfl ?_
                      refine z_widen (k := (100 + 3000 * j + 1000 * tw + 300)) (n := (2000 + 60000 * j + 20000 * tw + 8000)) (by omega) (by omega) ?_
                      exact hJ_509 _ _ _ _ hQ5 hN5.1 hS5 rfl rfl hsi
                    by_cases e2 : zdw NN xs (12 * j + 9) 6 = 2
                    · rw [e2]
                      refine z_tableIn 369 d_La_law_289 (by decide) (by decide) rfl (by decide) ?_
                      refine z_aload 6 d_La_law_369 rfl ?_
                      refine z_iload 2 d_La_law_371 rfl ?_
                      refine z_iconst (v := (nI 4)) d_La_law_373 (by decide) ?_
                      refine z_callV ((m_Tb_ofSecretE hs0 hst hQb.t _ _)) ym_Tb_ofSecret qM_La_50 qI_Tb_ofSecret qV_Tb_Tb_ofSecret zc_Tb hQb.t.tb d_La_law_374 rfl (Nat.le_of_ble_eq_true rfl) ⟨by show _ ≤ 600086; omega, by show _ ≤ 7301442; omega⟩ ⟨Nat.le_of_ble_eq_true rfl, Nat.le_of_ble_eq_true rfl⟩ ?_ ?_
                      · exact fun E G9 hx => (gX_ofSecret hns rfl (q := 4) rfl hsi (by decide) hx).elim
                      intro r_374 G_374 hp_374
                      obtain ⟨⟨v4, hr_374, hv4⟩, D6, V6, hT6, hF6, hS6⟩ := gS_4 hSb4 hP (by omega) hns rfl rfl hsi hp_374
                      obtain rfl : r_374 = _ := hr_374
                      have hQ6 := hQb.ask hT6 hF6
                      refine z_iload 0 d_La_law_377 rfl ?_
                      refine z_ishr d_La_law_379 ?_
                      refine z_iconst (v := 1) d_La_law_380 (by decide) ?_
                      refine z_iand d_La_law_381 ?_
                      refine z_if_ne 509 d_La_law_382 (by decide) (fun c_382 => ?_) (fun c_382 => ?_)
                      · skip
                        obtain ⟨y1, y2⟩ := gCx_2n hX9 e0 e1 e2 (fun q => c_382 ((hv4 _ (by omega)).mpr q.1))
                        subst W1
                        subst ne1
                        have hQ5 := hQ6
                        have hS5 := hS6.up (N' := 10 * j + 1) (by omega)
                        have hN5 : A3 0 = A3 0 ∧ True := ⟨rfl, trivial⟩
                        refine z_sub (L' := [(11, _), (9, _), (8, _), (7, _), (6, _), (5, _), (4, _), (3, _), (2, _), (1, _), (0, _)]) [2, 4, 5, 6, 7, 8, 9, 10, 11, 12, 13] rfl ?_
                        refine z_widen (k := (100 + 3000 * j + 1000 * tw + 300)) (n := (2000 + 60000 * j + 20000 * tw + 8000)) (by omega) (by omega) ?_
                        exact hJ_509 _ _ _ _ hQ5 hN5.1 hS5 rfl rfl hsi
                      · skip
                        have hz := (hv4 _ (by omega)).mp c_382
                        refine z_aload 6 d_La_law_385 rfl ?_
                        refine z_iload 2 d_La_law_387 rfl ?_
                        refine z_iload 1 d_La_law_389 rfl ?_
                        refine z_iconst (v := 1) d_La_law_391 (by decide) ?_
                        refine z_iload 0 d_La_law_392 rfl ?_
                        refine z_ishl d_La_law_394 ?_
                        refine z_iconst (v := (-1)) d_La_law_395 (by decide) ?_
                        refine z_ixor d_La_law_396 ?_
                        refine z_iand d_La_law_397 ?_
                        refine z_topv (gmin _ (by omega) _ (by omega)) ?_
                        refine z_iconst (v := (nI 2)) d_La_law_398 (by decide) ?_
                        refine z_callV ((m_Tb_wouldE hs0 hst hQ6.t _ _ _)) ym_Tb_would qM_La_41 qI_Tb_would qV_Tb_Tb_would zc_Tb hQ6.t.tb d_La_law_399 rfl (Nat.le_of_ble_eq_true rfl) ⟨by show _ ≤ 600086; omega, by show _ ≤ 7301442; omega⟩ ⟨Nat.le_of_ble_eq_true rfl, Nat.le_of_ble_eq_true rfl⟩ ?_ ?_
                        · exact fun E G9 hx => (gX_would hnk hns rfl rfl (q := 2) rfl hsi (gmin_lt hgl) (by decide) hx).elim
                        intro r_399 G_399 hp_399
                        obtain ⟨hr_399, D7, V7, hT7, hF7, hS7⟩ := gW_2 hS6 hP (by omega) hnk hns rfl rfl rfl hsi (gmin_lt hgl) hp_399
                        rw [gmin_mgr (by omega) hz] at hr_399
                        obtain rfl : r_399 = _ := hr_399
                        have hQ7 := hQ6.ask hT7 hF7
                        refine z_iconst (v := 1) d_La_law_402 (by decide) ?_
                        refine z_icmp_ne 509 d_La_law_403 (by decide) (fun c_403 => ?_) (fun c_403 => ?_)
                        · skip
                          obtain ⟨y1, y2⟩ := gCx_2n hX9 e0 e1 e2 (fun q => c_403 (by rw [q.2]; rfl))
                          subst W1
                          subst ne1
                          have hQ5 := hQ7
                          have hS5 := hS7.up (N' := 10 * j + 1) (by omega)
                          have hN5 : A3 0 = A3 0 ∧ True := ⟨rfl, trivial⟩
                          refine z_sub (L' := [(11, _), (9, _), (8, _), (7, _), (6, _), (5, _), (4, _), (3, _), (2, _), (1, _), (0, _)]) [2, 4, 5, 6, 7, 8, 9, 10, 11, 12, 13] rfl ?_
                          refine z_widen (k := (100 + 3000 * j + 1000 * tw + 300)) (n := (2000 + 60000 * j + 20000 * tw + 8000)) (by omega) (by omega) ?_
                          exact hJ_509 _ _ _ _ hQ5 hN5.1 hS5 rfl rfl hsi
                        · skip
                          have hgd := gz1 (by first | exact c_403 | exact Decidable.not_not.mp c_403)
                          refine z_aload 6 d_La_law_406 rfl ?_
                          refine z_iload 2 d_La_law_408 rfl ?_
                          refine z_iload 0 d_La_law_410 rfl ?_
                          refine z_iload 1 d_La_law_412 rfl ?_
                          refine z_callV ((m_Tb_rebuildE hs0 hst hQ7.t _ _ _)) ym_Tb_rebuild qM_La_53 qI_Tb_rebuild qV_Tb_Tb_rebuild zc_Tb hQ7.t.tb d_La_law_414 rfl (Nat.le_of_ble_eq_true rfl) ⟨by show _ ≤ 600086; omega, by show _ ≤ 7301442; omega⟩ ⟨Nat.le_of_ble_eq_true rfl, Nat.le_of_ble_eq_true rfl⟩ ?_ ?_
                          · exact fun E G9 hx => (gX_rebuild hS7 hP (by omega) hnk hns rfl rfl rfl hsi hki hgl hz hgd hx).elim
                          intro r_414 G_414 hp_414
                          obtain ⟨v9, hv9⟩ := gV_rebuild hp_414
                          obtain rfl : r_414 = _ := hv9
                          obtain ⟨A5, D5, V5, hT5, hN5, hF5, hS5⟩ := gL_rebuild hS7 (by omega) hnk hns rfl rfl rfl hsi hki hgl (gCx_2 hX9 e0 e1 e2 hz hgd) hp_414
                          have hQ5 := hQ7.act hT5 hN5 hF5
                          refine z_pop d_La_law_417 rfl ?_
                          refine z_goto 509 d_La_law_418 (by decide) ?_
                          refine z_sub (L' := [(11, _), (9, _), (8, _), (7, _), (6, _), (5, _), (4, _), (3, _), (2, _), (1, _), (0, _)]) [2, 4, 5, 6, 7, 8, 9, 10, 11, 12, 13] rfl ?_
                          refine z_widen (k := (100 + 3000 * j + 1000 * tw + 300)) (n := (2000 + 60000 * j + 20000 * tw + 8000)) (by omega) (by omega) ?_
                          exact hJ_509 _ _ _ _ hQ5 hN5.1 hS5 rfl rfl hsi
                    by_cases e3 : zdw NN xs (12 * j + 9) 6 = 3
                    · rw [e3]
                      refine z_tableIn 421 d_La_law_289 (by decide) (by decide) rfl (by decide) ?_
                      refine z_aload 6 d_La_law_421 rfl ?_
                      refine z_iload 0 d_La_law_423 rfl ?_
                      refine z_aload_n 13 d_La_law_425 rfl rfl ?_
                      refine z_iload 8 d_La_law_426 rfl ?_
                      refine z_bipush (v := (nI 10)) d_La_law_428 (by decide) ?_
                      refine z_iadd d_La_law_430 ?_
                      refine z_topv (v := nI (12 * j + 10)) (nI_add _ _) ?_
                      refine z_iconst (v := (nI 3)) d_La_law_431 (by decide) ?_
                      refine z_callS0 ((m_La_drawn hs0 hst hX hbl hNN (k := 12 * j + 10) (n := 3) (by omega) (by decide) (by decide))) ym_La_drawn qM_La_29 qS_La_drawn d_La_law_432 rfl (Nat.le_of_ble_eq_true rfl) ⟨by show _ ≤ 600086; omega, by show _ ≤ 7301442; omega⟩ ⟨Nat.le_of_ble_eq_true rfl, Nat.le_of_ble_eq_true rfl⟩ ?_
                      refine z_if_ne 452 d_La_law_435 (by decide) (fun c_435 => ?_) (fun c_435 => ?_)
                      · skip
                        have hL3 := gCx_3b hX9 e0 e1 e2 e3 (fun q => c_435 ((congrArg nI q).trans nI_0))
                        refine z_iconst (v := (nI 0)) d_La_law_452 (by decide) ?_
                        refine z_callV ((m_Tb_lie hs0 hst hQb.t _ _)) ym_Tb_lie qM_La_56 qI_Tb_lie qV_Tb_Tb_lie zc_Tb hQb.t.tb d_La_law_453 rfl (Nat.le_of_ble_eq_true rfl) ⟨by show _ ≤ 600086; omega, by show _ ≤ 7301442; omega⟩ ⟨Nat.le_of_ble_eq_true rfl, Nat.le_of_ble_eq_true rfl⟩ ?_ ?_
                        · exact fun E G9 hx => (gX_lie hnk rfl rfl hki (by first | exact zdw_lt (by decide) | decide) hx).elim
                        intro r_453 G_453 hp_453
                        obtain ⟨v9, hv9⟩ := gV_lie hp_453
                        obtain rfl : r_453 = _ := hv9
                        obtain ⟨y1, y2⟩ := hL3
                        subst W1
                        subst ne1
                        obtain ⟨A5, D5, V5, hT5, hN5, hF5, hS5⟩ := gL_lie hSb4 hnk hns rfl hki hp_453
                        have hQ5 := hQb.act hT5 hN5 hF5
                        refine z_pop d_La_law_456 rfl ?_
                        refine z_goto 509 d_La_law_457 (by decide) ?_
                        refine z_sub (L' := [(11, _), (9, _), (8, _), (7, _), (6, _), (5, _), (4, _), (3, _), (2, _), (1, _), (0, _)]) [2, 4, 5, 6, 7, 8, 9, 10, 11, 12, 13] rfl ?_
                        refine z_widen (k := (100 + 3000 * j + 1000 * tw + 300)) (n := (2000 + 60000 * j + 20000 * tw + 8000)) (by omega) (by omega) ?_
                        exact hJ_509 _ _ _ _ hQ5 hN5.1 hS5 rfl rfl hsi
                      · skip
                        have hL3 := gCx_3a hX9 e0 e1 e2 e3 ((nI_z (by have := zdw_lt (NN := NN) (xs := xs) (k := 12 * j + 10) (m := 3) (by decide); omega)).mp c_435)
                        refine z_aload_n 13 d_La_law_438 rfl rfl ?_
                        refine z_iload 8 d_La_law_439 rfl ?_
                        refine z_bipush (v := (nI 11)) d_La_law_441 (by decide) ?_
                        refine z_iadd d_La_law_443 ?_
                        refine z_topv (v := nI (12 * j + 11)) (nI_add _ _) ?_
                        refine z_bipush (v := (nI 97)) d_La_law_444 (by decide) ?_
                        refine z_callS0 ((m_La_drawn hs0 hst hX hbl hNN (k := 12 * j + 11) (n := 97) (by omega) (by decide) (by decide))) ym_La_drawn qM_La_29 qS_La_drawn d_La_law_446 rfl (Nat.le_of_ble_eq_true rfl) ⟨by show _ ≤ 600086; omega, by show _ ≤ 7301442; omega⟩ ⟨Nat.le_of_ble_eq_true rfl, Nat.le_of_ble_eq_true rfl⟩ ?_
                        refine z_goto 453 d_La_law_449 (by decide) ?_
                        refine z_callV ((m_Tb_lie hs0 hst hQb.t _ _)) ym_Tb_lie qM_La_56 qI_Tb_lie qV_Tb_Tb_lie zc_Tb hQb.t.tb d_La_law_453 rfl (Nat.le_of_ble_eq_true rfl) ⟨by show _ ≤ 600086; omega, by show _ ≤ 7301442; omega⟩ ⟨Nat.le_of_ble_eq_true rfl, Nat.le_of_ble_eq_true rfl⟩ ?_ ?_
                        · exact fun E G9 hx => (gX_lie hnk rfl rfl hki (by first | exact zdw_lt (by decide) | decide) hx).elim
                        intro r_453 G_453 hp_453
                        obtain ⟨v9, hv9⟩ := gV_lie hp_453
                        obtain rfl : r_453 = _ := hv9
                        obtain ⟨y1, y2⟩ := hL3
                        subst W1
                        subst ne1
                        obtain ⟨A5, D5, V5, hT5, hN5, hF5, hS5⟩ := gL_lie hSb4 hnk hns rfl hki hp_453
                        have hQ5 := hQb.act hT5 hN5 hF5
                        refine z_pop d_La_law_456 rfl ?_
                        refine z_goto 509 d_La_law_457 (by decide) ?_
                        refine z_sub (L' := [(11, _), (9, _), (8, _), (7, _), (6, _), (5, _), (4, _), (3, _), (2, _), (1, _), (0, _)]) [2, 4, 5, 6, 7, 8, 9, 10, 11, 12, 13] rfl ?_
                        refine z_widen (k := (100 + 3000 * j + 1000 * tw + 300)) (n := (2000 + 60000 * j + 20000 * tw + 8000)) (by omega) (by omega) ?_
                        exact hJ_509 _ _ _ _ hQ5 hN5.1 hS5 rfl rfl hsi
                    by_cases e4 : zdw NN xs (12 * j + 9) 6 = 4
                    · rw [e4]
                      refine z_tableIn 460 d_La_law_289 (by decide) (by decide) rfl (by decide) ?_
                      refine z_aload 6 d_La_law_460 rfl ?_
                      refine z_aload_n 13 d_La_law_462 rfl rfl ?_
                      refine z_iload 8 d_La_law_463 rfl ?_
                      refine z_bipush (v := (nI 10)) d_La_law_465 (by decide) ?_
                      refine z_iadd d_La_law_467 ?_
                      refine z_topv (v := nI (12 * j + 10)) (nI_add _ _) ?_
                      refine z_iconst (v := (nI 2)) d_La_law_468 (by decide) ?_
                      refine z_callS0 ((m_La_drawn hs0 hst hX hbl hNN (k := 12 * j + 10) (n := 2) (by omega) (by decide) (by decide))) ym_La_drawn qM_La_29 qS_La_drawn d_La_law_469 rfl (Nat.le_of_ble_eq_true rfl) ⟨by show _ ≤ 600086; omega, by show _ ≤ 7301442; omega⟩ ⟨Nat.le_of_ble_eq_true rfl, Nat.le_of_ble_eq_true rfl⟩ ?_
                      refine z_iload 2 d_La_law_472 rfl ?_
                      refine z_aload_n 13 d_La_law_474 rfl rfl ?_
                      refine z_iload 8 d_La_law_475 rfl ?_
                      refine z_bipush (v := (nI 11)) d_La_law_477 (by decide) ?_
                      refine z_iadd d_La_law_479 ?_
                      refine z_topv (v := nI (12 * j + 11)) (nI_add _ _) ?_
                      refine z_iconst (v := (nI 2)) d_La_law_480 (by decide) ?_
                      refine z_callS0 ((m_La_drawn hs0 hst hX hbl hNN (k := 12 * j + 11) (n := 2) (by omega) (by decide) (by decide))) ym_La_drawn qM_La_29 qS_La_drawn d_La_law_481 rfl (Nat.le_of_ble_eq_true rfl) ⟨by show _ ≤ 600086; omega, by show _ ≤ 7301442; omega⟩ ⟨Nat.le_of_ble_eq_true rfl, Nat.le_of_ble_eq_true rfl⟩ ?_
                      refine z_if_ne 491 d_La_law_484 (by decide) (fun c_484 => ?_) (fun c_484 => ?_)
                      · skip
                        have hL4 := gCx_4b hX9 e0 e1 e2 e3 e4 (fun q => c_484 ((congrArg nI q).trans nI_0))
                        refine z_iconst (v := 0) d_La_law_491 (by decide) ?_
                        refine z_callV ((m_Tb_freeze hs0 hst hQb.t _ _ _)) ym_Tb_freeze qM_La_59 qI_Tb_freeze qV_Tb_Tb_freeze zc_Tb hQb.t.tb d_La_law_492 rfl (Nat.le_of_ble_eq_true rfl) ⟨by show _ ≤ 600086; omega, by show _ ≤ 7301442; omega⟩ ⟨Nat.le_of_ble_eq_true rfl, Nat.le_of_ble_eq_true rfl⟩ ?_ ?_
                        · exact fun E G9 hx => (gX_freeze (x3 := 0) hns rfl rfl (zdw_lt (by decide)) hsi hx).elim
                        intro r_492 G_492 hp_492
                        obtain ⟨v9, hv9⟩ := gV_freeze hp_492
                        obtain rfl : r_492 = _ := hv9
                        obtain ⟨y1, y2⟩ := hL4
                        subst W1
                        subst ne1
                        obtain ⟨A5, D5, V5, hT5, hN5, hF5, hS5⟩ := gL_freeze hSb4 hnk hns rfl hsi hp_492
                        have hQ5 := hQb.act hT5 hN5 hF5
                        refine z_pop d_La_law_495 rfl ?_
                        refine z_goto 509 d_La_law_496 (by decide) ?_
                        refine z_sub (L' := [(11, _), (9, _), (8, _), (7, _), (6, _), (5, _), (4, _), (3, _), (2, _), (1, _), (0, _)]) [2, 4, 5, 6, 7, 8, 9, 10, 11, 12, 13] rfl ?_
                        refine z_widen (k := (100 + 3000 * j + 1000 * tw + 300)) (n := (2000 + 60000 * j + 20000 * tw + 8000)) (by omega) (by omega) ?_
                        exact hJ_509 _ _ _ _ hQ5 hN5.1 hS5 rfl rfl hsi
                      · skip
                        have hL4 := gCx_4a hX9 e0 e1 e2 e3 e4 ((nI_z (by have := zdw_lt (NN := NN) (xs := xs) (k := 12 * j + 11) (m := 2) (by decide); omega)).mp c_484)
                        refine z_iconst (v := 1) d_La_law_487 (by decide) ?_
                        refine z_goto 492 d_La_law_488 (by decide) ?_
                        refine z_callV ((m_Tb_freeze hs0 hst hQb.t _ _ _)) ym_Tb_freeze qM_La_59 qI_Tb_freeze qV_Tb_Tb_freeze zc_Tb hQb.t.tb d_La_law_492 rfl (Nat.le_of_ble_eq_true rfl) ⟨by show _ ≤ 600086; omega, by show _ ≤ 7301442; omega⟩ ⟨Nat.le_of_ble_eq_true rfl, Nat.le_of_ble_eq_true rfl⟩ ?_ ?_
                        · exact fun E G9 hx => (gX_freeze (x3 := 0) hns rfl rfl (zdw_lt (by decide)) hsi hx).elim
                        intro r_492 G_492 hp_492
                        obtain ⟨v9, hv9⟩ := gV_freeze hp_492
                        obtain rfl : r_492 = _ := hv9
                        obtain ⟨y1, y2⟩ := hL4
                        subst W1
                        subst ne1
                        obtain ⟨A5, D5, V5, hT5, hN5, hF5, hS5⟩ := gL_freeze hSb4 hnk hns rfl hsi hp_492
                        have hQ5 := hQb.act hT5 hN5 hF5
                        refine z_pop d_La_law_495 rfl ?_
                        refine z_goto 509 d_La_law_496 (by decide) ?_
                        refine z_sub (L' := [(11, _), (9, _), (8, _), (7, _), (6, _), (5, _), (4, _), (3, _), (2, _), (1, _), (0, _)]) [2, 4, 5, 6, 7, 8, 9, 10, 11, 12, 13] rfl ?_
                        refine z_widen (k := (100 + 3000 * j + 1000 * tw + 300)) (n := (2000 + 60000 * j + 20000 * tw + 8000)) (by omega) (by omega) ?_
                        exact hJ_509 _ _ _ _ hQ5 hN5.1 hS5 rfl rfl hsi
                    have e5 : zdw NN xs (12 * j + 9) 6 = 5 := by
                      have := zdw_lt (NN := NN) (xs := xs) (k := 12 * j + 9) (m := 6) (by decide)
                      omega
                    rw [e5]
                    · skip
                      refine z_tableOut 499 d_La_law_289 (Or.inr (by decide)) (by decide) ?_
                      refine z_aload 6 d_La_law_499 rfl ?_
                      refine z_iload 2 d_La_law_501 rfl ?_
                      refine z_iload 1 d_La_law_503 rfl ?_
                      refine z_callV ((m_Tb_openE hs0 hst hQb.t _ _)) ym_Tb_open qM_La_63 qI_Tb_open qV_Tb_Tb_open zc_Tb hQb.t.tb d_La_law_505 rfl (Nat.le_of_ble_eq_true rfl) ⟨by show _ ≤ 600086; omega, by show _ ≤ 7301442; omega⟩ ⟨Nat.le_of_ble_eq_true rfl, Nat.le_of_ble_eq_true rfl⟩ ?_ ?_
                      · exact fun E G9 hx => (gX_open hnk hns rfl rfl hsi hgl hx).elim
                      intro r_505 G_505 hp_505
                      obtain ⟨v9, hv9⟩ := gV_open hp_505
                      obtain rfl : r_505 = _ := hv9
                      obtain ⟨A5, D5, V5, hT5, hN5, hF5, hS5⟩ := gL_open hSb4 hP (by omega) hnk hns rfl rfl hsi hgl (gCx_5 hX9 e0 e1 e2 e3 e4) hp_505
                      have hQ5 := hQb.act hT5 hN5 hF5
                      refine z_pop d_La_law_508 rfl ?_
                      refine z_sub (L' := [(11, _), (9, _), (8, _), (7, _), (6, _), (5, _), (4, _), (3, _), (2, _), (1, _), (0, _)]) [2, 4, 5, 6, 7, 8, 9, 10, 11, 12, 13] rfl ?_
                      refine z_widen (k := (100 + 3000 * j + 1000 * tw + 300)) (n := (2000 + 60000 * j + 20000 * tw + 8000)) (by omega) (by omega) ?_
                      exact hJ_509 _ _ _ _ hQ5 hN5.1 hS5 rfl rfl hsi
                  · skip
                    have hc2 : ((ns < 6 ∧ zdw NN xs (12 * j + 4) 3 = 0) ∨ ns = 0) := Or.inr ((nI_z (by omega)).mp c_163)
                    have hg8 : zdw NN xs (12 * j + 8) (2 ^ nk) < 2 ^ nk := zdw_lt (Nat.two_pow_pos nk)
                    have hglt : zdw NN xs (12 * j + 8) (2 ^ nk) ||| 1 < 2 ^ nk := Nat.or_lt_two_pow hg8 (Nat.one_lt_two_pow hn0)
                    have hz2 : zdw NN xs (12 * j + 6) 2 < 2 := zdw_lt (by decide)
                    have hz50 : zdw NN xs (12 * j + 7) 50 < 50 := zdw_lt (by decide)
                    have hp2 := zpw hnk
                    refine z_aload 3 d_La_law_166 rfl ?_
                    refine z_aload_n 10 d_La_law_168 rfl rfl ?_
                    refine z_iload 5 d_La_law_169 rfl ?_
                    refine z_iconst (v := (nI 5)) d_La_law_171 (by decide) ?_
                    refine z_iadd d_La_law_172 ?_
                    refine z_topv (v := nI (12 * j + 5)) (nI_add _ _) ?_
                    refine z_bipush (v := (nI 97)) d_La_law_173 (by decide) ?_
                    refine z_callS0 ((m_La_drawn hs0 hst hX hbl hNN (k := 12 * j + 5) (n := 97) (by omega) (by decide) (by decide))) ym_La_drawn qM_La_29 qS_La_drawn d_La_law_175 rfl (Nat.le_of_ble_eq_true rfl) ⟨by show _ ≤ 600086; omega, by show _ ≤ 7301442; omega⟩ ⟨Nat.le_of_ble_eq_true rfl, Nat.le_of_ble_eq_true rfl⟩ ?_
                    refine z_iconst (v := (nI 1)) d_La_law_178 (by decide) ?_
                    refine z_iconst (v := (nI 1)) d_La_law_179 (by decide) ?_
                    refine z_aload_n 10 d_La_law_180 rfl rfl ?_
                    refine z_iload 5 d_La_law_181 rfl ?_
                    refine z_bipush (v := (nI 6)) d_La_law_183 (by decide) ?_
                    refine z_iadd d_La_law_185 ?_
                    refine z_topv (v := nI (12 * j + 6)) (nI_add _ _) ?_
                    refine z_iconst (v := (nI 2)) d_La_law_186 (by decide) ?_
                    refine z_callS0 ((m_La_drawn hs0 hst hX hbl hNN (k := 12 * j + 6) (n := 2) (by omega) (by decide) (by decide))) ym_La_drawn qM_La_29 qS_La_drawn d_La_law_187 rfl (Nat.le_of_ble_eq_true rfl) ⟨by show _ ≤ 600086; omega, by show _ ≤ 7301442; omega⟩ ⟨Nat.le_of_ble_eq_true rfl, Nat.le_of_ble_eq_true rfl⟩ ?_
                    refine z_iadd d_La_law_190 ?_
                    refine z_topv (v := nI (1 + (zdw NN xs (12 * j + 6) 2))) (nI_add _ _) ?_
                    refine z_aload_n 10 d_La_law_191 rfl rfl ?_
                    refine z_iload 5 d_La_law_192 rfl ?_
                    refine z_bipush (v := (nI 7)) d_La_law_194 (by decide) ?_
                    refine z_iadd d_La_law_196 ?_
                    refine z_topv (v := nI (12 * j + 7)) (nI_add _ _) ?_
                    refine z_bipush (v := (nI 50)) d_La_law_197 (by decide) ?_
                    refine z_callS0 ((m_La_drawn hs0 hst hX hbl hNN (k := 12 * j + 7) (n := 50) (by omega) (by decide) (by decide))) ym_La_drawn qM_La_29 qS_La_drawn d_La_law_199 rfl (Nat.le_of_ble_eq_true rfl) ⟨by show _ ≤ 600086; omega, by show _ ≤ 7301442; omega⟩ ⟨Nat.le_of_ble_eq_true rfl, Nat.le_of_ble_eq_true rfl⟩ ?_
                    refine z_aload_n 10 d_La_law_202 rfl rfl ?_
                    refine z_iload 5 d_La_law_203 rfl ?_
                    refine z_bipush (v := (nI 8)) d_La_law_205 (by decide) ?_
                    refine z_iadd d_La_law_207 ?_
                    refine z_topv (v := nI (12 * j + 8)) (nI_add _ _) ?_
                    refine z_iload 1 d_La_law_208 rfl ?_
                    refine z_iconst (v := (nI 1)) d_La_law_210 (by decide) ?_
                    refine z_iadd d_La_law_211 ?_
                    refine z_topv (v := nI (2 ^ nk)) (g2p nk) ?_
                    refine z_callS0 ((m_La_drawn hs0 hst hX hbl hNN (k := 12 * j + 8) (n := (2 ^ nk)) (by omega) (Nat.two_pow_pos nk) (by have := zpw hnk; omega))) ym_La_drawn qM_La_29 qS_La_drawn d_La_law_212 rfl (Nat.le_of_ble_eq_true rfl) ⟨by show _ ≤ 600086; omega, by show _ ≤ 7301442; omega⟩ ⟨Nat.le_of_ble_eq_true rfl, Nat.le_of_ble_eq_true rfl⟩ ?_
                    refine z_iconst (v := (nI 1)) d_La_law_215 (by decide) ?_
                    refine z_ior d_La_law_216 ?_
                    refine z_topv (v := nI ((zdw NN xs (12 * j + 8) (2 ^ nk)) ||| 1)) (gor _ (by have := zpw hnk; have := zdw_lt (NN := NN) (xs := xs) (k := 12 * j + 8) (Nat.two_pow_pos nk); omega) 1 (by decide)) ?_
                    refine z_callV ((m_Tb_dealME hs0 hst hQb.t _ _ _ _ _)) ym_Tb_deal qM_La_37 qI_Tb_deal qV_Tb_Tb_deal zc_Tb hQb.t.tb d_La_law_217 rfl (Nat.le_of_ble_eq_true rfl) ⟨by show _ ≤ 600086; omega, by show _ ≤ 7301442; omega⟩ ⟨Nat.le_of_ble_eq_true rfl, Nat.le_of_ble_eq_true rfl⟩ ?_ ?_
                    · exact fun E G9 hx => (gX_deal hnk (hc2.elim (fun q => q.1) (fun q => by omega)) rfl rfl rfl rfl rfl (zdw_lt (by decide)) (by omega) (by omega) (by omega) hglt (by omega) hx).elim
                    intro r_217 G_217 hp_217
                    obtain ⟨v9, hv9⟩ := gV_deal hp_217
                    obtain rfl : r_217 = _ := hv9
                    obtain ⟨hmd, y1, y2⟩ := gCs_D hR hc1 hc2
                    subst nk1
                    subst ns1
                    obtain ⟨A5, D5, V5, hT5, hN5, hF5, hS5⟩ := gL_deal hSb4 hnk rfl rfl rfl (zdw_lt (by decide)) hglt hmd hp_217
                    have hQ5 := hQb.act hT5 hN5 hF5
                    refine z_pop d_La_law_220 rfl ?_
                    refine z_goto 573 d_La_law_221 (by decide) ?_
                    refine z_sub (L' := [(7, _), (6, _), (5, _), (4, _), (3, _), (2, _), (1, _), (0, _)]) [3, 4, 5, 6, 7, 8, 9, 10] rfl ?_
                    refine z_widen (k := (100 + 3000 * j + 1000 * tw + 600)) (n := (2000 + 60000 * j + 20000 * tw + 16000)) (by omega) (by omega) ?_
                    first
                      | exact hJ_573 _ _ _ _ hQ5 hN5.1 hS5
                      | (rw [eA4]; exact hJ_573 _ _ _ _ hQ9 eA4 hS9)
                · skip
                  have h146 : ns < 6 := by
                    by_cases q : ns < 6
                    · exact q
                    · exact absurd ((nI_leI (by first | decide | omega) (by first | decide | omega)).mpr (show 6 ≤ ns by omega)) c_146
                  refine z_aload_n 10 d_La_law_149 rfl rfl ?_
                  refine z_iload 5 d_La_law_150 rfl ?_
                  refine z_iconst (v := (nI 4)) d_La_law_152 (by decide) ?_
                  refine z_iadd d_La_law_153 ?_
                  refine z_topv (v := nI (12 * j + 4)) (nI_add _ _) ?_
                  refine z_iconst (v := (nI 3)) d_La_law_154 (by decide) ?_
                  refine z_callS0 ((m_La_drawn hs0 hst hX hbl hNN (k := 12 * j + 4) (n := 3) (by omega) (by decide) (by decide))) ym_La_drawn qM_La_29 qS_La_drawn d_La_law_155 rfl (Nat.le_of_ble_eq_true rfl) ⟨by show _ ≤ 600086; omega, by show _ ≤ 7301442; omega⟩ ⟨Nat.le_of_ble_eq_true rfl, Nat.le_of_ble_eq_true rfl⟩ ?_
                  refine z_if_eq 166 d_La_law_158 (by decide) (fun c_158 => ?_) (fun c_158 => ?_)
                  · skip
                    have hc2 : ((ns < 6 ∧ zdw NN xs (12 * j + 4) 3 = 0) ∨ ns = 0) := Or.inl ⟨h146, (nI_z (by have := zdw_lt (NN := NN) (xs := xs) (k := 12 * j + 4) (m := 3) (by decide); omega)).mp c_158⟩
                    have hg8 : zdw NN xs (12 * j + 8) (2 ^ nk) < 2 ^ nk := zdw_lt (Nat.two_pow_pos nk)
                    have hglt : zdw NN xs (12 * j + 8) (2 ^ nk) ||| 1 < 2 ^ nk := Nat.or_lt_two_pow hg8 (Nat.one_lt_two_pow hn0)
                    have hz2 : zdw NN xs (12 * j + 6) 2 < 2 := zdw_lt (by decide)
                    have hz50 : zdw NN xs (12 * j + 7) 50 < 50 := zdw_lt (by decide)
                    have hp2 := zpw hnk
                    refine z_aload 3 d_La_law_166 rfl ?_
                    refine z_aload_n 10 d_La_law_168 rfl rfl ?_
                    refine z_iload 5 d_La_law_169 rfl ?_
                    refine z_iconst (v := (nI 5)) d_La_law_171 (by decide) ?_
                    refine z_iadd d_La_law_172 ?_
                    refine z_topv (v := nI (12 * j + 5)) (nI_add _ _) ?_
                    refine z_bipush (v := (nI 97)) d_La_law_173 (by decide) ?_
                    refine z_callS0 ((m_La_drawn hs0 hst hX hbl hNN (k := 12 * j + 5) (n := 97) (by omega) (by decide) (by decide))) ym_La_drawn qM_La_29 qS_La_drawn d_La_law_175 rfl (Nat.le_of_ble_eq_true rfl) ⟨by show _ ≤ 600086; omega, by show _ ≤ 7301442; omega⟩ ⟨Nat.le_of_ble_eq_true rfl, Nat.le_of_ble_eq_true rfl⟩ ?_
                    refine z_iconst (v := (nI 1)) d_La_law_178 (by decide) ?_
                    refine z_iconst (v := (nI 1)) d_La_law_179 (by decide) ?_
                    refine z_aload_n 10 d_La_law_180 rfl rfl ?_
                    refine z_iload 5 d_La_law_181 rfl ?_
                    refine z_bipush (v := (nI 6)) d_La_law_183 (by decide) ?_
                    refine z_iadd d_La_law_185 ?_
                    refine z_topv (v := nI (12 * j + 6)) (nI_add _ _) ?_
                    refine z_iconst (v := (nI 2)) d_La_law_186 (by decide) ?_
                    refine z_callS0 ((m_La_drawn hs0 hst hX hbl hNN (k := 12 * j + 6) (n := 2) (by omega) (by decide) (by decide))) ym_La_drawn qM_La_29 qS_La_drawn d_La_law_187 rfl (Nat.le_of_ble_eq_true rfl) ⟨by show _ ≤ 600086; omega, by show _ ≤ 7301442; omega⟩ ⟨Nat.le_of_ble_eq_true rfl, Nat.le_of_ble_eq_true rfl⟩ ?_
                    refine z_iadd d_La_law_190 ?_
                    refine z_topv (v := nI (1 + (zdw NN xs (12 * j + 6) 2))) (nI_add _ _) ?_
                    refine z_aload_n 10 d_La_law_191 rfl rfl ?_
                    refine z_iload 5 d_La_law_192 rfl ?_
                    refine z_bipush (v := (nI 7)) d_La_law_194 (by decide) ?_
                    refine z_iadd d_La_law_196 ?_
                    refine z_topv (v := nI (12 * j + 7)) (nI_add _ _) ?_
                    refine z_bipush (v := (nI 50)) d_La_law_197 (by decide) ?_
                    refine z_callS0 ((m_La_drawn hs0 hst hX hbl hNN (k := 12 * j + 7) (n := 50) (by omega) (by decide) (by decide))) ym_La_drawn qM_La_29 qS_La_drawn d_La_law_199 rfl (Nat.le_of_ble_eq_true rfl) ⟨by show _ ≤ 600086; omega, by show _ ≤ 7301442; omega⟩ ⟨Nat.le_of_ble_eq_true rfl, Nat.le_of_ble_eq_true rfl⟩ ?_
                    refine z_aload_n 10 d_La_law_202 rfl rfl ?_
                    refine z_iload 5 d_La_law_203 rfl ?_
                    refine z_bipush (v := (nI 8)) d_La_law_205 (by decide) ?_
                    refine z_iadd d_La_law_207 ?_
                    refine z_topv (v := nI (12 * j + 8)) (nI_add _ _) ?_
                    refine z_iload 1 d_La_law_208 rfl ?_
                    refine z_iconst (v := (nI 1)) d_La_law_210 (by decide) ?_
                    refine z_iadd d_La_law_211 ?_
                    refine z_topv (v := nI (2 ^ nk)) (g2p nk) ?_
                    refine z_callS0 ((m_La_drawn hs0 hst hX hbl hNN (k := 12 * j + 8) (n := (2 ^ nk)) (by omega) (Nat.two_pow_pos nk) (by have := zpw hnk; omega))) ym_La_drawn qM_La_29 qS_La_drawn d_La_law_212 rfl (Nat.le_of_ble_eq_true rfl) ⟨by show _ ≤ 600086; omega, by show _ ≤ 7301442; omega⟩ ⟨Nat.le_of_ble_eq_true rfl, Nat.le_of_ble_eq_true rfl⟩ ?_
                    refine z_iconst (v := (nI 1)) d_La_law_215 (by decide) ?_
                    refine z_ior d_La_law_216 ?_
                    refine z_topv (v := nI ((zdw NN xs (12 * j + 8) (2 ^ nk)) ||| 1)) (gor _ (by have := zpw hnk; have := zdw_lt (NN := NN) (xs := xs) (k := 12 * j + 8) (Nat.two_pow_pos nk); omega) 1 (by decide)) ?_
                    refine z_callV ((m_Tb_dealME hs0 hst hQb.t _ _ _ _ _)) ym_Tb_deal qM_La_37 qI_Tb_deal qV_Tb_Tb_deal zc_Tb hQb.t.tb d_La_law_217 rfl (Nat.le_of_ble_eq_true rfl) ⟨by show _ ≤ 600086; omega, by show _ ≤ 7301442; omega⟩ ⟨Nat.le_of_ble_eq_true rfl, Nat.le_of_ble_eq_true rfl⟩ ?_ ?_
                    · exact fun E G9 hx => (gX_deal hnk (hc2.elim (fun q => q.1) (fun q => by omega)) rfl rfl rfl rfl rfl (zdw_lt (by decide)) (by omega) (by omega) (by omega) hglt (by omega) hx).elim
                    intro r_217 G_217 hp_217
                    obtain ⟨v9, hv9⟩ := gV_deal hp_217
                    obtain rfl : r_217 = _ := hv9
                    obtain ⟨hmd, y1, y2⟩ := gCs_D hR hc1 hc2
                    subst nk1
                    subst ns1
                    obtain ⟨A5, D5, V5, hT5, hN5, hF5, hS5⟩ := gL_deal hSb4 hnk rfl rfl rfl (zdw_lt (by decide)) hglt hmd hp_217
                    have hQ5 := hQb.act hT5 hN5 hF5
                    refine z_pop d_La_law_220 rfl ?_
                    refine z_goto 573 d_La_law_221 (by decide) ?_
                    refine z_sub (L' := [(7, _), (6, _), (5, _), (4, _), (3, _), (2, _), (1, _), (0, _)]) [3, 4, 5, 6, 7, 8, 9, 10] rfl ?_
                    refine z_widen (k := (100 + 3000 * j + 1000 * tw + 600)) (n := (2000 + 60000 * j + 20000 * tw + 16000)) (by omega) (by omega) ?_
                    first
                      | exact hJ_573 _ _ _ _ hQ5 hN5.1 hS5
                      | (rw [eA4]; exact hJ_573 _ _ _ _ hQ9 eA4 hS9)
                  · skip
                    have h158 : ¬ zdw NN xs (12 * j + 4) 3 = 0 := fun q => c_158 ((congrArg nI q).trans nI_0)
                    refine z_iload 0 d_La_law_161 rfl ?_
                    refine z_if_ne 224 d_La_law_163 (by decide) (fun c_163 => ?_) (fun c_163 => ?_)
                    · skip
                      have hs9 : ns ≠ 0 := fun q => c_163 ((congrArg nI q).trans nI_0)
                      have hc2 : ¬ ((ns < 6 ∧ zdw NN xs (12 * j + 4) 3 = 0) ∨ ns = 0) := by
                        rintro (q | q)
                        · first | exact absurd q.1 (by omega) | exact h158 q.2
                        · exact hs9 q
                      obtain ⟨hX9, y1, y2⟩ := gCs_X hR hc1 hc2
                      subst nk1
                      subst ns1
                      have hns0 : 0 < ns := by omega
                      have hnk0 : 0 < nk := by omega
                      have hsi : (zdw NN xs (12 * j + 5) ns) < ns := zdw_lt hns0
                      have hgl : (zdw NN xs (12 * j + 6) (2 ^ nk) ||| zdw NN xs (12 * j + 7) (2 ^ nk)) < 2 ^ nk := Nat.or_lt_two_pow (zdw_lt (Nat.two_pow_pos nk)) (zdw_lt (Nat.two_pow_pos nk))
                      have hki : (zdw NN xs (12 * j + 8) nk) < nk := zdw_lt hnk0
                      have hp2 := zpw hnk
                      refine z_aload_n 10 d_La_law_224 rfl rfl ?_
                      refine z_iload 5 d_La_law_225 rfl ?_
                      refine z_iconst (v := (nI 5)) d_La_law_227 (by decide) ?_
                      refine z_iadd d_La_law_228 ?_
                      refine z_topv (v := nI (12 * j + 5)) (nI_add _ _) ?_
                      refine z_iload 0 d_La_law_229 rfl ?_
                      refine z_callS0 ((m_La_drawn hs0 hst hX hbl hNN (k := 12 * j + 5) (n := ns) (by omega) (by omega) (by omega))) ym_La_drawn qM_La_29 qS_La_drawn d_La_law_231 rfl (Nat.le_of_ble_eq_true rfl) ⟨by show _ ≤ 600086; omega, by show _ ≤ 7301442; omega⟩ ⟨Nat.le_of_ble_eq_true rfl, Nat.le_of_ble_eq_true rfl⟩ ?_
                      refine z_istore (L' := [(11, _), (10, _), (9, _), (8, _), (7, _), (6, _), (5, _), (4, _), (3, _), (2, _), (1, _), (0, _)]) d_La_law_234 (by decide) rfl ?_
                      refine z_aload_n 11 d_La_law_236 rfl rfl ?_
                      refine z_iload 6 d_La_law_237 rfl ?_
                      refine z_bipush (v := (nI 6)) d_La_law_239 (by decide) ?_
                      refine z_iadd d_La_law_241 ?_
                      refine z_topv (v := nI (12 * j + 6)) (nI_add _ _) ?_
                      refine z_iload 2 d_La_law_242 rfl ?_
                      refine z_iconst (v := (nI 1)) d_La_law_244 (by decide) ?_
                      refine z_iadd d_La_law_245 ?_
                      refine z_topv (v := nI (2 ^ nk)) (g2p nk) ?_
                      refine z_callS0 ((m_La_drawn hs0 hst hX hbl hNN (k := 12 * j + 6) (n := (2 ^ nk)) (by omega) (Nat.two_pow_pos nk) (by have := zpw hnk; omega))) ym_La_drawn qM_La_29 qS_La_drawn d_La_law_246 rfl (Nat.le_of_ble_eq_true rfl) ⟨by show _ ≤ 600086; omega, by show _ ≤ 7301442; omega⟩ ⟨Nat.le_of_ble_eq_true rfl, Nat.le_of_ble_eq_true rfl⟩ ?_
                      refine z_aload_n 11 d_La_law_249 rfl rfl ?_
                      refine z_iload 6 d_La_law_250 rfl ?_
                      refine z_bipush (v := (nI 7)) d_La_law_252 (by decide) ?_
                      refine z_iadd d_La_law_254 ?_
                      refine z_topv (v := nI (12 * j + 7)) (nI_add _ _) ?_
                      refine z_iload 2 d_La_law_255 rfl ?_
                      refine z_iconst (v := (nI 1)) d_La_law_257 (by decide) ?_
                      refine z_iadd d_La_law_258 ?_
                      refine z_topv (v := nI (2 ^ nk)) (g2p nk) ?_
                      refine z_callS0 ((m_La_drawn hs0 hst hX hbl hNN (k := 12 * j + 7) (n := (2 ^ nk)) (by omega) (Nat.two_pow_pos nk) (by have := zpw hnk; omega))) ym_La_drawn qM_La_29 qS_La_drawn d_La_law_259 rfl (Nat.le_of_ble_eq_true rfl) ⟨by show _ ≤ 600086; omega, by show _ ≤ 7301442; omega⟩ ⟨Nat.le_of_ble_eq_true rfl, Nat.le_of_ble_eq_true rfl⟩ ?_
                      refine z_ior d_La_law_262 ?_
                      refine z_topv (v := nI ((zdw NN xs (12 * j + 6) (2 ^ nk)) ||| (zdw NN xs (12 * j + 7) (2 ^ nk)))) (gor _ (by have := zpw hnk; have := zdw_lt (NN := NN) (xs := xs) (k := 12 * j + 6) (Nat.two_pow_pos nk); omega) _ (by have := zpw hnk; have := zdw_lt (NN := NN) (xs := xs) (k := 12 * j + 7) (Nat.two_pow_pos nk); omega)) ?_
                      refine z_istore (L' := [(12, _), (11, _), (10, _), (9, _), (8, _), (7, _), (6, _), (5, _), (4, _), (3, _), (2, _), (1, _), (0, _)]) d_La_law_263 (by decide) rfl ?_
                      refine z_aload_n 12 d_La_law_265 rfl rfl ?_
                      refine z_iload 7 d_La_law_266 rfl ?_
                      refine z_bipush (v := (nI 8)) d_La_law_268 (by decide) ?_
                      refine z_iadd d_La_law_270 ?_
                      refine z_topv (v := nI (12 * j + 8)) (nI_add _ _) ?_
                      refine z_iload 4 d_La_law_271 rfl ?_
                      refine z_callS0 ((m_La_drawn hs0 hst hX hbl hNN (k := 12 * j + 8) (n := nk) (by omega) (by omega) (by omega))) ym_La_drawn qM_La_29 qS_La_drawn d_La_law_273 rfl (Nat.le_of_ble_eq_true rfl) ⟨by show _ ≤ 600086; omega, by show _ ≤ 7301442; omega⟩ ⟨Nat.le_of_ble_eq_true rfl, Nat.le_of_ble_eq_true rfl⟩ ?_
                      refine z_istore (L' := [(13, _), (12, _), (11, _), (10, _), (9, _), (8, _), (7, _), (6, _), (5, _), (4, _), (3, _), (2, _), (1, _), (0, _)]) d_La_law_276 (by decide) rfl ?_
                      refine z_aload_n 13 d_La_law_278 rfl rfl ?_
                      refine z_iload 8 d_La_law_279 rfl ?_
                      refine z_bipush (v := (nI 9)) d_La_law_281 (by decide) ?_
                      refine z_iadd d_La_law_283 ?_
                      refine z_topv (v := nI (12 * j + 9)) (nI_add _ _) ?_
                      refine z_bipush (v := (nI 6)) d_La_law_284 (by decide) ?_
                      refine z_callS0 ((m_La_drawn hs0 hst hX hbl hNN (k := 12 * j + 9) (n := 6) (by omega) (by decide) (by decide))) ym_La_drawn qM_La_29 qS_La_drawn d_La_law_286 rfl (Nat.le_of_ble_eq_true rfl) ⟨by show _ ≤ 600086; omega, by show _ ≤ 7301442; omega⟩ ⟨Nat.le_of_ble_eq_true rfl, Nat.le_of_ble_eq_true rfl⟩ ?_
                      skip
                      by_cases e0 : zdw NN xs (12 * j + 9) 6 = 0
                      · rw [e0]
                        refine z_tableIn 324 d_La_law_289 (by decide) (by decide) rfl (by decide) ?_
                        refine z_aload 6 d_La_law_324 rfl ?_
                        refine z_iload 2 d_La_law_326 rfl ?_
                        refine z_iload 1 d_La_law_328 rfl ?_
                        refine z_iconst (v := (nI 0)) d_La_law_330 (by decide) ?_
                        refine z_callV ((m_Tb_wouldE hs0 hst hQb.t _ _ _)) ym_Tb_would qM_La_41 qI_Tb_would qV_Tb_Tb_would zc_Tb hQb.t.tb d_La_law_331 rfl (Nat.le_of_ble_eq_true rfl) ⟨by show _ ≤ 600086; omega, by show _ ≤ 7301442; omega⟩ ⟨Nat.le_of_ble_eq_true rfl, Nat.le_of_ble_eq_true rfl⟩ ?_ ?_
                        · exact fun E G9 hx => (gX_would hnk hns rfl rfl (q := 0) rfl hsi hgl (by decide) hx).elim
                        intro r_331 G_331 hp_331
                        obtain ⟨hr_331, D6, V6, hT6, hF6, hS6⟩ := gW_v hSb4 hP (by omega) hnk hns rfl rfl (q := 0) rfl hsi hgl (by decide) hp_331
                        obtain rfl : r_331 = _ := hr_331
                        have hQ6 := hQb.ask hT6 hF6
                        refine z_topv qWd_0 ?_
                        refine z_if_le 509 d_La_law_334 (by decide) (fun c_334 => ?_) (fun c_334 => ?_)
                        · skip
                          have hz := (gle0 gzp).mp c_334
                          obtain ⟨y1, y2⟩ := gCx_0n hX9 e0 hz
                          subst W1
                          subst ne1
                          have hQ5 := hQ6
                          have hS5 := hS6.up (N' := 10 * j + 1) (by omega)
                          have hN5 : A3 0 = A3 0 ∧ True := ⟨rfl, trivial⟩
                          refine z_sub (L' := [(11, _), (9, _), (8, _), (7, _), (6, _), (5, _), (4, _), (3, _), (2, _), (1, _), (0, _)]) [2, 4, 5, 6, 7, 8, 9, 10, 11, 12, 13] rfl ?_
                          refine z_widen (k := (100 + 3000 * j + 1000 * tw + 300)) (n := (2000 + 60000 * j + 20000 * tw + 8000)) (by omega) (by omega) ?_
                          exact hJ_509 _ _ _ _ hQ5 hN5.1 hS5 rfl rfl hsi
                        · skip
                          have hz : 0 < zpop 9 (mgr W (zdw NN xs (12 * j + 5) ns) (zdw NN xs (12 * j + 6) (2 ^ nk) ||| zdw NN xs (12 * j + 7) (2 ^ nk))) := by
                            by_cases q : 0 < zpop 9 (mgr W (zdw NN xs (12 * j + 5) ns) (zdw NN xs (12 * j + 6) (2 ^ nk) ||| zdw NN xs (12 * j + 7) (2 ^ nk)))
                            · exact q
                            · exact absurd ((gle0 gzp).mpr q) c_334
                          refine z_aload 6 d_La_law_337 rfl ?_
                          refine z_iload 2 d_La_law_339 rfl ?_
                          refine z_iload 1 d_La_law_341 rfl ?_
                          refine z_callV ((m_Tb_freshE hs0 hst hQ6.t _ _)) ym_Tb_fresh qM_La_44 qI_Tb_fresh qV_Tb_Tb_fresh zc_Tb hQ6.t.tb d_La_law_343 rfl (Nat.le_of_ble_eq_true rfl) ⟨by show _ ≤ 600086; omega, by show _ ≤ 7301442; omega⟩ ⟨Nat.le_of_ble_eq_true rfl, Nat.le_of_ble_eq_true rfl⟩ ?_ ?_
                          · exact fun E G9 hx => (gX_fresh hS6 hP (by omega) hnk hns rfl rfl hsi hgl hz hx).elim
                          intro r_343 G_343 hp_343
                          obtain ⟨v9, hv9⟩ := gV_fresh hp_343
                          obtain rfl : r_343 = _ := hv9
                          obtain ⟨A5, D5, V5, hT5, hN5, hF5, hS5⟩ := gL_fresh hS6 hP (by omega) hnk hns rfl rfl hsi hgl (gCx_0 hX9 e0 hz) hp_343
                          have hQ5 := hQ6.act hT5 hN5 hF5
                          refine z_pop d_La_law_346 rfl ?_
                          refine z_goto 509 d_La_law_347 (by decide) ?_
                          refine z_sub (L' := [(11, _), (9, _), (8, _), (7, _), (6, _), (5, _), (4, _), (3, _), (2, _), (1, _), (0, _)]) [2, 4, 5, 6, 7, 8, 9, 10, 11, 12, 13] rfl ?_
                          refine z_widen (k := (100 + 3000 * j + 1000 * tw + 300)) (n := (2000 + 60000 * j + 20000 * tw + 8000)) (by omega) (by omega) ?_
                          exact hJ_509 _ _ _ _ hQ5 hN5.1 hS5 rfl rfl hsi
                      by_cases e1 : zdw NN xs (12 * j + 9) 6 = 1
                      · rw [e1]
                        refine z_tableIn 350 d_La_law_289 (by decide) (by decide) rfl (by decide) ?_
                        refine z_aload 6 d_La_law_350 rfl ?_
                        refine z_aload_n 13 d_La_law_352 rfl rfl ?_
                        refine z_iload 8 d_La_law_353 rfl ?_
                        refine z_bipush (v := (nI 10)) d_La_law_355 (by decide) ?_
                        refine z_iadd d_La_law_357 ?_
                        refine z_topv (v := nI (12 * j + 10)) (nI_add _ _) ?_
                        refine z_iconst (v := (nI 4)) d_La_law_358 (by decide) ?_
                        refine z_callS0 ((m_La_drawn hs0 hst hX hbl hNN (k := 12 * j + 10) (n := 4) (by omega) (by decide) (by decide))) ym_La_drawn qM_La_29 qS_La_drawn d_La_law_359 rfl (Nat.le_of_ble_eq_true rfl) ⟨by show _ ≤ 600086; omega, by show _ ≤ 7301442; omega⟩ ⟨Nat.le_of_ble_eq_true rfl, Nat.le_of_ble_eq_true rfl⟩ ?_
                        refine z_callV ((m_Tb_floodE hs0 hst hQb.t _)) ym_Tb_flood qM_La_47 qI_Tb_flood qV_Tb_Tb_flood zc_Tb hQb.t.tb d_La_law_362 rfl (Nat.le_of_ble_eq_true rfl) ⟨by show _ ≤ 600086; omega, by show _ ≤ 7301442; omega⟩ ⟨Nat.le_of_ble_eq_true rfl, Nat.le_of_ble_eq_true rfl⟩ ?_ ?_
                        · exact fun E G9 hx => (gX_flood rfl (zdw_lt (by decide)) hx).elim
                        intro r_362 G_362 hp_362
                        obtain ⟨v9, hv9⟩ := gV_flood hp_362
                        obtain rfl : r_362 = _ := hv9
                        obtain ⟨A5, D5, V5, hT5, hN5, hF5, hS5⟩ := gL_flood hSb4 hnk hns (gCx_1 hX9 e0 e1) hp_362
                        have hQ5 := hQb.act hT5 hN5 hF5
                        refine z_pop d_La_law_365 rfl ?_
                        refine z_goto 509 d_La_law_366 (by decide) ?_
                        refine z_sub (L' := [(11, _), (9, _), (8, _), (7, _), (6, _), (5, _), (4, _), (3, _), (2, _), (1, _), (0, _)]) [2, 4, 5, 6, 7, 8, 9, 10, 11, 12, 13] rfl ?_
                        refine z_widen (k := (100 + 3000 * j + 1000 * tw + 300)) (n := (2000 + 60000 * j + 20000 * tw + 8000)) (by omega) (by omega) ?_
                        exact hJ_509 _ _ _ _ hQ5 hN5.1 hS5 rfl rfl hsi
                      by_cases e2 : zdw NN xs (12 * j + 9) 6 = 2
                      · rw [e2]
                        refine z_tableIn 369 d_La_law_289 (by decide) (by decide) rfl (by decide) ?_
                        refine z_aload 6 d_La_law_369 rfl ?_
                        refine z_iload 2 d_La_law_371 rfl ?_
                        refine z_iconst (v := (nI 4)) d_La_law_373 (by decide) ?_
                        refine z_callV ((m_Tb_ofSecretE hs0 hst hQb.t _ _)) ym_Tb_ofSecret qM_La_50 qI_Tb_ofSecret qV_Tb_Tb_ofSecret zc_Tb hQb.t.tb d_La_law_374 rfl (Nat.le_of_ble_eq_true rfl) ⟨by show _ ≤ 600086; omega, by show _ ≤ 7301442; omega⟩ ⟨Nat.le_of_ble_eq_true rfl, Nat.le_of_ble_eq_true rfl⟩ ?_ ?_
                        · exact fun E G9 hx => (gX_ofSecret hns rfl (q := 4) rfl hsi (by decide) hx).elim
                        intro r_374 G_374 hp_374
                        obtain ⟨⟨v4, hr_374, hv4⟩, D6, V6, hT6, hF6, hS6⟩ := gS_4 hSb4 hP (by omega) hns rfl rfl hsi hp_374
                        obtain rfl : r_374 = _ := hr_374
                        have hQ6 := hQb.ask hT6 hF6
                        refine z_iload 0 d_La_law_377 rfl ?_
                        refine z_ishr d_La_law_379 ?_
                        refine z_iconst (v := 1) d_La_law_380 (by decide) ?_
                        refine z_iand d_La_law_381 ?_
                        refine z_if_ne 509 d_La_law_382 (by decide) (fun c_382 => ?_) (fun c_382 => ?_)
                        · skip
                          obtain ⟨y1, y2⟩ := gCx_2n hX9 e0 e1 e2 (fun q => c_382 ((hv4 _ (by omega)).mpr q.1))
                          subst W1
                          subst ne1
                          have hQ5 := hQ6
                          have hS5 := hS6.up (N' := 10 * j + 1) (by omega)
                          have hN5 : A3 0 = A3 0 ∧ True := ⟨rfl, trivial⟩
                          refine z_sub (L' := [(11, _), (9, _), (8, _), (7, _), (6, _), (5, _), (4, _), (3, _), (2, _), (1, _), (0, _)]) [2, 4, 5, 6, 7, 8, 9, 10, 11, 12, 13] rfl ?_
                          refine z_widen (k := (100 + 3000 * j + 1000 * tw + 300)) (n := (2000 + 60000 * j + 20000 * tw + 8000)) (by omega) (by omega) ?_
                          exact hJ_509 _ _ _ _ hQ5 hN5.1 hS5 rfl rfl hsi
                        · skip
                          have hz := (hv4 _ (by omega)).mp c_382
                          refine z_aload 6 d_La_law_385 rfl ?_
                          refine z_iload 2 d_La_law_387 rfl ?_
                          refine z_iload 1 d_La_law_389 rfl ?_
                          refine z_iconst (v := 1) d_La_law_391 (by decide) ?_
                          refine z_iload 0 d_La_law_392 rfl ?_
                          refine z_ishl d_La_law_394 ?_
                          refine z_iconst (v := (-1)) d_La_law_395 (by decide) ?_
                          refine z_ixor d_La_law_396 ?_
                          refine z_iand d_La_law_397 ?_
                          refine z_topv (gmin _ (by omega) _ (by omega)) ?_
                          refine z_iconst (v := (nI 2)) d_La_law_398 (by decide) ?_
                          refine z_callV ((m_Tb_wouldE hs0 hst hQ6.t _ _ _)) ym_Tb_would qM_La_41 qI_Tb_would qV_Tb_Tb_would zc_Tb hQ6.t.tb d_La_law_399 rfl (Nat.le_of_ble_eq_true rfl) ⟨by show _ ≤ 600086; omega, by show _ ≤ 7301442; omega⟩ ⟨Nat.le_of_ble_eq_true rfl, Nat.le_of_ble_eq_true rfl⟩ ?_ ?_
                          · exact fun E G9 hx => (gX_would hnk hns rfl rfl (q := 2) rfl hsi (gmin_lt hgl) (by decide) hx).elim
                          intro r_399 G_399 hp_399
                          obtain ⟨hr_399, D7, V7, hT7, hF7, hS7⟩ := gW_2 hS6 hP (by omega) hnk hns rfl rfl rfl hsi (gmin_lt hgl) hp_399
                          rw [gmin_mgr (by omega) hz] at hr_399
                          obtain rfl : r_399 = _ := hr_399
                          have hQ7 := hQ6.ask hT7 hF7
                          refine z_iconst (v := 1) d_La_law_402 (by decide) ?_
                          refine z_icmp_ne 509 d_La_law_403 (by decide) (fun c_403 => ?_) (fun c_403 => ?_)
                          · skip
                            obtain ⟨y1, y2⟩ := gCx_2n hX9 e0 e1 e2 (fun q => c_403 (by rw [q.2]; rfl))
                            subst W1
                            subst ne1
                            have hQ5 := hQ7
                            have hS5 := hS7.up (N' := 10 * j + 1) (by omega)
                            have hN5 : A3 0 = A3 0 ∧ True := ⟨rfl, trivial⟩
                            refine z_sub (L' := [(11, _), (9, _), (8, _), (7, _), (6, _), (5, _), (4, _), (3, _), (2, _), (1, _), (0, _)]) [2, 4, 5, 6, 7, 8, 9, 10, 11, 12, 13] rfl ?_
                            refine z_widen (k := (100 + 3000 * j + 1000 * tw + 300)) (n := (2000 + 60000 * j + 20000 * tw + 8000)) (by omega) (by omega) ?_
                            exact hJ_509 _ _ _ _ hQ5 hN5.1 hS5 rfl rfl hsi
                          · skip
                            have hgd := gz1 (by first | exact c_403 | exact Decidable.not_not.mp c_403)
                            refine z_aload 6 d_La_law_406 rfl ?_
                            refine z_iload 2 d_La_law_408 rfl ?_
                            refine z_iload 0 d_La_law_410 rfl ?_
                            refine z_iload 1 d_La_law_412 rfl ?_
                            refine z_callV ((m_Tb_rebuildE hs0 hst hQ7.t _ _ _)) ym_Tb_rebuild qM_La_53 qI_Tb_rebuild qV_Tb_Tb_rebuild zc_Tb hQ7.t.tb d_La_law_414 rfl (Nat.le_of_ble_eq_true rfl) ⟨by show _ ≤ 600086; omega, by show _ ≤ 7301442; omega⟩ ⟨Nat.le_of_ble_eq_true rfl, Nat.le_of_ble_eq_true rfl⟩ ?_ ?_
                            · exact fun E G9 hx => (gX_rebuild hS7 hP (by omega) hnk hns rfl rfl rfl hsi hki hgl hz hgd hx).elim
                            intro r_414 G_414 hp_414
                            obtain ⟨v9, hv9⟩ := gV_rebuild hp_414
                            obtain rfl : r_414 = _ := hv9
                            obtain ⟨A5, D5, V5, hT5, hN5, hF5, hS5⟩ := gL_rebuild hS7 (by omega) hnk hns rfl rfl rfl hsi hki hgl (gCx_2 hX9 e0 e1 e2 hz hgd) hp_414
                            have hQ5 := hQ7.act hT5 hN5 hF5
                            refine z_pop d_La_law_417 rfl ?_
                            refine z_goto 509 d_La_law_418 (by decide) ?_
                            refine z_sub (L' := [(11, _), (9, _), (8, _), (7, _), (6, _), (5, _), (4, _), (3, _), (2, _), (1, _), (0, _)]) [2, 4, 5, 6, 7, 8, 9, 10, 11, 12, 13] rfl ?_
                            refine z_widen (k := (100 + 3000 * j + 1000 * tw + 300)) (n := (2000 + 60000 * j + 20000 * tw + 8000)) (by omega) (by omega) ?_
                            exact hJ_509 _ _ _ _ hQ5 hN5.1 hS5 rfl rfl hsi
                      by_cases e3 : zdw NN xs (12 * j + 9) 6 = 3
                      · rw [e3]
                        refine z_tableIn 421 d_La_law_289 (by decide) (by decide) rfl (by decide) ?_
                        refine z_aload 6 d_La_law_421 rfl ?_
                        refine z_iload 0 d_La_law_423 rfl ?_
                        refine z_aload_n 13 d_La_law_425 rfl rfl ?_
                        refine z_iload 8 d_La_law_426 rfl ?_
                        refine z_bipush (v := (nI 10)) d_La_law_428 (by decide) ?_
                        refine z_iadd d_La_law_430 ?_
                        refine z_topv (v := nI (12 * j + 10)) (nI_add _ _) ?_
                        refine z_iconst (v := (nI 3)) d_La_law_431 (by decide) ?_
                        refine z_callS0 ((m_La_drawn hs0 hst hX hbl hNN (k := 12 * j + 10) (n := 3) (by omega) (by decide) (by decide))) ym_La_drawn qM_La_29 qS_La_drawn d_La_law_432 rfl (Nat.le_of_ble_eq_true rfl) ⟨by show _ ≤ 600086; omega, by show _ ≤ 7301442; omega⟩ ⟨Nat.le_of_ble_eq_true rfl, Nat.le_of_ble_eq_true rfl⟩ ?_
                        refine z_if_ne 452 d_La_law_435 (by decide) (fun c_435 => ?_) (fun c_435 => ?_)
                        · skip
                          have hL3 := gCx_3b hX9 e0 e1 e2 e3 (fun q => c_435 ((congrArg nI q).trans nI_0))
                          refine z_iconst (v := (nI 0)) d_La_law_452 (by decide) ?_
                          refine z_callV ((m_Tb_lie hs0 hst hQb.t _ _)) ym_Tb_lie qM_La_56 qI_Tb_lie qV_Tb_Tb_lie zc_Tb hQb.t.tb d_La_law_453 rfl (Nat.le_of_ble_eq_true rfl) ⟨by show _ ≤ 600086; omega, by show _ ≤ 7301442; omega⟩ ⟨Nat.le_of_ble_eq_true rfl, Nat.le_of_ble_eq_true rfl⟩ ?_ ?_
                          · exact fun E G9 hx => (gX_lie hnk rfl rfl hki (by first | exact zdw_lt (by decide) | decide) hx).elim
                          intro r_453 G_453 hp_453
                          obtain ⟨v9, hv9⟩ := gV_lie hp_453
                          obtain rfl : r_453 = _ := hv9
                          obtain ⟨y1, y2⟩ := hL3
                          subst W1
                          subst ne1
                          obtain ⟨A5, D5, V5, hT5, hN5, hF5, hS5⟩ := gL_lie hSb4 hnk hns rfl hki hp_453
                          have hQ5 := hQb.act hT5 hN5 hF5
                          refine z_pop d_La_law_456 rfl ?_
                          refine z_goto 509 d_La_law_457 (by decide) ?_
                          refine z_sub (L' := [(11, _), (9, _), (8, _), (7, _), (6, _), (5, _), (4, _), (3, _), (2, _), (1, _), (0, _)]) [2, 4, 5, 6, 7, 8, 9, 10, 11, 12, 13] rfl ?_
                          refine z_widen (k := (100 + 3000 * j + 1000 * tw + 300)) (n := (2000 + 60000 * j + 20000 * tw + 8000)) (by omega) (by omega) ?_
                          exact hJ_509 _ _ _ _ hQ5 hN5.1 hS5 rfl rfl hsi
                        · skip
                          have hL3 := gCx_3a hX9 e0 e1 e2 e3 ((nI_z (by have := zdw_lt (NN := NN) (xs := xs) (k := 12 * j + 10) (m := 3) (by decide); omega)).mp c_435)
                          refine z_aload_n 13 d_La_law_438 rfl rfl ?_
                          refine z_iload 8 d_La_law_439 rfl ?_
                          refine z_bipush (v := (nI 11)) d_La_law_441 (by decide) ?_
                          refine z_iadd d_La_law_443 ?_
                          refine z_topv (v := nI (12 * j + 11)) (nI_add _ _) ?_
                          refine z_bipush (v := (nI 97)) d_La_law_444 (by decide) ?_
                          refine z_callS0 ((m_La_drawn hs0 hst hX hbl hNN (k := 12 * j + 11) (n := 97) (by omega) (by decide) (by decide))) ym_La_drawn qM_La_29 qS_La_drawn d_La_law_446 rfl (Nat.le_of_ble_eq_true rfl) ⟨by show _ ≤ 600086; omega, by show _ ≤ 7301442; omega⟩ ⟨Nat.le_of_ble_eq_true rfl, Nat.le_of_ble_eq_true rfl⟩ ?_
                          refine z_goto 453 d_La_law_449 (by decide) ?_
                          refine z_callV ((m_Tb_lie hs0 hst hQb.t _ _)) ym_Tb_lie qM_La_56 qI_Tb_lie qV_Tb_Tb_lie zc_Tb hQb.t.tb d_La_law_453 rfl (Nat.le_of_ble_eq_true rfl) ⟨by show _ ≤ 600086; omega, by show _ ≤ 7301442; omega⟩ ⟨Nat.le_of_ble_eq_true rfl, Nat.le_of_ble_eq_true rfl⟩ ?_ ?_
                          · exact fun E G9 hx => (gX_lie hnk rfl rfl hki (by first | exact zdw_lt (by decide) | decide) hx).elim
                          intro r_453 G_453 hp_453
                          obtain ⟨v9, hv9⟩ := gV_lie hp_453
                          obtain rfl : r_453 = _ := hv9
                          obtain ⟨y1, y2⟩ := hL3
                          subst W1
                          subst ne1
                          obtain ⟨A5, D5, V5, hT5, hN5, hF5, hS5⟩ := gL_lie hSb4 hnk hns rfl hki hp_453
                          have hQ5 := hQb.act hT5 hN5 hF5
                          refine z_pop d_La_law_456 rfl ?_
                          refine z_goto 509 d_La_law_457 (by decide) ?_
                          refine z_sub (L' := [(11, _), (9, _), (8, _), (7, _), (6, _), (5, _), (4, _), (3, _), (2, _), (1, _), (0, _)]) [2, 4, 5, 6, 7, 8, 9, 10, 11, 12, 13] rfl ?_
                          refine z_widen (k := (100 + 3000 * j + 1000 * tw + 300)) (n := (2000 + 60000 * j + 20000 * tw + 8000)) (by omega) (by omega) ?_
                          exact hJ_509 _ _ _ _ hQ5 hN5.1 hS5 rfl rfl hsi
                      by_cases e4 : zdw NN xs (12 * j + 9) 6 = 4
                      · rw [e4]
                        refine z_tableIn 460 d_La_law_289 (by decide) (by decide) rfl (by decide) ?_
                        refine z_aload 6 d_La_law_460 rfl ?_
                        refine z_aload_n 13 d_La_law_462 rfl rfl ?_
                        refine z_iload 8 d_La_law_463 rfl ?_
                        refine z_bipush (v := (nI 10)) d_La_law_465 (by decide) ?_
                        refine z_iadd d_La_law_467 ?_
                        refine z_topv (v := nI (12 * j + 10)) (nI_add _ _) ?_
                        refine z_iconst (v := (nI 2)) d_La_law_468 (by decide) ?_
                        refine z_callS0 ((m_La_drawn hs0 hst hX hbl hNN (k := 12 * j + 10) (n := 2) (by omega) (by decide) (by decide))) ym_La_drawn qM_La_29 qS_La_drawn d_La_law_469 rfl (Nat.le_of_ble_eq_true rfl) ⟨by show _ ≤ 600086; omega, by show _ ≤ 7301442; omega⟩ ⟨Nat.le_of_ble_eq_true rfl, Nat.le_of_ble_eq_true rfl⟩ ?_
                        refine z_iload 2 d_La_law_472 rfl ?_
                        refine z_aload_n 13 d_La_law_474 rfl rfl ?_
                        refine z_iload 8 d_La_law_475 rfl ?_
                        refine z_bipush (v := (nI 11)) d_La_law_477 (by decide) ?_
                        refine z_iadd d_La_law_479 ?_
                        refine z_topv (v := nI (12 * j + 11)) (nI_add _ _) ?_
                        refine z_iconst (v := (nI 2)) d_La_law_480 (by decide) ?_
                        refine z_callS0 ((m_La_drawn hs0 hst hX hbl hNN (k := 12 * j + 11) (n := 2) (by omega) (by decide) (by decide))) ym_La_drawn qM_La_29 qS_La_drawn d_La_law_481 rfl (Nat.le_of_ble_eq_true rfl) ⟨by show _ ≤ 600086; omega, by show _ ≤ 7301442; omega⟩ ⟨Nat.le_of_ble_eq_true rfl, Nat.le_of_ble_eq_true rfl⟩ ?_
                        refine z_if_ne 491 d_La_law_484 (by decide) (fun c_484 => ?_) (fun c_484 => ?_)
                        · skip
                          have hL4 := gCx_4b hX9 e0 e1 e2 e3 e4 (fun q => c_484 ((congrArg nI q).trans nI_0))
                          refine z_iconst (v := 0) d_La_law_491 (by decide) ?_
                          refine z_callV ((m_Tb_freeze hs0 hst hQb.t _ _ _)) ym_Tb_freeze qM_La_59 qI_Tb_freeze qV_Tb_Tb_freeze zc_Tb hQb.t.tb d_La_law_492 rfl (Nat.le_of_ble_eq_true rfl) ⟨by show _ ≤ 600086; omega, by show _ ≤ 7301442; omega⟩ ⟨Nat.le_of_ble_eq_true rfl, Nat.le_of_ble_eq_true rfl⟩ ?_ ?_
                          · exact fun E G9 hx => (gX_freeze (x3 := 0) hns rfl rfl (zdw_lt (by decide)) hsi hx).elim
                          intro r_492 G_492 hp_492
                          obtain ⟨v9, hv9⟩ := gV_freeze hp_492
                          obtain rfl : r_492 = _ := hv9
                          obtain ⟨y1, y2⟩ := hL4
                          subst W1
                          subst ne1
                          obtain ⟨A5, D5, V5, hT5, hN5, hF5, hS5⟩ := gL_freeze hSb4 hnk hns rfl hsi hp_492
                          have hQ5 := hQb.act hT5 hN5 hF5
                          refine z_pop d_La_law_495 rfl ?_
                          refine z_goto 509 d_La_law_496 (by decide) ?_
                          refine z_sub (L' := [(11, _), (9, _), (8, _), (7, _), (6, _), (5, _), (4, _), (3, _), (2, _), (1, _), (0, _)]) [2, 4, 5, 6, 7, 8, 9, 10, 11, 12, 13] rfl ?_
                          refine z_widen (k := (100 + 3000 * j + 1000 * tw + 300)) (n := (2000 + 60000 * j + 20000 * tw + 8000)) (by omega) (by omega) ?_
                          exact hJ_509 _ _ _ _ hQ5 hN5.1 hS5 rfl rfl hsi
                        · skip
                          have hL4 := gCx_4a hX9 e0 e1 e2 e3 e4 ((nI_z (by have := zdw_lt (NN := NN) (xs := xs) (k := 12 * j + 11) (m := 2) (by decide); omega)).mp c_484)
                          refine z_iconst (v := 1) d_La_law_487 (by decide) ?_
                          refine z_goto 492 d_La_law_488 (by decide) ?_
                          refine z_callV ((m_Tb_freeze hs0 hst hQb.t _ _ _)) ym_Tb_freeze qM_La_59 qI_Tb_freeze qV_Tb_Tb_freeze zc_Tb hQb.t.tb d_La_law_492 rfl (Nat.le_of_ble_eq_true rfl) ⟨by show _ ≤ 600086; omega, by show _ ≤ 7301442; omega⟩ ⟨Nat.le_of_ble_eq_true rfl, Nat.le_of_ble_eq_true rfl⟩ ?_ ?_
                          · exact fun E G9 hx => (gX_freeze (x3 := 0) hns rfl rfl (zdw_lt (by decide)) hsi hx).elim
                          intro r_492 G_492 hp_492
                          obtain ⟨v9, hv9⟩ := gV_freeze hp_492
                          obtain rfl : r_492 = _ := hv9
                          obtain ⟨y1, y2⟩ := hL4
                          subst W1
                          subst ne1
                          obtain ⟨A5, D5, V5, hT5, hN5, hF5, hS5⟩ := gL_freeze hSb4 hnk hns rfl hsi hp_492
                          have hQ5 := hQb.act hT5 hN5 hF5
                          refine z_pop d_La_law_495 rfl ?_
                          refine z_goto 509 d_La_law_496 (by decide) ?_
                          refine z_sub (L' := [(11, _), (9, _), (8, _), (7, _), (6, _), (5, _), (4, _), (3, _), (2, _), (1, _), (0, _)]) [2, 4, 5, 6, 7, 8, 9, 10, 11, 12, 13] rfl ?_
                          refine z_widen (k := (100 + 3000 * j + 1000 * tw + 300)) (n := (2000 + 60000 * j + 20000 * tw + 8000)) (by omega) (by omega) ?_
                          exact hJ_509 _ _ _ _ hQ5 hN5.1 hS5 rfl rfl hsi
                      have e5 : zdw NN xs (12 * j + 9) 6 = 5 := by
                        have := zdw_lt (NN := NN) (xs := xs) (k := 12 * j + 9) (m := 6) (by decide)
                        omega
                      rw [e5]
                      · skip
                        refine z_tableOut 499 d_La_law_289 (Or.inr (by decide)) (by decide) ?_
                        refine z_aload 6 d_La_law_499 rfl ?_
                        refine z_iload 2 d_La_law_501 rfl ?_
                        refine z_iload 1 d_La_law_503 rfl ?_
                        refine z_callV ((m_Tb_openE hs0 hst hQb.t _ _)) ym_Tb_open qM_La_63 qI_Tb_open qV_Tb_Tb_open zc_Tb hQb.t.tb d_La_law_505 rfl (Nat.le_of_ble_eq_true rfl) ⟨by show _ ≤ 600086; omega, by show _ ≤ 7301442; omega⟩ ⟨Nat.le_of_ble_eq_true rfl, Nat.le_of_ble_eq_true rfl⟩ ?_ ?_
                        · exact fun E G9 hx => (gX_open hnk hns rfl rfl hsi hgl hx).elim
                        intro r_505 G_505 hp_505
                        obtain ⟨v9, hv9⟩ := gV_open hp_505
                        obtain rfl : r_505 = _ := hv9
                        obtain ⟨A5, D5, V5, hT5, hN5, hF5, hS5⟩ := gL_open hSb4 hP (by omega) hnk hns rfl rfl hsi hgl (gCx_5 hX9 e0 e1 e2 e3 e4) hp_505
                        have hQ5 := hQb.act hT5 hN5 hF5
                        refine z_pop d_La_law_508 rfl ?_
                        refine z_sub (L' := [(11, _), (9, _), (8, _), (7, _), (6, _), (5, _), (4, _), (3, _), (2, _), (1, _), (0, _)]) [2, 4, 5, 6, 7, 8, 9, 10, 11, 12, 13] rfl ?_
                        refine z_widen (k := (100 + 3000 * j + 1000 * tw + 300)) (n := (2000 + 60000 * j + 20000 * tw + 8000)) (by omega) (by omega) ?_
                        exact hJ_509 _ _ _ _ hQ5 hN5.1 hS5 rfl rfl hsi
                    · skip
                      have hc2 : ((ns < 6 ∧ zdw NN xs (12 * j + 4) 3 = 0) ∨ ns = 0) := Or.inr ((nI_z (by omega)).mp c_163)
                      have hg8 : zdw NN xs (12 * j + 8) (2 ^ nk) < 2 ^ nk := zdw_lt (Nat.two_pow_pos nk)
                      have hglt : zdw NN xs (12 * j + 8) (2 ^ nk) ||| 1 < 2 ^ nk := Nat.or_lt_two_pow hg8 (Nat.one_lt_two_pow hn0)
                      have hz2 : zdw NN xs (12 * j + 6) 2 < 2 := zdw_lt (by decide)
                      have hz50 : zdw NN xs (12 * j + 7) 50 < 50 := zdw_lt (by decide)
                      have hp2 := zpw hnk
                      refine z_aload 3 d_La_law_166 rfl ?_
                      refine z_aload_n 10 d_La_law_168 rfl rfl ?_
                      refine z_iload 5 d_La_law_169 rfl ?_
                      refine z_iconst (v := (nI 5)) d_La_law_171 (by decide) ?_
                      refine z_iadd d_La_law_172 ?_
                      refine z_topv (v := nI (12 * j + 5)) (nI_add _ _) ?_
                      refine z_bipush (v := (nI 97)) d_La_law_173 (by decide) ?_
                      refine z_callS0 ((m_La_drawn hs0 hst hX hbl hNN (k := 12 * j + 5) (n := 97) (by omega) (by decide) (by decide))) ym_La_drawn qM_La_29 qS_La_drawn d_La_law_175 rfl (Nat.le_of_ble_eq_true rfl) ⟨by show _ ≤ 600086; omega, by show _ ≤ 7301442; omega⟩ ⟨Nat.le_of_ble_eq_true rfl, Nat.le_of_ble_eq_true rfl⟩ ?_
                      refine z_iconst (v := (nI 1)) d_La_law_178 (by decide) ?_
                      refine z_iconst (v := (nI 1)) d_La_law_179 (by decide) ?_
                      refine z_aload_n 10 d_La_law_180 rfl rfl ?_
                      refine z_iload 5 d_La_law_181 rfl ?_
                      refine z_bipush (v := (nI 6)) d_La_law_183 (by decide) ?_
                      refine z_iadd d_La_law_185 ?_
                      refine z_topv (v := nI (12 * j + 6)) (nI_add _ _) ?_
                      refine z_iconst (v := (nI 2)) d_La_law_186 (by decide) ?_
                      refine z_callS0 ((m_La_drawn hs0 hst hX hbl hNN (k := 12 * j + 6) (n := 2) (by omega) (by decide) (by decide))) ym_La_drawn qM_La_29 qS_La_drawn d_La_law_187 rfl (Nat.le_of_ble_eq_true rfl) ⟨by show _ ≤ 600086; omega, by show _ ≤ 7301442; omega⟩ ⟨Nat.le_of_ble_eq_true rfl, Nat.le_of_ble_eq_true rfl⟩ ?_
                      refine z_iadd d_La_law_190 ?_
                      refine z_topv (v := nI (1 + (zdw NN xs (12 * j + 6) 2))) (nI_add _ _) ?_
                      refine z_aload_n 10 d_La_law_191 rfl rfl ?_
                      refine z_iload 5 d_La_law_192 rfl ?_
                      refine z_bipush (v := (nI 7)) d_La_law_194 (by decide) ?_
                      refine z_iadd d_La_law_196 ?_
                      refine z_topv (v := nI (12 * j + 7)) (nI_add _ _) ?_
                      refine z_bipush (v := (nI 50)) d_La_law_197 (by decide) ?_
                      refine z_callS0 ((m_La_drawn hs0 hst hX hbl hNN (k := 12 * j + 7) (n := 50) (by omega) (by decide) (by decide))) ym_La_drawn qM_La_29 qS_La_drawn d_La_law_199 rfl (Nat.le_of_ble_eq_true rfl) ⟨by show _ ≤ 600086; omega, by show _ ≤ 7301442; omega⟩ ⟨Nat.le_of_ble_eq_true rfl, Nat.le_of_ble_eq_true rfl⟩ ?_
                      refine z_aload_n 10 d_La_law_202 rfl rfl ?_
                      refine z_iload 5 d_La_law_203 rfl ?_
                      refine z_bipush (v := (nI 8)) d_La_law_205 (by decide) ?_
                      refine z_iadd d_La_law_207 ?_
                      refine z_topv (v := nI (12 * j + 8)) (nI_add _ _) ?_
                      refine z_iload 1 d_La_law_208 rfl ?_
                      refine z_iconst (v := (nI 1)) d_La_law_210 (by decide) ?_
                      refine z_iadd d_La_law_211 ?_
                      refine z_topv (v := nI (2 ^ nk)) (g2p nk) ?_
                      refine z_callS0 ((m_La_drawn hs0 hst hX hbl hNN (k := 12 * j + 8) (n := (2 ^ nk)) (by omega) (Nat.two_pow_pos nk) (by have := zpw hnk; omega))) ym_La_drawn qM_La_29 qS_La_drawn d_La_law_212 rfl (Nat.le_of_ble_eq_true rfl) ⟨by show _ ≤ 600086; omega, by show _ ≤ 7301442; omega⟩ ⟨Nat.le_of_ble_eq_true rfl, Nat.le_of_ble_eq_true rfl⟩ ?_
                      refine z_iconst (v := (nI 1)) d_La_law_215 (by decide) ?_
                      refine z_ior d_La_law_216 ?_
                      refine z_topv (v := nI ((zdw NN xs (12 * j + 8) (2 ^ nk)) ||| 1)) (gor _ (by have := zpw hnk; have := zdw_lt (NN := NN) (xs := xs) (k := 12 * j + 8) (Nat.two_pow_pos nk); omega) 1 (by decide)) ?_
                      refine z_callV ((m_Tb_dealME hs0 hst hQb.t _ _ _ _ _)) ym_Tb_deal qM_La_37 qI_Tb_deal qV_Tb_Tb_deal zc_Tb hQb.t.tb d_La_law_217 rfl (Nat.le_of_ble_eq_true rfl) ⟨by show _ ≤ 600086; omega, by show _ ≤ 7301442; omega⟩ ⟨Nat.le_of_ble_eq_true rfl, Nat.le_of_ble_eq_true rfl⟩ ?_ ?_
                      · exact fun E G9 hx => (gX_deal hnk (hc2.elim (fun q => q.1) (fun q => by omega)) rfl rfl rfl rfl rfl (zdw_lt (by decide)) (by omega) (by omega) (by omega) hglt (by omega) hx).elim
                      intro r_217 G_217 hp_217
                      obtain ⟨v9, hv9⟩ := gV_deal hp_217
                      obtain rfl : r_217 = _ := hv9
                      obtain ⟨hmd, y1, y2⟩ := gCs_D hR hc1 hc2
                      subst nk1
                      subst ns1
                      obtain ⟨A5, D5, V5, hT5, hN5, hF5, hS5⟩ := gL_deal hSb4 hnk rfl rfl rfl (zdw_lt (by decide)) hglt hmd hp_217
                      have hQ5 := hQb.act hT5 hN5 hF5
                      refine z_pop d_La_law_220 rfl ?_
                      refine z_goto 573 d_La_law_221 (by decide) ?_
                      refine z_sub (L' := [(7, _), (6, _), (5, _), (4, _), (3, _), (2, _), (1, _), (0, _)]) [3, 4, 5, 6, 7, 8, 9, 10] rfl ?_
                      refine z_widen (k := (100 + 3000 * j + 1000 * tw + 600)) (n := (2000 + 60000 * j + 20000 * tw + 16000)) (by omega) (by omega) ?_
                      first
                        | exact hJ_573 _ _ _ _ hQ5 hN5.1 hS5
                        | (rw [eA4]; exact hJ_573 _ _ _ _ hQ9 eA4 hS9)
              · skip
                have hc1 : ((nk < 8 ∧ zdw NN xs (12 * j + 0) 3 = 0) ∨ nk = 0) := Or.inr ((nI_z (by omega)).mp c_99)
                refine z_aload 3 d_La_law_102 rfl ?_
                refine z_aload_n 10 d_La_law_104 rfl rfl ?_
                refine z_iload 5 d_La_law_105 rfl ?_
                refine z_iconst (v := (nI 1)) d_La_law_107 (by decide) ?_
                refine z_iadd d_La_law_108 ?_
                refine z_topv (v := nI (12 * j + 1)) (nI_add _ _) ?_
                refine z_iconst (v := (nI 4)) d_La_law_109 (by decide) ?_
                refine z_callS0 ((m_La_drawn hs0 hst hX hbl hNN (k := 12 * j + 1) (n := 4) (by omega) (by decide) (by decide))) ym_La_drawn qM_La_29 qS_La_drawn d_La_law_110 rfl (Nat.le_of_ble_eq_true rfl) ⟨by show _ ≤ 600086; omega, by show _ ≤ 7301442; omega⟩ ⟨Nat.le_of_ble_eq_true rfl, Nat.le_of_ble_eq_true rfl⟩ ?_
                refine z_iconst (v := (nI 1)) d_La_law_113 (by decide) ?_
                refine z_aload_n 10 d_La_law_114 rfl rfl ?_
                refine z_iload 5 d_La_law_115 rfl ?_
                refine z_iconst (v := (nI 2)) d_La_law_117 (by decide) ?_
                refine z_iadd d_La_law_118 ?_
                refine z_topv (v := nI (12 * j + 2)) (nI_add _ _) ?_
                refine z_bipush (v := (nI 99)) d_La_law_119 (by decide) ?_
                refine z_callS0 ((m_La_drawn hs0 hst hX hbl hNN (k := 12 * j + 2) (n := 99) (by omega) (by decide) (by decide))) ym_La_drawn qM_La_29 qS_La_drawn d_La_law_121 rfl (Nat.le_of_ble_eq_true rfl) ⟨by show _ ≤ 600086; omega, by show _ ≤ 7301442; omega⟩ ⟨Nat.le_of_ble_eq_true rfl, Nat.le_of_ble_eq_true rfl⟩ ?_
                refine z_iadd d_La_law_124 ?_
                refine z_topv (v := nI (1 + (zdw NN xs (12 * j + 2) 99))) (nI_add _ _) ?_
                refine z_aload_n 10 d_La_law_125 rfl rfl ?_
                refine z_iload 5 d_La_law_126 rfl ?_
                refine z_iconst (v := (nI 3)) d_La_law_128 (by decide) ?_
                refine z_iadd d_La_law_129 ?_
                refine z_topv (v := nI (12 * j + 3)) (nI_add _ _) ?_
                refine z_bipush (v := (nI 101)) d_La_law_130 (by decide) ?_
                refine z_callS0 ((m_La_drawn hs0 hst hX hbl hNN (k := 12 * j + 3) (n := 101) (by omega) (by decide) (by decide))) ym_La_drawn qM_La_29 qS_La_drawn d_La_law_132 rfl (Nat.le_of_ble_eq_true rfl) ⟨by show _ ≤ 600086; omega, by show _ ≤ 7301442; omega⟩ ⟨Nat.le_of_ble_eq_true rfl, Nat.le_of_ble_eq_true rfl⟩ ?_
                refine z_callV ((m_Tb_keeperM hs0 hst hQb.t _ _ _)) ym_Tb_keeper qM_La_33 qI_Tb_keeper qV_Tb_Tb_keeper zc_Tb hQb.t.tb d_La_law_135 rfl (Nat.le_of_ble_eq_true rfl) ⟨by show _ ≤ 600086; omega, by show _ ≤ 7301442; omega⟩ ⟨Nat.le_of_ble_eq_true rfl, Nat.le_of_ble_eq_true rfl⟩ ?_ ?_
                · exact fun E G9 hx => (gX_keeper (hc1.elim (fun q => q.1) (fun q => by omega)) (zdw_lt (by decide)) (zdw_lt (by decide)) (zdw_lt (by decide)) hx).elim
                intro r_135 G_135 hp_135
                obtain ⟨v9, hv9⟩ := gV_keeper hp_135
                obtain rfl : r_135 = _ := hv9
                obtain ⟨y1, y2, y3, y4⟩ := gCs_K hR hc1
                subst W1
                subst nk1
                subst ns1
                subst ne1
                obtain ⟨A5, D5, V5, hT5, hN5, hF5, hS5⟩ := gL_keeper hSb4 hns hp_135
                have hQ5 := hQb.act hT5 hN5 hF5
                refine z_pop d_La_law_138 rfl ?_
                refine z_goto 573 d_La_law_139 (by decide) ?_
                refine z_sub (L' := [(7, _), (6, _), (5, _), (4, _), (3, _), (2, _), (1, _), (0, _)]) [3, 4, 5, 6, 7, 8, 9, 10] rfl ?_
                refine z_widen (k := (100 + 3000 * j + 1000 * tw + 600)) (n := (2000 + 60000 * j + 20000 * tw + 16000)) (by omega) (by omega) ?_
                first
                  | exact hJ_573 _ _ _ _ hQ5 hN5.1 hS5
                  | (rw [eA4]; exact hJ_573 _ _ _ _ hQ9 eA4 hS9)
            · skip
              have h84 : nk < 8 := by
                by_cases q : nk < 8
                · exact q
                · exact absurd ((nI_leI (by first | decide | omega) (by first | decide | omega)).mpr (show 8 ≤ nk by omega)) c_84
              refine z_aload_n 10 d_La_law_87 rfl rfl ?_
              refine z_iload 5 d_La_law_88 rfl ?_
              refine z_iconst (v := (nI 3)) d_La_law_90 (by decide) ?_
              refine z_callS0 ((m_La_drawn hs0 hst hX hbl hNN (k := 12 * j) (n := 3) (by omega) (by decide) (by decide))) ym_La_drawn qM_La_29 qS_La_drawn d_La_law_91 rfl (Nat.le_of_ble_eq_true rfl) ⟨by show _ ≤ 600086; omega, by show _ ≤ 7301442; omega⟩ ⟨Nat.le_of_ble_eq_true rfl, Nat.le_of_ble_eq_true rfl⟩ ?_
              refine z_if_eq 102 d_La_law_94 (by decide) (fun c_94 => ?_) (fun c_94 => ?_)
              · skip
                have hc1 : ((nk < 8 ∧ zdw NN xs (12 * j + 0) 3 = 0) ∨ nk = 0) := Or.inl ⟨h84, (nI_z (by have := zdw_lt (NN := NN) (xs := xs) (k := 12 * j + 0) (m := 3) (by decide); omega)).mp c_94⟩
                refine z_aload 3 d_La_law_102 rfl ?_
                refine z_aload_n 10 d_La_law_104 rfl rfl ?_
                refine z_iload 5 d_La_law_105 rfl ?_
                refine z_iconst (v := (nI 1)) d_La_law_107 (by decide) ?_
                refine z_iadd d_La_law_108 ?_
                refine z_topv (v := nI (12 * j + 1)) (nI_add _ _) ?_
                refine z_iconst (v := (nI 4)) d_La_law_109 (by decide) ?_
                refine z_callS0 ((m_La_drawn hs0 hst hX hbl hNN (k := 12 * j + 1) (n := 4) (by omega) (by decide) (by decide))) ym_La_drawn qM_La_29 qS_La_drawn d_La_law_110 rfl (Nat.le_of_ble_eq_true rfl) ⟨by show _ ≤ 600086; omega, by show _ ≤ 7301442; omega⟩ ⟨Nat.le_of_ble_eq_true rfl, Nat.le_of_ble_eq_true rfl⟩ ?_
                refine z_iconst (v := (nI 1)) d_La_law_113 (by decide) ?_
                refine z_aload_n 10 d_La_law_114 rfl rfl ?_
                refine z_iload 5 d_La_law_115 rfl ?_
                refine z_iconst (v := (nI 2)) d_La_law_117 (by decide) ?_
                refine z_iadd d_La_law_118 ?_
                refine z_topv (v := nI (12 * j + 2)) (nI_add _ _) ?_
                refine z_bipush (v := (nI 99)) d_La_law_119 (by decide) ?_
                refine z_callS0 ((m_La_drawn hs0 hst hX hbl hNN (k := 12 * j + 2) (n := 99) (by omega) (by decide) (by decide))) ym_La_drawn qM_La_29 qS_La_drawn d_La_law_121 rfl (Nat.le_of_ble_eq_true rfl) ⟨by show _ ≤ 600086; omega, by show _ ≤ 7301442; omega⟩ ⟨Nat.le_of_ble_eq_true rfl, Nat.le_of_ble_eq_true rfl⟩ ?_
                refine z_iadd d_La_law_124 ?_
                refine z_topv (v := nI (1 + (zdw NN xs (12 * j + 2) 99))) (nI_add _ _) ?_
                refine z_aload_n 10 d_La_law_125 rfl rfl ?_
                refine z_iload 5 d_La_law_126 rfl ?_
                refine z_iconst (v := (nI 3)) d_La_law_128 (by decide) ?_
                refine z_iadd d_La_law_129 ?_
                refine z_topv (v := nI (12 * j + 3)) (nI_add _ _) ?_
                refine z_bipush (v := (nI 101)) d_La_law_130 (by decide) ?_
                refine z_callS0 ((m_La_drawn hs0 hst hX hbl hNN (k := 12 * j + 3) (n := 101) (by omega) (by decide) (by decide))) ym_La_drawn qM_La_29 qS_La_drawn d_La_law_132 rfl (Nat.le_of_ble_eq_true rfl) ⟨by show _ ≤ 600086; omega, by show _ ≤ 7301442; omega⟩ ⟨Nat.le_of_ble_eq_true rfl, Nat.le_of_ble_eq_true rfl⟩ ?_
                refine z_callV ((m_Tb_keeperM hs0 hst hQb.t _ _ _)) ym_Tb_keeper qM_La_33 qI_Tb_keeper qV_Tb_Tb_keeper zc_Tb hQb.t.tb d_La_law_135 rfl (Nat.le_of_ble_eq_true rfl) ⟨by show _ ≤ 600086; omega, by show _ ≤ 7301442; omega⟩ ⟨Nat.le_of_ble_eq_true rfl, Nat.le_of_ble_eq_true rfl⟩ ?_ ?_
                · exact fun E G9 hx => (gX_keeper (hc1.elim (fun q => q.1) (fun q => by omega)) (zdw_lt (by decide)) (zdw_lt (by decide)) (zdw_lt (by decide)) hx).elim
                intro r_135 G_135 hp_135
                obtain ⟨v9, hv9⟩ := gV_keeper hp_135
                obtain rfl : r_135 = _ := hv9
                obtain ⟨y1, y2, y3, y4⟩ := gCs_K hR hc1
                subst W1
                subst nk1
                subst ns1
                subst ne1
                obtain ⟨A5, D5, V5, hT5, hN5, hF5, hS5⟩ := gL_keeper hSb4 hns hp_135
                have hQ5 := hQb.act hT5 hN5 hF5
                refine z_pop d_La_law_138 rfl ?_
                refine z_goto 573 d_La_law_139 (by decide) ?_
                refine z_sub (L' := [(7, _), (6, _), (5, _), (4, _), (3, _), (2, _), (1, _), (0, _)]) [3, 4, 5, 6, 7, 8, 9, 10] rfl ?_
                refine z_widen (k := (100 + 3000 * j + 1000 * tw + 600)) (n := (2000 + 60000 * j + 20000 * tw + 16000)) (by omega) (by omega) ?_
                first
                  | exact hJ_573 _ _ _ _ hQ5 hN5.1 hS5
                  | (rw [eA4]; exact hJ_573 _ _ _ _ hQ9 eA4 hS9)
              · skip
                have h94 : ¬ zdw NN xs (12 * j + 0) 3 = 0 := fun q => c_94 ((congrArg nI q).trans nI_0)
                refine z_iload 2 d_La_law_97 rfl ?_
                refine z_if_ne 142 d_La_law_99 (by decide) (fun c_99 => ?_) (fun c_99 => ?_)
                · skip
                  have hn0 : nk ≠ 0 := fun q => c_99 ((congrArg nI q).trans nI_0)
                  have hc1 : ¬ ((nk < 8 ∧ zdw NN xs (12 * j + 0) 3 = 0) ∨ nk = 0) := by
                    rintro (q | q)
                    · first | exact absurd q.1 (by omega) | exact h94 q.2
                    · exact hn0 q
                  refine z_iload 0 d_La_law_142 rfl ?_
                  refine z_bipush (v := (nI 6)) d_La_law_144 (by decide) ?_
                  refine z_icmp_ge 161 d_La_law_146 (by decide) (fun c_146 => ?_) (fun c_146 => ?_)
                  · skip
                    have h146 : 6 ≤ ns := (nI_leI (by first | decide | omega) (by first | decide | omega)).mp c_146
                    refine z_iload 0 d_La_law_161 rfl ?_
                    refine z_if_ne 224 d_La_law_163 (by decide) (fun c_163 => ?_) (fun c_163 => ?_)
                    · skip
                      have hs9 : ns ≠ 0 := fun q => c_163 ((congrArg nI q).trans nI_0)
                      have hc2 : ¬ ((ns < 6 ∧ zdw NN xs (12 * j + 4) 3 = 0) ∨ ns = 0) := by
                        rintro (q | q)
                        · first | exact absurd q.1 (by omega) | exact h158 q.2
                        · exact hs9 q
                      obtain ⟨hX9, y1, y2⟩ := gCs_X hR hc1 hc2
                      subst nk1
                      subst ns1
                      have hns0 : 0 < ns := by omega
                      have hnk0 : 0 < nk := by omega
                      have hsi : (zdw NN xs (12 * j + 5) ns) < ns := zdw_lt hns0
                      have hgl : (zdw NN xs (12 * j + 6) (2 ^ nk) ||| zdw NN xs (12 * j + 7) (2 ^ nk)) < 2 ^ nk := Nat.or_lt_two_pow (zdw_lt (Nat.two_pow_pos nk)) (zdw_lt (Nat.two_pow_pos nk))
                      have hki : (zdw NN xs (12 * j + 8) nk) < nk := zdw_lt hnk0
                      have hp2 := zpw hnk
                      refine z_aload_n 10 d_La_law_224 rfl rfl ?_
                      refine z_iload 5 d_La_law_225 rfl ?_
                      refine z_iconst (v := (nI 5)) d_La_law_227 (by decide) ?_
                      refine z_iadd d_La_law_228 ?_
                      refine z_topv (v := nI (12 * j + 5)) (nI_add _ _) ?_
                      refine z_iload 0 d_La_law_229 rfl ?_
                      refine z_callS0 ((m_La_drawn hs0 hst hX hbl hNN (k := 12 * j + 5) (n := ns) (by omega) (by omega) (by omega))) ym_La_drawn qM_La_29 qS_La_drawn d_La_law_231 rfl (Nat.le_of_ble_eq_true rfl) ⟨by show _ ≤ 600086; omega, by show _ ≤ 7301442; omega⟩ ⟨Nat.le_of_ble_eq_true rfl, Nat.le_of_ble_eq_true rfl⟩ ?_
                      refine z_istore (L' := [(11, _), (10, _), (9, _), (8, _), (7, _), (6, _), (5, _), (4, _), (3, _), (2, _), (1, _), (0, _)]) d_La_law_234 (by decide) rfl ?_
                      refine z_aload_n 11 d_La_law_236 rfl rfl ?_
                      refine z_iload 6 d_La_law_237 rfl ?_
                      refine z_bipush (v := (nI 6)) d_La_law_239 (by decide) ?_
                      refine z_iadd d_La_law_241 ?_
                      refine z_topv (v := nI (12 * j + 6)) (nI_add _ _) ?_
                      refine z_iload 2 d_La_law_242 rfl ?_
                      refine z_iconst (v := (nI 1)) d_La_law_244 (by decide) ?_
                      refine z_iadd d_La_law_245 ?_
                      refine z_topv (v := nI (2 ^ nk)) (g2p nk) ?_
                      refine z_callS0 ((m_La_drawn hs0 hst hX hbl hNN (k := 12 * j + 6) (n := (2 ^ nk)) (by omega) (Nat.two_pow_pos nk) (by have := zpw hnk; omega))) ym_La_drawn qM_La_29 qS_La_drawn d_La_law_246 rfl (Nat.le_of_ble_eq_true rfl) ⟨by show _ ≤ 600086; omega, by show _ ≤ 7301442; omega⟩ ⟨Nat.le_of_ble_eq_true rfl, Nat.le_of_ble_eq_true rfl⟩ ?_
                      refine z_aload_n 11 d_La_law_249 rfl rfl ?_
                      refine z_iload 6 d_La_law_250 rfl ?_
                      refine z_bipush (v := (nI 7)) d_La_law_252 (by decide) ?_
                      refine z_iadd d_La_law_254 ?_
                      refine z_topv (v := nI (12 * j + 7)) (nI_add _ _) ?_
                      refine z_iload 2 d_La_law_255 rfl ?_
                      refine z_iconst (v := (nI 1)) d_La_law_257 (by decide) ?_
                      refine z_iadd d_La_law_258 ?_
                      refine z_topv (v := nI (2 ^ nk)) (g2p nk) ?_
                      refine z_callS0 ((m_La_drawn hs0 hst hX hbl hNN (k := 12 * j + 7) (n := (2 ^ nk)) (by omega) (Nat.two_pow_pos nk) (by have := zpw hnk; omega))) ym_La_drawn qM_La_29 qS_La_drawn d_La_law_259 rfl (Nat.le_of_ble_eq_true rfl) ⟨by show _ ≤ 600086; omega, by show _ ≤ 7301442; omega⟩ ⟨Nat.le_of_ble_eq_true rfl, Nat.le_of_ble_eq_true rfl⟩ ?_
                      refine z_ior d_La_law_262 ?_
                      refine z_topv (v := nI ((zdw NN xs (12 * j + 6) (2 ^ nk)) ||| (zdw NN xs (12 * j + 7) (2 ^ nk)))) (gor _ (by have := zpw hnk; have := zdw_lt (NN := NN) (xs := xs) (k := 12 * j + 6) (Nat.two_pow_pos nk); omega) _ (by have := zpw hnk; have := zdw_lt (NN := NN) (xs := xs) (k := 12 * j + 7) (Nat.two_pow_pos nk); omega)) ?_
                      refine z_istore (L' := [(12, _), (11, _), (10, _), (9, _), (8, _), (7, _), (6, _), (5, _), (4, _), (3, _), (2, _), (1, _), (0, _)]) d_La_law_263 (by decide) rfl ?_
                      refine z_aload_n 12 d_La_law_265 rfl rfl ?_
                      refine z_iload 7 d_La_law_266 rfl ?_
                      refine z_bipush (v := (nI 8)) d_La_law_268 (by decide) ?_
                      refine z_iadd d_La_law_270 ?_
                      refine z_topv (v := nI (12 * j + 8)) (nI_add _ _) ?_
                      refine z_iload 4 d_La_law_271 rfl ?_
                      refine z_callS0 ((m_La_drawn hs0 hst hX hbl hNN (k := 12 * j + 8) (n := nk) (by omega) (by omega) (by omega))) ym_La_drawn qM_La_29 qS_La_drawn d_La_law_273 rfl (Nat.le_of_ble_eq_true rfl) ⟨by show _ ≤ 600086; omega, by show _ ≤ 7301442; omega⟩ ⟨Nat.le_of_ble_eq_true rfl, Nat.le_of_ble_eq_true rfl⟩ ?_
                      refine z_istore (L' := [(13, _), (12, _), (11, _), (10, _), (9, _), (8, _), (7, _), (6, _), (5, _), (4, _), (3, _), (2, _), (1, _), (0, _)]) d_La_law_276 (by decide) rfl ?_
                      refine z_aload_n 13 d_La_law_278 rfl rfl ?_
                      refine z_iload 8 d_La_law_279 rfl ?_
                      refine z_bipush (v := (nI 9)) d_La_law_281 (by decide) ?_
                      refine z_iadd d_La_law_283 ?_
                      refine z_topv (v := nI (12 * j + 9)) (nI_add _ _) ?_
                      refine z_bipush (v := (nI 6)) d_La_law_284 (by decide) ?_
                      refine z_callS0 ((m_La_drawn hs0 hst hX hbl hNN (k := 12 * j + 9) (n := 6) (by omega) (by decide) (by decide))) ym_La_drawn qM_La_29 qS_La_drawn d_La_law_286 rfl (Nat.le_of_ble_eq_true rfl) ⟨by show _ ≤ 600086; omega, by show _ ≤ 7301442; omega⟩ ⟨Nat.le_of_ble_eq_true rfl, Nat.le_of_ble_eq_true rfl⟩ ?_
                      skip
                      by_cases e0 : zdw NN xs (12 * j + 9) 6 = 0
                      · rw [e0]
                        refine z_tableIn 324 d_La_law_289 (by decide) (by decide) rfl (by decide) ?_
                        refine z_aload 6 d_La_law_324 rfl ?_
                        refine z_iload 2 d_La_law_326 rfl ?_
                        refine z_iload 1 d_La_law_328 rfl ?_
                        refine z_iconst (v := (nI 0)) d_La_law_330 (by decide) ?_
                        refine z_callV ((m_Tb_wouldE hs0 hst hQb.t _ _ _)) ym_Tb_would qM_La_41 qI_Tb_would qV_Tb_Tb_would zc_Tb hQb.t.tb d_La_law_331 rfl (Nat.le_of_ble_eq_true rfl) ⟨by show _ ≤ 600086; omega, by show _ ≤ 7301442; omega⟩ ⟨Nat.le_of_ble_eq_true rfl, Nat.le_of_ble_eq_true rfl⟩ ?_ ?_
                        · exact fun E G9 hx => (gX_would hnk hns rfl rfl (q := 0) rfl hsi hgl (by decide) hx).elim
                        intro r_331 G_331 hp_331
                        obtain ⟨hr_331, D6, V6, hT6, hF6, hS6⟩ := gW_v hSb4 hP (by omega) hnk hns rfl rfl (q := 0) rfl hsi hgl (by decide) hp_331
                        obtain rfl : r_331 = _ := hr_331
                        have hQ6 := hQb.ask hT6 hF6
                        refine z_topv qWd_0 ?_
                        refine z_if_le 509 d_La_law_334 (by decide) (fun c_334 => ?_) (fun c_334 => ?_)
                        · skip
                          have hz := (gle0 gzp).mp c_334
                          obtain ⟨y1, y2⟩ := gCx_0n hX9 e0 hz
                          subst W1
                          subst ne1
                          have hQ5 := hQ6
                          have hS5 := hS6.up (N' := 10 * j + 1) (by omega)
                          have hN5 : A3 0 = A3 0 ∧ True := ⟨rfl, trivial⟩
                          refine z_sub (L' := [(11, _), (9, _), (8, _), (7, _), (6, _), (5, _), (4, _), (3, _), (2, _), (1, _), (0, _)]) [2, 4, 5, 6, 7, 8, 9, 10, 11, 12, 13] rfl ?_
                          refine z_widen (k := (100 + 3000 * j + 1000 * tw + 300)) (n := (2000 + 60000 * j + 20000 * tw + 8000)) (by omega) (by omega) ?_
                          exact hJ_509 _ _ _ _ hQ5 hN5.1 hS5 rfl rfl hsi
                        · skip
                          have hz : 0 < zpop 9 (mgr W (zdw NN xs (12 * j + 5) ns) (zdw NN xs (12 * j + 6) (2 ^ nk) ||| zdw NN xs (12 * j + 7) (2 ^ nk))) := by
                            by_cases q : 0 < zpop 9 (mgr W (zdw NN xs (12 * j + 5) ns) (zdw NN xs (12 * j + 6) (2 ^ nk) ||| zdw NN xs (12 * j + 7) (2 ^ nk)))
                            · exact q
                            · exact absurd ((gle0 gzp).mpr q) c_334
                          refine z_aload 6 d_La_law_337 rfl ?_
                          refine z_iload 2 d_La_law_339 rfl ?_
                          refine z_iload 1 d_La_law_341 rfl ?_
                          refine z_callV ((m_Tb_freshE hs0 hst hQ6.t _ _)) ym_Tb_fresh qM_La_44 qI_Tb_fresh qV_Tb_Tb_fresh zc_Tb hQ6.t.tb d_La_law_343 rfl (Nat.le_of_ble_eq_true rfl) ⟨by show _ ≤ 600086; omega, by show _ ≤ 7301442; omega⟩ ⟨Nat.le_of_ble_eq_true rfl, Nat.le_of_ble_eq_true rfl⟩ ?_ ?_
                          · exact fun E G9 hx => (gX_fresh hS6 hP (by omega) hnk hns rfl rfl hsi hgl hz hx).elim
                          intro r_343 G_343 hp_343
                          obtain ⟨v9, hv9⟩ := gV_fresh hp_343
                          obtain rfl : r_343 = _ := hv9
                          obtain ⟨A5, D5, V5, hT5, hN5, hF5, hS5⟩ := gL_fresh hS6 hP (by omega) hnk hns rfl rfl hsi hgl (gCx_0 hX9 e0 hz) hp_343
                          have hQ5 := hQ6.act hT5 hN5 hF5
                          refine z_pop d_La_law_346 rfl ?_
                          refine z_goto 509 d_La_law_347 (by decide) ?_
                          refine z_sub (L' := [(11, _), (9, _), (8, _), (7, _), (6, _), (5, _), (4, _), (3, _), (2, _), (1, _), (0, _)]) [2, 4, 5, 6, 7, 8, 9, 10, 11, 12, 13] rfl ?_
                          refine z_widen (k := (100 + 3000 * j + 1000 * tw + 300)) (n := (2000 + 60000 * j + 20000 * tw + 8000)) (by omega) (by omega) ?_
                          exact hJ_509 _ _ _ _ hQ5 hN5.1 hS5 rfl rfl hsi
                      by_cases e1 : zdw NN xs (12 * j + 9) 6 = 1
                      · rw [e1]
                        refine z_tableIn 350 d_La_law_289 (by decide) (by decide) rfl (by decide) ?_
                        refine z_aload 6 d_La_law_350 rfl ?_
                        refine z_aload_n 13 d_La_law_352 rfl rfl ?_
                        refine z_iload 8 d_La_law_353 rfl ?_
                        refine z_bipush (v := (nI 10)) d_La_law_355 (by decide) ?_
                        refine z_iadd d_La_law_357 ?_
                        refine z_topv (v := nI (12 * j + 10)) (nI_add _ _) ?_
                        refine z_iconst (v := (nI 4)) d_La_law_358 (by decide) ?_
                        refine z_callS0 ((m_La_drawn hs0 hst hX hbl hNN (k := 12 * j + 10) (n := 4) (by omega) (by decide) (by decide))) ym_La_drawn qM_La_29 qS_La_drawn d_La_law_359 rfl (Nat.le_of_ble_eq_true rfl) ⟨by show _ ≤ 600086; omega, by show _ ≤ 7301442; omega⟩ ⟨Nat.le_of_ble_eq_true rfl, Nat.le_of_ble_eq_true rfl⟩ ?_
                        refine z_callV ((m_Tb_floodE hs0 hst hQb.t _)) ym_Tb_flood qM_La_47 qI_Tb_flood qV_Tb_Tb_flood zc_Tb hQb.t.tb d_La_law_362 rfl (Nat.le_of_ble_eq_true rfl) ⟨by show _ ≤ 600086; omega, by show _ ≤ 7301442; omega⟩ ⟨Nat.le_of_ble_eq_true rfl, Nat.le_of_ble_eq_true rfl⟩ ?_ ?_
                        · exact fun E G9 hx => (gX_flood rfl (zdw_lt (by decide)) hx).elim
                        intro r_362 G_362 hp_362
                        obtain ⟨v9, hv9⟩ := gV_flood hp_362
                        obtain rfl : r_362 = _ := hv9
                        obtain ⟨A5, D5, V5, hT5, hN5, hF5, hS5⟩ := gL_flood hSb4 hnk hns (gCx_1 hX9 e0 e1) hp_362
                        have hQ5 := hQb.act hT5 hN5 hF5
                        refine z_pop d_La_law_365 rfl ?_
                        refine z_goto 509 d_La_law_366 (by decide) ?_
                        refine z_sub (L' := [(11, _), (9, _), (8, _), (7, _), (6, _), (5, _), (4, _), (3, _), (2, _), (1, _), (0, _)]) [2, 4, 5, 6, 7, 8, 9, 10, 11, 12, 13] rfl ?_
                        refine z_widen (k := (100 + 3000 * j + 1000 * tw + 300)) (n := (2000 + 60000 * j + 20000 * tw + 8000)) (by omega) (by omega) ?_
                        exact hJ_509 _ _ _ _ hQ5 hN5.1 hS5 rfl rfl hsi
                      by_cases e2 : zdw NN xs (12 * j + 9) 6 = 2
                      · rw [e2]
                        refine z_tableIn 369 d_La_law_289 (by decide) (by decide) rfl (by decide) ?_
                        refine z_aload 6 d_La_law_369 rfl ?_
                        refine z_iload 2 d_La_law_371 rfl ?_
                        refine z_iconst (v := (nI 4)) d_La_law_373 (by decide) ?_
                        refine z_callV ((m_Tb_ofSecretE hs0 hst hQb.t _ _)) ym_Tb_ofSecret qM_La_50 qI_Tb_ofSecret qV_Tb_Tb_ofSecret zc_Tb hQb.t.tb d_La_law_374 rfl (Nat.le_of_ble_eq_true rfl) ⟨by show _ ≤ 600086; omega, by show _ ≤ 7301442; omega⟩ ⟨Nat.le_of_ble_eq_true rfl, Nat.le_of_ble_eq_true rfl⟩ ?_ ?_
                        · exact fun E G9 hx => (gX_ofSecret hns rfl (q := 4) rfl hsi (by decide) hx).elim
                        intro r_374 G_374 hp_374
                        obtain ⟨⟨v4, hr_374, hv4⟩, D6, V6, hT6, hF6, hS6⟩ := gS_4 hSb4 hP (by omega) hns rfl rfl hsi hp_374
                        obtain rfl : r_374 = _ := hr_374
                        have hQ6 := hQb.ask hT6 hF6
                        refine z_iload 0 d_La_law_377 rfl ?_
                        refine z_ishr d_La_law_379 ?_
                        refine z_iconst (v := 1) d_La_law_380 (by decide) ?_
                        refine z_iand d_La_law_381 ?_
                        refine z_if_ne 509 d_La_law_382 (by decide) (fun c_382 => ?_) (fun c_382 => ?_)
                        · skip
                          obtain ⟨y1, y2⟩ := gCx_2n hX9 e0 e1 e2 (fun q => c_382 ((hv4 _ (by omega)).mpr q.1))
                          subst W1
                          subst ne1
                          have hQ5 := hQ6
                          have hS5 := hS6.up (N' := 10 * j + 1) (by omega)
                          have hN5 : A3 0 = A3 0 ∧ True := ⟨rfl, trivial⟩
                          refine z_sub (L' := [(11, _), (9, _), (8, _), (7, _), (6, _), (5, _), (4, _), (3, _), (2, _), (1, _), (0, _)]) [2, 4, 5, 6, 7, 8, 9, 10, 11, 12, 13] rfl ?_
                          refine z_widen (k := (100 + 3000 * j + 1000 * tw + 300)) (n := (2000 + 60000 * j + 20000 * tw + 8000)) (by omega) (by omega) ?_
                          exact hJ_509 _ _ _ _ hQ5 hN5.1 hS5 rfl rfl hsi
                        · skip
                          have hz := (hv4 _ (by omega)).mp c_382
                          refine z_aload 6 d_La_law_385 rfl ?_
                          refine z_iload 2 d_La_law_387 rfl ?_
                          refine z_iload 1 d_La_law_389 rfl ?_
                          refine z_iconst (v := 1) d_La_law_391 (by decide) ?_
                          refine z_iload 0 d_La_law_392 rfl ?_
                          refine z_ishl d_La_law_394 ?_
                          refine z_iconst (v := (-1)) d_La_law_395 (by decide) ?_
                          refine z_ixor d_La_law_396 ?_
                          refine z_iand d_La_law_397 ?_
                          refine z_topv (gmin _ (by omega) _ (by omega)) ?_
                          refine z_iconst (v := (nI 2)) d_La_law_398 (by decide) ?_
                          refine z_callV ((m_Tb_wouldE hs0 hst hQ6.t _ _ _)) ym_Tb_would qM_La_41 qI_Tb_would qV_Tb_Tb_would zc_Tb hQ6.t.tb d_La_law_399 rfl (Nat.le_of_ble_eq_true rfl) ⟨by show _ ≤ 600086; omega, by show _ ≤ 7301442; omega⟩ ⟨Nat.le_of_ble_eq_true rfl, Nat.le_of_ble_eq_true rfl⟩ ?_ ?_
                          · exact fun E G9 hx => (gX_would hnk hns rfl rfl (q := 2) rfl hsi (gmin_lt hgl) (by decide) hx).elim
                          intro r_399 G_399 hp_399
                          obtain ⟨hr_399, D7, V7, hT7, hF7, hS7⟩ := gW_2 hS6 hP (by omega) hnk hns rfl rfl rfl hsi (gmin_lt hgl) hp_399
                          rw [gmin_mgr (by omega) hz] at hr_399
                          obtain rfl : r_399 = _ := hr_399
                          have hQ7 := hQ6.ask hT7 hF7
                          refine z_iconst (v := 1) d_La_law_402 (by decide) ?_
                          refine z_icmp_ne 509 d_La_law_403 (by decide) (fun c_403 => ?_) (fun c_403 => ?_)
                          · skip
                            obtain ⟨y1, y2⟩ := gCx_2n hX9 e0 e1 e2 (fun q => c_403 (by rw [q.2]; rfl))
                            subst W1
                            subst ne1
                            have hQ5 := hQ7
                            have hS5 := hS7.up (N' := 10 * j + 1) (by omega)
                            have hN5 : A3 0 = A3 0 ∧ True := ⟨rfl, trivial⟩
                            refine z_sub (L' := [(11, _), (9, _), (8, _), (7, _), (6, _), (5, _), (4, _), (3, _), (2, _), (1, _), (0, _)]) [2, 4, 5, 6, 7, 8, 9, 10, 11, 12, 13] rfl ?_
                            refine z_widen (k := (100 + 3000 * j + 1000 * tw + 300)) (n := (2000 + 60000 * j + 20000 * tw + 8000)) (by omega) (by omega) ?_
                            exact hJ_509 _ _ _ _ hQ5 hN5.1 hS5 rfl rfl hsi
                          · skip
                            have hgd := gz1 (by first | exact c_403 | exact Decidable.not_not.mp c_403)
                            refine z_aload 6 d_La_law_406 rfl ?_
                            refine z_iload 2 d_La_law_408 rfl ?_
                            refine z_iload 0 d_La_law_410 rfl ?_
                            refine z_iload 1 d_La_law_412 rfl ?_
                            refine z_callV ((m_Tb_rebuildE hs0 hst hQ7.t _ _ _)) ym_Tb_rebuild qM_La_53 qI_Tb_rebuild qV_Tb_Tb_rebuild zc_Tb hQ7.t.tb d_La_law_414 rfl (Nat.le_of_ble_eq_true rfl) ⟨by show _ ≤ 600086; omega, by show _ ≤ 7301442; omega⟩ ⟨Nat.le_of_ble_eq_true rfl, Nat.le_of_ble_eq_true rfl⟩ ?_ ?_
                            · exact fun E G9 hx => (gX_rebuild hS7 hP (by omega) hnk hns rfl rfl rfl hsi hki hgl hz hgd hx).elim
                            intro r_414 G_414 hp_414
                            obtain ⟨v9, hv9⟩ := gV_rebuild hp_414
                            obtain rfl : r_414 = _ := hv9
                            obtain ⟨A5, D5, V5, hT5, hN5, hF5, hS5⟩ := gL_rebuild hS7 (by omega) hnk hns rfl rfl rfl hsi hki hgl (gCx_2 hX9 e0 e1 e2 hz hgd) hp_414
                            have hQ5 := hQ7.act hT5 hN5 hF5
                            refine z_pop d_La_law_417 rfl ?_
                            refine z_goto 509 d_La_law_418 (by decide) ?_
                            refine z_sub (L' := [(11, _), (9, _), (8, _), (7, _), (6, _), (5, _), (4, _), (3, _), (2, _), (1, _), (0, _)]) [2, 4, 5, 6, 7, 8, 9, 10, 11, 12, 13] rfl ?_
                            refine z_widen (k := (100 + 3000 * j + 1000 * tw + 300)) (n := (2000 + 60000 * j + 20000 * tw + 8000)) (by omega) (by omega) ?_
                            exact hJ_509 _ _ _ _ hQ5 hN5.1 hS5 rfl rfl hsi
                      by_cases e3 : zdw NN xs (12 * j + 9) 6 = 3
                      · rw [e3]
                        refine z_tableIn 421 d_La_law_289 (by decide) (by decide) rfl (by decide) ?_
                        refine z_aload 6 d_La_law_421 rfl ?_
                        refine z_iload 0 d_La_law_423 rfl ?_
                        refine z_aload_n 13 d_La_law_425 rfl rfl ?_
                        refine z_iload 8 d_La_law_426 rfl ?_
                        refine z_bipush (v := (nI 10)) d_La_law_428 (by decide) ?_
                        refine z_iadd d_La_law_430 ?_
                        refine z_topv (v := nI (12 * j + 10)) (nI_add _ _) ?_
                        refine z_iconst (v := (nI 3)) d_La_law_431 (by decide) ?_
                        refine z_callS0 ((m_La_drawn hs0 hst hX hbl hNN (k := 12 * j + 10) (n := 3) (by omega) (by decide) (by decide))) ym_La_drawn qM_La_29 qS_La_drawn d_La_law_432 rfl (Nat.le_of_ble_eq_true rfl) ⟨by show _ ≤ 600086; omega, by show _ ≤ 7301442; omega⟩ ⟨Nat.le_of_ble_eq_true rfl, Nat.le_of_ble_eq_true rfl⟩ ?_
                        refine z_if_ne 452 d_La_law_435 (by decide) (fun c_435 => ?_) (fun c_435 => ?_)
                        · skip
                          have hL3 := gCx_3b hX9 e0 e1 e2 e3 (fun q => c_435 ((congrArg nI q).trans nI_0))
                          refine z_iconst (v := (nI 0)) d_La_law_452 (by decide) ?_
                          refine z_callV ((m_Tb_lie hs0 hst hQb.t _ _)) ym_Tb_lie qM_La_56 qI_Tb_lie qV_Tb_Tb_lie zc_Tb hQb.t.tb d_La_law_453 rfl (Nat.le_of_ble_eq_true rfl) ⟨by show _ ≤ 600086; omega, by show _ ≤ 7301442; omega⟩ ⟨Nat.le_of_ble_eq_true rfl, Nat.le_of_ble_eq_true rfl⟩ ?_ ?_
                          · exact fun E G9 hx => (gX_lie hnk rfl rfl hki (by first | exact zdw_lt (by decide) | decide) hx).elim
                          intro r_453 G_453 hp_453
                          obtain ⟨v9, hv9⟩ := gV_lie hp_453
                          obtain rfl : r_453 = _ := hv9
                          obtain ⟨y1, y2⟩ := hL3
                          subst W1
                          subst ne1
                          obtain ⟨A5, D5, V5, hT5, hN5, hF5, hS5⟩ := gL_lie hSb4 hnk hns rfl hki hp_453
                          have hQ5 := hQb.act hT5 hN5 hF5
                          refine z_pop d_La_law_456 rfl ?_
                          refine z_goto 509 d_La_law_457 (by decide) ?_
                          refine z_sub (L' := [(11, _), (9, _), (8, _), (7, _), (6, _), (5, _), (4, _), (3, _), (2, _), (1, _), (0, _)]) [2, 4, 5, 6, 7, 8, 9, 10, 11, 12, 13] rfl ?_
                          refine z_widen (k := (100 + 3000 * j + 1000 * tw + 300)) (n := (2000 + 60000 * j + 20000 * tw + 8000)) (by omega) (by omega) ?_
                          exact hJ_509 _ _ _ _ hQ5 hN5.1 hS5 rfl rfl hsi
                        · skip
                          have hL3 := gCx_3a hX9 e0 e1 e2 e3 ((nI_z (by have := zdw_lt (NN := NN) (xs := xs) (k := 12 * j + 10) (m := 3) (by decide); omega)).mp c_435)
                          refine z_aload_n 13 d_La_law_438 rfl rfl ?_
                          refine z_iload 8 d_La_law_439 rfl ?_
                          refine z_bipush (v := (nI 11)) d_La_law_441 (by decide) ?_
                          refine z_iadd d_La_law_443 ?_
                          refine z_topv (v := nI (12 * j + 11)) (nI_add _ _) ?_
                          refine z_bipush (v := (nI 97)) d_La_law_444 (by decide) ?_
                          refine z_callS0 ((m_La_drawn hs0 hst hX hbl hNN (k := 12 * j + 11) (n := 97) (by omega) (by decide) (by decide))) ym_La_drawn qM_La_29 qS_La_drawn d_La_law_446 rfl (Nat.le_of_ble_eq_true rfl) ⟨by show _ ≤ 600086; omega, by show _ ≤ 7301442; omega⟩ ⟨Nat.le_of_ble_eq_true rfl, Nat.le_of_ble_eq_true rfl⟩ ?_
                          refine z_goto 453 d_La_law_449 (by decide) ?_
                          refine z_callV ((m_Tb_lie hs0 hst hQb.t _ _)) ym_Tb_lie qM_La_56 qI_Tb_lie qV_Tb_Tb_lie zc_Tb hQb.t.tb d_La_law_453 rfl (Nat.le_of_ble_eq_true rfl) ⟨by show _ ≤ 600086; omega, by show _ ≤ 7301442; omega⟩ ⟨Nat.le_of_ble_eq_true rfl, Nat.le_of_ble_eq_true rfl⟩ ?_ ?_
                          · exact fun E G9 hx => (gX_lie hnk rfl rfl hki (by first | exact zdw_lt (by decide) | decide) hx).elim
                          intro r_453 G_453 hp_453
                          obtain ⟨v9, hv9⟩ := gV_lie hp_453
                          obtain rfl : r_453 = _ := hv9
                          obtain ⟨y1, y2⟩ := hL3
                          subst W1
                          subst ne1
                          obtain ⟨A5, D5, V5, hT5, hN5, hF5, hS5⟩ := gL_lie hSb4 hnk hns rfl hki hp_453
                          have hQ5 := hQb.act hT5 hN5 hF5
                          refine z_pop d_La_law_456 rfl ?_
                          refine z_goto 509 d_La_law_457 (by decide) ?_
                          refine z_sub (L' := [(11, _), (9, _), (8, _), (7, _), (6, _), (5, _), (4, _), (3, _), (2, _), (1, _), (0, _)]) [2, 4, 5, 6, 7, 8, 9, 10, 11, 12, 13] rfl ?_
                          refine z_widen (k := (100 + 3000 * j + 1000 * tw + 300)) (n := (2000 + 60000 * j + 20000 * tw + 8000)) (by omega) (by omega) ?_
                          exact hJ_509 _ _ _ _ hQ5 hN5.1 hS5 rfl rfl hsi
                      by_cases e4 : zdw NN xs (12 * j + 9) 6 = 4
                      · rw [e4]
                        refine z_tableIn 460 d_La_law_289 (by decide) (by decide) rfl (by decide) ?_
                        refine z_aload 6 d_La_law_460 rfl ?_
                        refine z_aload_n 13 d_La_law_462 rfl rfl ?_
                        refine z_iload 8 d_La_law_463 rfl ?_
                        refine z_bipush (v := (nI 10)) d_La_law_465 (by decide) ?_
                        refine z_iadd d_La_law_467 ?_
                        refine z_topv (v := nI (12 * j + 10)) (nI_add _ _) ?_
                        refine z_iconst (v := (nI 2)) d_La_law_468 (by decide) ?_
                        refine z_callS0 ((m_La_drawn hs0 hst hX hbl hNN (k := 12 * j + 10) (n := 2) (by omega) (by decide) (by decide))) ym_La_drawn qM_La_29 qS_La_drawn d_La_law_469 rfl (Nat.le_of_ble_eq_true rfl) ⟨by show _ ≤ 600086; omega, by show _ ≤ 7301442; omega⟩ ⟨Nat.le_of_ble_eq_true rfl, Nat.le_of_ble_eq_true rfl⟩ ?_
                        refine z_iload 2 d_La_law_472 rfl ?_
                        refine z_aload_n 13 d_La_law_474 rfl rfl ?_
                        refine z_iload 8 d_La_law_475 rfl ?_
                        refine z_bipush (v := (nI 11)) d_La_law_477 (by decide) ?_
                        refine z_iadd d_La_law_479 ?_
                        refine z_topv (v := nI (12 * j + 11)) (nI_add _ _) ?_
                        refine z_iconst (v := (nI 2)) d_La_law_480 (by decide) ?_
                        refine z_callS0 ((m_La_drawn hs0 hst hX hbl hNN (k := 12 * j + 11) (n := 2) (by omega) (by decide) (by decide))) ym_La_drawn qM_La_29 qS_La_drawn d_La_law_481 rfl (Nat.le_of_ble_eq_true rfl) ⟨by show _ ≤ 600086; omega, by show _ ≤ 7301442; omega⟩ ⟨Nat.le_of_ble_eq_true rfl, Nat.le_of_ble_eq_true rfl⟩ ?_
                        refine z_if_ne 491 d_La_law_484 (by decide) (fun c_484 => ?_) (fun c_484 => ?_)
                        · skip
                          have hL4 := gCx_4b hX9 e0 e1 e2 e3 e4 (fun q => c_484 ((congrArg nI q).trans nI_0))
                          refine z_iconst (v := 0) d_La_law_491 (by decide) ?_
                          refine z_callV ((m_Tb_freeze hs0 hst hQb.t _ _ _)) ym_Tb_freeze qM_La_59 qI_Tb_freeze qV_Tb_Tb_freeze zc_Tb hQb.t.tb d_La_law_492 rfl (Nat.le_of_ble_eq_true rfl) ⟨by show _ ≤ 600086; omega, by show _ ≤ 7301442; omega⟩ ⟨Nat.le_of_ble_eq_true rfl, Nat.le_of_ble_eq_true rfl⟩ ?_ ?_
                          · exact fun E G9 hx => (gX_freeze (x3 := 0) hns rfl rfl (zdw_lt (by decide)) hsi hx).elim
                          intro r_492 G_492 hp_492
                          obtain ⟨v9, hv9⟩ := gV_freeze hp_492
                          obtain rfl : r_492 = _ := hv9
                          obtain ⟨y1, y2⟩ := hL4
                          subst W1
                          subst ne1
                          obtain ⟨A5, D5, V5, hT5, hN5, hF5, hS5⟩ := gL_freeze hSb4 hnk hns rfl hsi hp_492
                          have hQ5 := hQb.act hT5 hN5 hF5
                          refine z_pop d_La_law_495 rfl ?_
                          refine z_goto 509 d_La_law_496 (by decide) ?_
                          refine z_sub (L' := [(11, _), (9, _), (8, _), (7, _), (6, _), (5, _), (4, _), (3, _), (2, _), (1, _), (0, _)]) [2, 4, 5, 6, 7, 8, 9, 10, 11, 12, 13] rfl ?_
                          refine z_widen (k := (100 + 3000 * j + 1000 * tw + 300)) (n := (2000 + 60000 * j + 20000 * tw + 8000)) (by omega) (by omega) ?_
                          exact hJ_509 _ _ _ _ hQ5 hN5.1 hS5 rfl rfl hsi
                        · skip
                          have hL4 := gCx_4a hX9 e0 e1 e2 e3 e4 ((nI_z (by have := zdw_lt (NN := NN) (xs := xs) (k := 12 * j + 11) (m := 2) (by decide); omega)).mp c_484)
                          refine z_iconst (v := 1) d_La_law_487 (by decide) ?_
                          refine z_goto 492 d_La_law_488 (by decide) ?_
                          refine z_callV ((m_Tb_freeze hs0 hst hQb.t _ _ _)) ym_Tb_freeze qM_La_59 qI_Tb_freeze qV_Tb_Tb_freeze zc_Tb hQb.t.tb d_La_law_492 rfl (Nat.le_of_ble_eq_true rfl) ⟨by show _ ≤ 600086; omega, by show _ ≤ 7301442; omega⟩ ⟨Nat.le_of_ble_eq_true rfl, Nat.le_of_ble_eq_true rfl⟩ ?_ ?_
                          · exact fun E G9 hx => (gX_freeze (x3 := 0) hns rfl rfl (zdw_lt (by decide)) hsi hx).elim
                          intro r_492 G_492 hp_492
                          obtain ⟨v9, hv9⟩ := gV_freeze hp_492
                          obtain rfl : r_492 = _ := hv9
                          obtain ⟨y1, y2⟩ := hL4
                          subst W1
                          subst ne1
                          obtain ⟨A5, D5, V5, hT5, hN5, hF5, hS5⟩ := gL_freeze hSb4 hnk hns rfl hsi hp_492
                          have hQ5 := hQb.act hT5 hN5 hF5
                          refine z_pop d_La_law_495 rfl ?_
                          refine z_goto 509 d_La_law_496 (by decide) ?_
                          refine z_sub (L' := [(11, _), (9, _), (8, _), (7, _), (6, _), (5, _), (4, _), (3, _), (2, _), (1, _), (0, _)]) [2, 4, 5, 6, 7, 8, 9, 10, 11, 12, 13] rfl ?_
                          refine z_widen (k := (100 + 3000 * j + 1000 * tw + 300)) (n := (2000 + 60000 * j + 20000 * tw + 8000)) (by omega) (by omega) ?_
                          exact hJ_509 _ _ _ _ hQ5 hN5.1 hS5 rfl rfl hsi
                      have e5 : zdw NN xs (12 * j + 9) 6 = 5 := by
                        have := zdw_lt (NN := NN) (xs := xs) (k := 12 * j + 9) (m := 6) (by decide)
                        omega
                      rw [e5]
                      · skip
                        refine z_tableOut 499 d_La_law_289 (Or.inr (by decide)) (by decide) ?_
                        refine z_aload 6 d_La_law_499 rfl ?_
                        refine z_iload 2 d_La_law_501 rfl ?_
                        refine z_iload 1 d_La_law_503 rfl ?_
                        refine z_callV ((m_Tb_openE hs0 hst hQb.t _ _)) ym_Tb_open qM_La_63 qI_Tb_open qV_Tb_Tb_open zc_Tb hQb.t.tb d_La_law_505 rfl (Nat.le_of_ble_eq_true rfl) ⟨by show _ ≤ 600086; omega, by show _ ≤ 7301442; omega⟩ ⟨Nat.le_of_ble_eq_true rfl, Nat.le_of_ble_eq_true rfl⟩ ?_ ?_
                        · exact fun E G9 hx => (gX_open hnk hns rfl rfl hsi hgl hx).elim
                        intro r_505 G_505 hp_505
                        obtain ⟨v9, hv9⟩ := gV_open hp_505
                        obtain rfl : r_505 = _ := hv9
                        obtain ⟨A5, D5, V5, hT5, hN5, hF5, hS5⟩ := gL_open hSb4 hP (by omega) hnk hns rfl rfl hsi hgl (gCx_5 hX9 e0 e1 e2 e3 e4) hp_505
                        have hQ5 := hQb.act hT5 hN5 hF5
                        refine z_pop d_La_law_508 rfl ?_
                        refine z_sub (L' := [(11, _), (9, _), (8, _), (7, _), (6, _), (5, _), (4, _), (3, _), (2, _), (1, _), (0, _)]) [2, 4, 5, 6, 7, 8, 9, 10, 11, 12, 13] rfl ?_
                        refine z_widen (k := (100 + 3000 * j + 1000 * tw + 300)) (n := (2000 + 60000 * j + 20000 * tw + 8000)) (by omega) (by omega) ?_
                        exact hJ_509 _ _ _ _ hQ5 hN5.1 hS5 rfl rfl hsi
                    · skip
                      have hc2 : ((ns < 6 ∧ zdw NN xs (12 * j + 4) 3 = 0) ∨ ns = 0) := Or.inr ((nI_z (by omega)).mp c_163)
                      have hg8 : zdw NN xs (12 * j + 8) (2 ^ nk) < 2 ^ nk := zdw_lt (Nat.two_pow_pos nk)
                      have hglt : zdw NN xs (12 * j + 8) (2 ^ nk) ||| 1 < 2 ^ nk := Nat.or_lt_two_pow hg8 (Nat.one_lt_two_pow hn0)
                      have hz2 : zdw NN xs (12 * j + 6) 2 < 2 := zdw_lt (by decide)
                      have hz50 : zdw NN xs (12 * j + 7) 50 < 50 := zdw_lt (by decide)
                      have hp2 := zpw hnk
                      refine z_aload 3 d_La_law_166 rfl ?_
                      refine z_aload_n 10 d_La_law_168 rfl rfl ?_
                      refine z_iload 5 d_La_law_169 rfl ?_
                      refine z_iconst (v := (nI 5)) d_La_law_171 (by decide) ?_
                      refine z_iadd d_La_law_172 ?_
                      refine z_topv (v := nI (12 * j + 5)) (nI_add _ _) ?_
                      refine z_bipush (v := (nI 97)) d_La_law_173 (by decide) ?_
                      refine z_callS0 ((m_La_drawn hs0 hst hX hbl hNN (k := 12 * j + 5) (n := 97) (by omega) (by decide) (by decide))) ym_La_drawn qM_La_29 qS_La_drawn d_La_law_175 rfl (Nat.le_of_ble_eq_true rfl) ⟨by show _ ≤ 600086; omega, by show _ ≤ 7301442; omega⟩ ⟨Nat.le_of_ble_eq_true rfl, Nat.le_of_ble_eq_true rfl⟩ ?_
                      refine z_iconst (v := (nI 1)) d_La_law_178 (by decide) ?_
                      refine z_iconst (v := (nI 1)) d_La_law_179 (by decide) ?_
                      refine z_aload_n 10 d_La_law_180 rfl rfl ?_
                      refine z_iload 5 d_La_law_181 rfl ?_
                      refine z_bipush (v := (nI 6)) d_La_law_183 (by decide) ?_
                      refine z_iadd d_La_law_185 ?_
                      refine z_topv (v := nI (12 * j + 6)) (nI_add _ _) ?_
                      refine z_iconst (v := (nI 2)) d_La_law_186 (by decide) ?_
                      refine z_callS0 ((m_La_drawn hs0 hst hX hbl hNN (k := 12 * j + 6) (n := 2) (by omega) (by decide) (by decide))) ym_La_drawn qM_La_29 qS_La_drawn d_La_law_187 rfl (Nat.le_of_ble_eq_true rfl) ⟨by show _ ≤ 600086; omega, by show _ ≤ 7301442; omega⟩ ⟨Nat.le_of_ble_eq_true rfl, Nat.le_of_ble_eq_true rfl⟩ ?_
                      refine z_iadd d_La_law_190 ?_
                      refine z_topv (v := nI (1 + (zdw NN xs (12 * j + 6) 2))) (nI_add _ _) ?_
                      refine z_aload_n 10 d_La_law_191 rfl rfl ?_
                      refine z_iload 5 d_La_law_192 rfl ?_
                      refine z_bipush (v := (nI 7)) d_La_law_194 (by decide) ?_
                      refine z_iadd d_La_law_196 ?_
                      refine z_topv (v := nI (12 * j + 7)) (nI_add _ _) ?_
                      refine z_bipush (v := (nI 50)) d_La_law_197 (by decide) ?_
                      refine z_callS0 ((m_La_drawn hs0 hst hX hbl hNN (k := 12 * j + 7) (n := 50) (by omega) (by decide) (by decide))) ym_La_drawn qM_La_29 qS_La_drawn d_La_law_199 rfl (Nat.le_of_ble_eq_true rfl) ⟨by show _ ≤ 600086; omega, by show _ ≤ 7301442; omega⟩ ⟨Nat.le_of_ble_eq_true rfl, Nat.le_of_ble_eq_true rfl⟩ ?_
                      refine z_aload_n 10 d_La_law_202 rfl rfl ?_
                      refine z_iload 5 d_La_law_203 rfl ?_
                      refine z_bipush (v := (nI 8)) d_La_law_205 (by decide) ?_
                      refine z_iadd d_La_law_207 ?_
                      refine z_topv (v := nI (12 * j + 8)) (nI_add _ _) ?_
                      refine z_iload 1 d_La_law_208 rfl ?_
                      refine z_iconst (v := (nI 1)) d_La_law_210 (by decide) ?_
                      refine z_iadd d_La_law_211 ?_
                      refine z_topv (v := nI (2 ^ nk)) (g2p nk) ?_
                      refine z_callS0 ((m_La_drawn hs0 hst hX hbl hNN (k := 12 * j + 8) (n := (2 ^ nk)) (by omega) (Nat.two_pow_pos nk) (by have := zpw hnk; omega))) ym_La_drawn qM_La_29 qS_La_drawn d_La_law_212 rfl (Nat.le_of_ble_eq_true rfl) ⟨by show _ ≤ 600086; omega, by show _ ≤ 7301442; omega⟩ ⟨Nat.le_of_ble_eq_true rfl, Nat.le_of_ble_eq_true rfl⟩ ?_
                      refine z_iconst (v := (nI 1)) d_La_law_215 (by decide) ?_
                      refine z_ior d_La_law_216 ?_
                      refine z_topv (v := nI ((zdw NN xs (12 * j + 8) (2 ^ nk)) ||| 1)) (gor _ (by have := zpw hnk; have := zdw_lt (NN := NN) (xs := xs) (k := 12 * j + 8) (Nat.two_pow_pos nk); omega) 1 (by decide)) ?_
                      refine z_callV ((m_Tb_dealME hs0 hst hQb.t _ _ _ _ _)) ym_Tb_deal qM_La_37 qI_Tb_deal qV_Tb_Tb_deal zc_Tb hQb.t.tb d_La_law_217 rfl (Nat.le_of_ble_eq_true rfl) ⟨by show _ ≤ 600086; omega, by show _ ≤ 7301442; omega⟩ ⟨Nat.le_of_ble_eq_true rfl, Nat.le_of_ble_eq_true rfl⟩ ?_ ?_
                      · exact fun E G9 hx => (gX_deal hnk (hc2.elim (fun q => q.1) (fun q => by omega)) rfl rfl rfl rfl rfl (zdw_lt (by decide)) (by omega) (by omega) (by omega) hglt (by omega) hx).elim
                      intro r_217 G_217 hp_217
                      obtain ⟨v9, hv9⟩ := gV_deal hp_217
                      obtain rfl : r_217 = _ := hv9
                      obtain ⟨hmd, y1, y2⟩ := gCs_D hR hc1 hc2
                      subst nk1
                      subst ns1
                      obtain ⟨A5, D5, V5, hT5, hN5, hF5, hS5⟩ := gL_deal hSb4 hnk rfl rfl rfl (zdw_lt (by decide)) hglt hmd hp_217
                      have hQ5 := hQb.act hT5 hN5 hF5
                      refine z_pop d_La_law_220 rfl ?_
                      refine z_goto 573 d_La_law_221 (by decide) ?_
                      refine z_sub (L' := [(7, _), (6, _), (5, _), (4, _), (3, _), (2, _), (1, _), (0, _)]) [3, 4, 5, 6, 7, 8, 9, 10] rfl ?_
                      refine z_widen (k := (100 + 3000 * j + 1000 * tw + 600)) (n := (2000 + 60000 * j + 20000 * tw + 16000)) (by omega) (by omega) ?_
                      first
                        | exact hJ_573 _ _ _ _ hQ5 hN5.1 hS5
                        | (rw [eA4]; exact hJ_573 _ _ _ _ hQ9 eA4 hS9)
                  · skip
                    have h146 : ns < 6 := by
                      by_cases q : ns < 6
                      · exact q
                      · exact absurd ((nI_leI (by first | decide | omega) (by first | decide | omega)).mpr (show 6 ≤ ns by omega)) c_146
                    refine z_aload_n 10 d_La_law_149 rfl rfl ?_
                    refine z_iload 5 d_La_law_150 rfl ?_
                    refine z_iconst (v := (nI 4)) d_La_law_152 (by decide) ?_
                    refine z_iadd d_La_law_153 ?_
                    refine z_topv (v := nI (12 * j + 4)) (nI_add _ _) ?_
                    refine z_iconst (v := (nI 3)) d_La_law_154 (by decide) ?_
                    refine z_callS0 ((m_La_drawn hs0 hst hX hbl hNN (k := 12 * j + 4) (n := 3) (by omega) (by decide) (by decide))) ym_La_drawn qM_La_29 qS_La_drawn d_La_law_155 rfl (Nat.le_of_ble_eq_true rfl) ⟨by show _ ≤ 600086; omega, by show _ ≤ 7301442; omega⟩ ⟨Nat.le_of_ble_eq_true rfl, Nat.le_of_ble_eq_true rfl⟩ ?_
                    refine z_if_eq 166 d_La_law_158 (by decide) (fun c_158 => ?_) (fun c_158 => ?_)
                    · skip
                      have hc2 : ((ns < 6 ∧ zdw NN xs (12 * j + 4) 3 = 0) ∨ ns = 0) := Or.inl ⟨h146, (nI_z (by have := zdw_lt (NN := NN) (xs := xs) (k := 12 * j + 4) (m := 3) (by decide); omega)).mp c_158⟩
                      have hg8 : zdw NN xs (12 * j + 8) (2 ^ nk) < 2 ^ nk := zdw_lt (Nat.two_pow_pos nk)
                      have hglt : zdw NN xs (12 * j + 8) (2 ^ nk) ||| 1 < 2 ^ nk := Nat.or_lt_two_pow hg8 (Nat.one_lt_two_pow hn0)
                      have hz2 : zdw NN xs (12 * j + 6) 2 < 2 := zdw_lt (by decide)
                      have hz50 : zdw NN xs (12 * j + 7) 50 < 50 := zdw_lt (by decide)
                      have hp2 := zpw hnk
                      refine z_aload 3 d_La_law_166 rfl ?_
                      refine z_aload_n 10 d_La_law_168 rfl rfl ?_
                      refine z_iload 5 d_La_law_169 rfl ?_
                      refine z_iconst (v := (nI 5)) d_La_law_171 (by decide) ?_
                      refine z_iadd d_La_law_172 ?_
                      refine z_topv (v := nI (12 * j + 5)) (nI_add _ _) ?_
                      refine z_bipush (v := (nI 97)) d_La_law_173 (by decide) ?_
                      refine z_callS0 ((m_La_drawn hs0 hst hX hbl hNN (k := 12 * j + 5) (n := 97) (by omega) (by decide) (by decide))) ym_La_drawn qM_La_29 qS_La_drawn d_La_law_175 rfl (Nat.le_of_ble_eq_true rfl) ⟨by show _ ≤ 600086; omega, by show _ ≤ 7301442; omega⟩ ⟨Nat.le_of_ble_eq_true rfl, Nat.le_of_ble_eq_true rfl⟩ ?_
                      refine z_iconst (v := (nI 1)) d_La_law_178 (by decide) ?_
                      refine z_iconst (v := (nI 1)) d_La_law_179 (by decide) ?_
                      refine z_aload_n 10 d_La_law_180 rfl rfl ?_
                      refine z_iload 5 d_La_law_181 rfl ?_
                      refine z_bipush (v := (nI 6)) d_La_law_183 (by decide) ?_
                      refine z_iadd d_La_law_185 ?_
                      refine z_topv (v := nI (12 * j + 6)) (nI_add _ _) ?_
                      refine z_iconst (v := (nI 2)) d_La_law_186 (by decide) ?_
                      refine z_callS0 ((m_La_drawn hs0 hst hX hbl hNN (k := 12 * j + 6) (n := 2) (by omega) (by decide) (by decide))) ym_La_drawn qM_La_29 qS_La_drawn d_La_law_187 rfl (Nat.le_of_ble_eq_true rfl) ⟨by show _ ≤ 600086; omega, by show _ ≤ 7301442; omega⟩ ⟨Nat.le_of_ble_eq_true rfl, Nat.le_of_ble_eq_true rfl⟩ ?_
                      refine z_iadd d_La_law_190 ?_
                      refine z_topv (v := nI (1 + (zdw NN xs (12 * j + 6) 2))) (nI_add _ _) ?_
                      refine z_aload_n 10 d_La_law_191 rfl rfl ?_
                      refine z_iload 5 d_La_law_192 rfl ?_
                      refine z_bipush (v := (nI 7)) d_La_law_194 (by decide) ?_
                      refine z_iadd d_La_law_196 ?_
                      refine z_topv (v := nI (12 * j + 7)) (nI_add _ _) ?_
                      refine z_bipush (v := (nI 50)) d_La_law_197 (by decide) ?_
                      refine z_callS0 ((m_La_drawn hs0 hst hX hbl hNN (k := 12 * j + 7) (n := 50) (by omega) (by decide) (by decide))) ym_La_drawn qM_La_29 qS_La_drawn d_La_law_199 rfl (Nat.le_of_ble_eq_true rfl) ⟨by show _ ≤ 600086; omega, by show _ ≤ 7301442; omega⟩ ⟨Nat.le_of_ble_eq_true rfl, Nat.le_of_ble_eq_true rfl⟩ ?_
                      refine z_aload_n 10 d_La_law_202 rfl rfl ?_
                      refine z_iload 5 d_La_law_203 rfl ?_
                      refine z_bipush (v := (nI 8)) d_La_law_205 (by decide) ?_
                      refine z_iadd d_La_law_207 ?_
                      refine z_topv (v := nI (12 * j + 8)) (nI_add _ _) ?_
                      refine z_iload 1 d_La_law_208 rfl ?_
                      refine z_iconst (v := (nI 1)) d_La_law_210 (by decide) ?_
                      refine z_iadd d_La_law_211 ?_
                      refine z_topv (v := nI (2 ^ nk)) (g2p nk) ?_
                      refine z_callS0 ((m_La_drawn hs0 hst hX hbl hNN (k := 12 * j + 8) (n := (2 ^ nk)) (by omega) (Nat.two_pow_pos nk) (by have := zpw hnk; omega))) ym_La_drawn qM_La_29 qS_La_drawn d_La_law_212 rfl (Nat.le_of_ble_eq_true rfl) ⟨by show _ ≤ 600086; omega, by show _ ≤ 7301442; omega⟩ ⟨Nat.le_of_ble_eq_true rfl, Nat.le_of_ble_eq_true rfl⟩ ?_
                      refine z_iconst (v := (nI 1)) d_La_law_215 (by decide) ?_
                      refine z_ior d_La_law_216 ?_
                      refine z_topv (v := nI ((zdw NN xs (12 * j + 8) (2 ^ nk)) ||| 1)) (gor _ (by have := zpw hnk; have := zdw_lt (NN := NN) (xs := xs) (k := 12 * j + 8) (Nat.two_pow_pos nk); omega) 1 (by decide)) ?_
                      refine z_callV ((m_Tb_dealME hs0 hst hQb.t _ _ _ _ _)) ym_Tb_deal qM_La_37 qI_Tb_deal qV_Tb_Tb_deal zc_Tb hQb.t.tb d_La_law_217 rfl (Nat.le_of_ble_eq_true rfl) ⟨by show _ ≤ 600086; omega, by show _ ≤ 7301442; omega⟩ ⟨Nat.le_of_ble_eq_true rfl, Nat.le_of_ble_eq_true rfl⟩ ?_ ?_
                      · exact fun E G9 hx => (gX_deal hnk (hc2.elim (fun q => q.1) (fun q => by omega)) rfl rfl rfl rfl rfl (zdw_lt (by decide)) (by omega) (by omega) (by omega) hglt (by omega) hx).elim
                      intro r_217 G_217 hp_217
                      obtain ⟨v9, hv9⟩ := gV_deal hp_217
                      obtain rfl : r_217 = _ := hv9
                      obtain ⟨hmd, y1, y2⟩ := gCs_D hR hc1 hc2
                      subst nk1
                      subst ns1
                      obtain ⟨A5, D5, V5, hT5, hN5, hF5, hS5⟩ := gL_deal hSb4 hnk rfl rfl rfl (zdw_lt (by decide)) hglt hmd hp_217
                      have hQ5 := hQb.act hT5 hN5 hF5
                      refine z_pop d_La_law_220 rfl ?_
                      refine z_goto 573 d_La_law_221 (by decide) ?_
                      refine z_sub (L' := [(7, _), (6, _), (5, _), (4, _), (3, _), (2, _), (1, _), (0, _)]) [3, 4, 5, 6, 7, 8, 9, 10] rfl ?_
                      refine z_widen (k := (100 + 3000 * j + 1000 * tw + 600)) (n := (2000 + 60000 * j + 20000 * tw + 16000)) (by omega) (by omega) ?_
                      first
                        | exact hJ_573 _ _ _ _ hQ5 hN5.1 hS5
                        | (rw [eA4]; exact hJ_573 _ _ _ _ hQ9 eA4 hS9)
                    · skip
                      have h158 : ¬ zdw NN xs (12 * j + 4) 3 = 0 := fun q => c_158 ((congrArg nI q).trans nI_0)
                      refine z_iload 0 d_La_law_161 rfl ?_
                      refine z_if_ne 224 d_La_law_163 (by decide) (fun c_163 => ?_) (fun c_163 => ?_)
                      · skip
                        have hs9 : ns ≠ 0 := fun q => c_163 ((congrArg nI q).trans nI_0)
                        have hc2 : ¬ ((ns < 6 ∧ zdw NN xs (12 * j + 4) 3 = 0) ∨ ns = 0) := by
                          rintro (q | q)
                          · first | exact absurd q.1 (by omega) | exact h158 q.2
                          · exact hs9 q
                        obtain ⟨hX9, y1, y2⟩ := gCs_X hR hc1 hc2
                        subst nk1
                        subst ns1
                        have hns0 : 0 < ns := by omega
                        have hnk0 : 0 < nk := by omega
                        have hsi : (zdw NN xs (12 * j + 5) ns) < ns := zdw_lt hns0
                        have hgl : (zdw NN xs (12 * j + 6) (2 ^ nk) ||| zdw NN xs (12 * j + 7) (2 ^ nk)) < 2 ^ nk := Nat.or_lt_two_pow (zdw_lt (Nat.two_pow_pos nk)) (zdw_lt (Nat.two_pow_pos nk))
                        have hki : (zdw NN xs (12 * j + 8) nk) < nk := zdw_lt hnk0
                        have hp2 := zpw hnk
                        refine z_aload_n 10 d_La_law_224 rfl rfl ?_
                        refine z_iload 5 d_La_law_225 rfl ?_
                        refine z_iconst (v := (nI 5)) d_La_law_227 (by decide) ?_
                        refine z_iadd d_La_law_228 ?_
                        refine z_topv (v := nI (12 * j + 5)) (nI_add _ _) ?_
                        refine z_iload 0 d_La_law_229 rfl ?_
                        refine z_callS0 ((m_La_drawn hs0 hst hX hbl hNN (k := 12 * j + 5) (n := ns) (by omega) (by omega) (by omega))) ym_La_drawn qM_La_29 qS_La_drawn d_La_law_231 rfl (Nat.le_of_ble_eq_true rfl) ⟨by show _ ≤ 600086; omega, by show _ ≤ 7301442; omega⟩ ⟨Nat.le_of_ble_eq_true rfl, Nat.le_of_ble_eq_true rfl⟩ ?_
                        refine z_istore (L' := [(11, _), (10, _), (9, _), (8, _), (7, _), (6, _), (5, _), (4, _), (3, _), (2, _), (1, _), (0, _)]) d_La_law_234 (by decide) rfl ?_
                        refine z_aload_n 11 d_La_law_236 rfl rfl ?_
                        refine z_iload 6 d_La_law_237 rfl ?_
                        refine z_bipush (v := (nI 6)) d_La_law_239 (by decide) ?_
                        refine z_iadd d_La_law_241 ?_
                        refine z_topv (v := nI (12 * j + 6)) (nI_add _ _) ?_
                        refine z_iload 2 d_La_law_242 rfl ?_
                        refine z_iconst (v := (nI 1)) d_La_law_244 (by decide) ?_
                        refine z_iadd d_La_law_245 ?_
                        refine z_topv (v := nI (2 ^ nk)) (g2p nk) ?_
                        refine z_callS0 ((m_La_drawn hs0 hst hX hbl hNN (k := 12 * j + 6) (n := (2 ^ nk)) (by omega) (Nat.two_pow_pos nk) (by have := zpw hnk; omega))) ym_La_drawn qM_La_29 qS_La_drawn d_La_law_246 rfl (Nat.le_of_ble_eq_true rfl) ⟨by show _ ≤ 600086; omega, by show _ ≤ 7301442; omega⟩ ⟨Nat.le_of_ble_eq_true rfl, Nat.le_of_ble_eq_true rfl⟩ ?_
                        refine z_aload_n 11 d_La_law_249 rfl rfl ?_
                        refine z_iload 6 d_La_law_250 rfl ?_
                        refine z_bipush (v := (nI 7)) d_La_law_252 (by decide) ?_
                        refine z_iadd d_La_law_254 ?_
                        refine z_topv (v := nI (12 * j + 7)) (nI_add _ _) ?_
                        refine z_iload 2 d_La_law_255 rfl ?_
                        refine z_iconst (v := (nI 1)) d_La_law_257 (by decide) ?_
                        refine z_iadd d_La_law_258 ?_
                        refine z_topv (v := nI (2 ^ nk)) (g2p nk) ?_
                        refine z_callS0 ((m_La_drawn hs0 hst hX hbl hNN (k := 12 * j + 7) (n := (2 ^ nk)) (by omega) (Nat.two_pow_pos nk) (by have := zpw hnk; omega))) ym_La_drawn qM_La_29 qS_La_drawn d_La_law_259 rfl (Nat.le_of_ble_eq_true rfl) ⟨by show _ ≤ 600086; omega, by show _ ≤ 7301442; omega⟩ ⟨Nat.le_of_ble_eq_true rfl, Nat.le_of_ble_eq_true rfl⟩ ?_
                        refine z_ior d_La_law_262 ?_
                        refine z_topv (v := nI ((zdw NN xs (12 * j + 6) (2 ^ nk)) ||| (zdw NN xs (12 * j + 7) (2 ^ nk)))) (gor _ (by have := zpw hnk; have := zdw_lt (NN := NN) (xs := xs) (k := 12 * j + 6) (Nat.two_pow_pos nk); omega) _ (by have := zpw hnk; have := zdw_lt (NN := NN) (xs := xs) (k := 12 * j + 7) (Nat.two_pow_pos nk); omega)) ?_
                        refine z_istore (L' := [(12, _), (11, _), (10, _), (9, _), (8, _), (7, _), (6, _), (5, _), (4, _), (3, _), (2, _), (1, _), (0, _)]) d_La_law_263 (by decide) rfl ?_
                        refine z_aload_n 12 d_La_law_265 rfl rfl ?_
                        refine z_iload 7 d_La_law_266 rfl ?_
                        refine z_bipush (v := (nI 8)) d_La_law_268 (by decide) ?_
                        refine z_iadd d_La_law_270 ?_
                        refine z_topv (v := nI (12 * j + 8)) (nI_add _ _) ?_
                        refine z_iload 4 d_La_law_271 rfl ?_
                        refine z_callS0 ((m_La_drawn hs0 hst hX hbl hNN (k := 12 * j + 8) (n := nk) (by omega) (by omega) (by omega))) ym_La_drawn qM_La_29 qS_La_drawn d_La_law_273 rfl (Nat.le_of_ble_eq_true rfl) ⟨by show _ ≤ 600086; omega, by show _ ≤ 7301442; omega⟩ ⟨Nat.le_of_ble_eq_true rfl, Nat.le_of_ble_eq_true rfl⟩ ?_
                        refine z_istore (L' := [(13, _), (12, _), (11, _), (10, _), (9, _), (8, _), (7, _), (6, _), (5, _), (4, _), (3, _), (2, _), (1, _), (0, _)]) d_La_law_276 (by decide) rfl ?_
                        refine z_aload_n 13 d_La_law_278 rfl rfl ?_
                        refine z_iload 8 d_La_law_279 rfl ?_
                        refine z_bipush (v := (nI 9)) d_La_law_281 (by decide) ?_
                        refine z_iadd d_La_law_283 ?_
                        refine z_topv (v := nI (12 * j + 9)) (nI_add _ _) ?_
                        refine z_bipush (v := (nI 6)) d_La_law_284 (by decide) ?_
                        refine z_callS0 ((m_La_drawn hs0 hst hX hbl hNN (k := 12 * j + 9) (n := 6) (by omega) (by decide) (by decide))) ym_La_drawn qM_La_29 qS_La_drawn d_La_law_286 rfl (Nat.le_of_ble_eq_true rfl) ⟨by show _ ≤ 600086; omega, by show _ ≤ 7301442; omega⟩ ⟨Nat.le_of_ble_eq_true rfl, Nat.le_of_ble_eq_true rfl⟩ ?_
                        skip
                        by_cases e0 : zdw NN xs (12 * j + 9) 6 = 0
                        · rw [e0]
                          refine z_tableIn 324 d_La_law_289 (by decide) (by decide) rfl (by decide) ?_
                          refine z_aload 6 d_La_law_324 rfl ?_
                          refine z_iload 2 d_La_law_326 rfl ?_
                          refine z_iload 1 d_La_law_328 rfl ?_
                          refine z_iconst (v := (nI 0)) d_La_law_330 (by decide) ?_
                          refine z_callV ((m_Tb_wouldE hs0 hst hQb.t _ _ _)) ym_Tb_would qM_La_41 qI_Tb_would qV_Tb_Tb_would zc_Tb hQb.t.tb d_La_law_331 rfl (Nat.le_of_ble_eq_true rfl) ⟨by show _ ≤ 600086; omega, by show _ ≤ 7301442; omega⟩ ⟨Nat.le_of_ble_eq_true rfl, Nat.le_of_ble_eq_true rfl⟩ ?_ ?_
                          · exact fun E G9 hx => (gX_would hnk hns rfl rfl (q := 0) rfl hsi hgl (by decide) hx).elim
                          intro r_331 G_331 hp_331
                          obtain ⟨hr_331, D6, V6, hT6, hF6, hS6⟩ := gW_v hSb4 hP (by omega) hnk hns rfl rfl (q := 0) rfl hsi hgl (by decide) hp_331
                          obtain rfl : r_331 = _ := hr_331
                          have hQ6 := hQb.ask hT6 hF6
                          refine z_topv qWd_0 ?_
                          refine z_if_le 509 d_La_law_334 (by decide) (fun c_334 => ?_) (fun c_334 => ?_)
                          · skip
                            have hz := (gle0 gzp).mp c_334
                            obtain ⟨y1, y2⟩ := gCx_0n hX9 e0 hz
                            subst W1
                            subst ne1
                            have hQ5 := hQ6
                            have hS5 := hS6.up (N' := 10 * j + 1) (by omega)
                            have hN5 : A3 0 = A3 0 ∧ True := ⟨rfl, trivial⟩
                            refine z_sub (L' := [(11, _), (9, _), (8, _), (7, _), (6, _), (5, _), (4, _), (3, _), (2, _), (1, _), (0, _)]) [2, 4, 5, 6, 7, 8, 9, 10, 11, 12, 13] rfl ?_
                            refine z_widen (k := (100 + 3000 * j + 1000 * tw + 300)) (n := (2000 + 60000 * j + 20000 * tw + 8000)) (by omega) (by omega) ?_
                            exact hJ_509 _ _ _ _ hQ5 hN5.1 hS5 rfl rfl hsi
                          · skip
                            have hz : 0 < zpop 9 (mgr W (zdw NN xs (12 * j + 5) ns) (zdw NN xs (12 * j + 6) (2 ^ nk) ||| zdw NN xs (12 * j + 7) (2 ^ nk))) := by
                              by_cases q : 0 < zpop 9 (mgr W (zdw NN xs (12 * j + 5) ns) (zdw NN xs (12 * j + 6) (2 ^ nk) ||| zdw NN xs (12 * j + 7) (2 ^ nk)))
                              · exact q
                              · exact absurd ((gle0 gzp).mpr q) c_334
                            refine z_aload 6 d_La_law_337 rfl ?_
                            refine z_iload 2 d_La_law_339 rfl ?_
                            refine z_iload 1 d_La_law_341 rfl ?_
                            refine z_callV ((m_Tb_freshE hs0 hst hQ6.t _ _)) ym_Tb_fresh qM_La_44 qI_Tb_fresh qV_Tb_Tb_fresh zc_Tb hQ6.t.tb d_La_law_343 rfl (Nat.le_of_ble_eq_true rfl) ⟨by show _ ≤ 600086; omega, by show _ ≤ 7301442; omega⟩ ⟨Nat.le_of_ble_eq_true rfl, Nat.le_of_ble_eq_true rfl⟩ ?_ ?_
                            · exact fun E G9 hx => (gX_fresh hS6 hP (by omega) hnk hns rfl rfl hsi hgl hz hx).elim
                            intro r_343 G_343 hp_343
                            obtain ⟨v9, hv9⟩ := gV_fresh hp_343
                            obtain rfl : r_343 = _ := hv9
                            obtain ⟨A5, D5, V5, hT5, hN5, hF5, hS5⟩ := gL_fresh hS6 hP (by omega) hnk hns rfl rfl hsi hgl (gCx_0 hX9 e0 hz) hp_343
                            have hQ5 := hQ6.act hT5 hN5 hF5
                            refine z_pop d_La_law_346 rfl ?_
                            refine z_goto 509 d_La_law_347 (by decide) ?_
                            refine z_sub (L' := [(11, _), (9, _), (8, _), (7, _), (6, _), (5, _), (4, _), (3, _), (2, _), (1, _), (0, _)]) [2, 4, 5, 6, 7, 8, 9, 10, 11, 12, 13] rfl ?_
                            refine z_widen (k := (100 + 3000 * j + 1000 * tw + 300)) (n := (2000 + 60000 * j + 20000 * tw + 8000)) (by omega) (by omega) ?_
                            exact hJ_509 _ _ _ _ hQ5 hN5.1 hS5 rfl rfl hsi
                        by_cases e1 : zdw NN xs (12 * j + 9) 6 = 1
                        · rw [e1]
                          refine z_tableIn 350 d_La_law_289 (by decide) (by decide) rfl (by decide) ?_
                          refine z_aload 6 d_La_law_350 rfl ?_
                          refine z_aload_n 13 d_La_law_352 rfl rfl ?_
                          refine z_iload 8 d_La_law_353 rfl ?_
                          refine z_bipush (v := (nI 10)) d_La_law_355 (by decide) ?_
                          refine z_iadd d_La_law_357 ?_
                          refine z_topv (v := nI (12 * j + 10)) (nI_add _ _) ?_
                          refine z_iconst (v := (nI 4)) d_La_law_358 (by decide) ?_
                          refine z_callS0 ((m_La_drawn hs0 hst hX hbl hNN (k := 12 * j + 10) (n := 4) (by omega) (by decide) (by decide))) ym_La_drawn qM_La_29 qS_La_drawn d_La_law_359 rfl (Nat.le_of_ble_eq_true rfl) ⟨by show _ ≤ 600086; omega, by show _ ≤ 7301442; omega⟩ ⟨Nat.le_of_ble_eq_true rfl, Nat.le_of_ble_eq_true rfl⟩ ?_
                          refine z_callV ((m_Tb_floodE hs0 hst hQb.t _)) ym_Tb_flood qM_La_47 qI_Tb_flood qV_Tb_Tb_flood zc_Tb hQb.t.tb d_La_law_362 rfl (Nat.le_of_ble_eq_true rfl) ⟨by show _ ≤ 600086; omega, by show _ ≤ 7301442; omega⟩ ⟨Nat.le_of_ble_eq_true rfl, Nat.le_of_ble_eq_true rfl⟩ ?_ ?_
                          · exact fun E G9 hx => (gX_flood rfl (zdw_lt (by decide)) hx).elim
                          intro r_362 G_362 hp_362
                          obtain ⟨v9, hv9⟩ := gV_flood hp_362
                          obtain rfl : r_362 = _ := hv9
                          obtain ⟨A5, D5, V5, hT5, hN5, hF5, hS5⟩ := gL_flood hSb4 hnk hns (gCx_1 hX9 e0 e1) hp_362
                          have hQ5 := hQb.act hT5 hN5 hF5
                          refine z_pop d_La_law_365 rfl ?_
                          refine z_goto 509 d_La_law_366 (by decide) ?_
                          refine z_sub (L' := [(11, _), (9, _), (8, _), (7, _), (6, _), (5, _), (4, _), (3, _), (2, _), (1, _), (0, _)]) [2, 4, 5, 6, 7, 8, 9, 10, 11, 12, 13] rfl ?_
                          refine z_widen (k := (100 + 3000 * j + 1000 * tw + 300)) (n := (2000 + 60000 * j + 20000 * tw + 8000)) (by omega) (by omega) ?_
                          exact hJ_509 _ _ _ _ hQ5 hN5.1 hS5 rfl rfl hsi
                        by_cases e2 : zdw NN xs (12 * j + 9) 6 = 2
                        · rw [e2]
                          refine z_tableIn 369 d_La_law_289 (by decide) (by decide) rfl (by decide) ?_
                          refine z_aload 6 d_La_law_369 rfl ?_
                          refine z_iload 2 d_La_law_371 rfl ?_
                          refine z_iconst (v := (nI 4)) d_La_law_373 (by decide) ?_
                          refine z_callV ((m_Tb_ofSecretE hs0 hst hQb.t _ _)) ym_Tb_ofSecret qM_La_50 qI_Tb_ofSecret qV_Tb_Tb_ofSecret zc_Tb hQb.t.tb d_La_law_374 rfl (Nat.le_of_ble_eq_true rfl) ⟨by show _ ≤ 600086; omega, by show _ ≤ 7301442; omega⟩ ⟨Nat.le_of_ble_eq_true rfl, Nat.le_of_ble_eq_true rfl⟩ ?_ ?_
                          · exact fun E G9 hx => (gX_ofSecret hns rfl (q := 4) rfl hsi (by decide) hx).elim
                          intro r_374 G_374 hp_374
                          obtain ⟨⟨v4, hr_374, hv4⟩, D6, V6, hT6, hF6, hS6⟩ := gS_4 hSb4 hP (by omega) hns rfl rfl hsi hp_374
                          obtain rfl : r_374 = _ := hr_374
                          have hQ6 := hQb.ask hT6 hF6
                          refine z_iload 0 d_La_law_377 rfl ?_
                          refine z_ishr d_La_law_379 ?_
                          refine z_iconst (v := 1) d_La_law_380 (by decide) ?_
                          refine z_iand d_La_law_381 ?_
                          refine z_if_ne 509 d_La_law_382 (by decide) (fun c_382 => ?_) (fun c_382 => ?_)
                          · skip
                            obtain ⟨y1, y2⟩ := gCx_2n hX9 e0 e1 e2 (fun q => c_382 ((hv4 _ (by omega)).mpr q.1))
                            subst W1
                            subst ne1
                            have hQ5 := hQ6
                            have hS5 := hS6.up (N' := 10 * j + 1) (by omega)
                            have hN5 : A3 0 = A3 0 ∧ True := ⟨rfl, trivial⟩
                            refine z_sub (L' := [(11, _), (9, _), (8, _), (7, _), (6, _), (5, _), (4, _), (3, _), (2, _), (1, _), (0, _)]) [2, 4, 5, 6, 7, 8, 9, 10, 11, 12, 13] rfl ?_
                            refine z_widen (k := (100 + 3000 * j + 1000 * tw + 300)) (n := (2000 + 60000 * j + 20000 * tw + 8000)) (by omega) (by omega) ?_
                            exact hJ_509 _ _ _ _ hQ5 hN5.1 hS5 rfl rfl hsi
                          · skip
                            have hz := (hv4 _ (by omega)).mp c_382
                            refine z_aload 6 d_La_law_385 rfl ?_
                            refine z_iload 2 d_La_law_387 rfl ?_
                            refine z_iload 1 d_La_law_389 rfl ?_
                            refine z_iconst (v := 1) d_La_law_391 (by decide) ?_
                            refine z_iload 0 d_La_law_392 rfl ?_
                            refine z_ishl d_La_law_394 ?_
                            refine z_iconst (v := (-1)) d_La_law_395 (by decide) ?_
                            refine z_ixor d_La_law_396 ?_
                            refine z_iand d_La_law_397 ?_
                            refine z_topv (gmin _ (by omega) _ (by omega)) ?_
                            refine z_iconst (v := (nI 2)) d_La_law_398 (by decide) ?_
                            refine z_callV ((m_Tb_wouldE hs0 hst hQ6.t _ _ _)) ym_Tb_would qM_La_41 qI_Tb_would qV_Tb_Tb_would zc_Tb hQ6.t.tb d_La_law_399 rfl (Nat.le_of_ble_eq_true rfl) ⟨by show _ ≤ 600086; omega, by show _ ≤ 7301442; omega⟩ ⟨Nat.le_of_ble_eq_true rfl, Nat.le_of_ble_eq_true rfl⟩ ?_ ?_
                            · exact fun E G9 hx => (gX_would hnk hns rfl rfl (q := 2) rfl hsi (gmin_lt hgl) (by decide) hx).elim
                            intro r_399 G_399 hp_399
                            obtain ⟨hr_399, D7, V7, hT7, hF7, hS7⟩ := gW_2 hS6 hP (by omega) hnk hns rfl rfl rfl hsi (gmin_lt hgl) hp_399
                            rw [gmin_mgr (by omega) hz] at hr_399
                            obtain rfl : r_399 = _ := hr_399
                            have hQ7 := hQ6.ask hT7 hF7
                            refine z_iconst (v := 1) d_La_law_402 (by decide) ?_
                            refine z_icmp_ne 509 d_La_law_403 (by decide) (fun c_403 => ?_) (fun c_403 => ?_)
                            · skip
                              obtain ⟨y1, y2⟩ := gCx_2n hX9 e0 e1 e2 (fun q => c_403 (by rw [q.2]; rfl))
                              subst W1
                              subst ne1
                              have hQ5 := hQ7
                              have hS5 := hS7.up (N' := 10 * j + 1) (by omega)
                              have hN5 : A3 0 = A3 0 ∧ True := ⟨rfl, trivial⟩
                              refine z_sub (L' := [(11, _), (9, _), (8, _), (7, _), (6, _), (5, _), (4, _), (3, _), (2, _), (1, _), (0, _)]) [2, 4, 5, 6, 7, 8, 9, 10, 11, 12, 13] rfl ?_
                              refine z_widen (k := (100 + 3000 * j + 1000 * tw + 300)) (n := (2000 + 60000 * j + 20000 * tw + 8000)) (by omega) (by omega) ?_
                              exact hJ_509 _ _ _ _ hQ5 hN5.1 hS5 rfl rfl hsi
                            · skip
                              have hgd := gz1 (by first | exact c_403 | exact Decidable.not_not.mp c_403)
                              refine z_aload 6 d_La_law_406 rfl ?_
                              refine z_iload 2 d_La_law_408 rfl ?_
                              refine z_iload 0 d_La_law_410 rfl ?_
                              refine z_iload 1 d_La_law_412 rfl ?_
                              refine z_callV ((m_Tb_rebuildE hs0 hst hQ7.t _ _ _)) ym_Tb_rebuild qM_La_53 qI_Tb_rebuild qV_Tb_Tb_rebuild zc_Tb hQ7.t.tb d_La_law_414 rfl (Nat.le_of_ble_eq_true rfl) ⟨by show _ ≤ 600086; omega, by show _ ≤ 7301442; omega⟩ ⟨Nat.le_of_ble_eq_true rfl, Nat.le_of_ble_eq_true rfl⟩ ?_ ?_
                              · exact fun E G9 hx => (gX_rebuild hS7 hP (by omega) hnk hns rfl rfl rfl hsi hki hgl hz hgd hx).elim
                              intro r_414 G_414 hp_414
                              obtain ⟨v9, hv9⟩ := gV_rebuild hp_414
                              obtain rfl : r_414 = _ := hv9
                              obtain ⟨A5, D5, V5, hT5, hN5, hF5, hS5⟩ := gL_rebuild hS7 (by omega) hnk hns rfl rfl rfl hsi hki hgl (gCx_2 hX9 e0 e1 e2 hz hgd) hp_414
                              have hQ5 := hQ7.act hT5 hN5 hF5
                              refine z_pop d_La_law_417 rfl ?_
                              refine z_goto 509 d_La_law_418 (by decide) ?_
                              refine z_sub (L' := [(11, _), (9, _), (8, _), (7, _), (6, _), (5, _), (4, _), (3, _), (2, _), (1, _), (0, _)]) [2, 4, 5, 6, 7, 8, 9, 10, 11, 12, 13] rfl ?_
                              refine z_widen (k := (100 + 3000 * j + 1000 * tw + 300)) (n := (2000 + 60000 * j + 20000 * tw + 8000)) (by omega) (by omega) ?_
                              exact hJ_509 _ _ _ _ hQ5 hN5.1 hS5 rfl rfl hsi
                        by_cases e3 : zdw NN xs (12 * j + 9) 6 = 3
                        · rw [e3]
                          refine z_tableIn 421 d_La_law_289 (by decide) (by decide) rfl (by decide) ?_
                          refine z_aload 6 d_La_law_421 rfl ?_
                          refine z_iload 0 d_La_law_423 rfl ?_
                          refine z_aload_n 13 d_La_law_425 rfl rfl ?_
                          refine z_iload 8 d_La_law_426 rfl ?_
                          refine z_bipush (v := (nI 10)) d_La_law_428 (by decide) ?_
                          refine z_iadd d_La_law_430 ?_
                          refine z_topv (v := nI (12 * j + 10)) (nI_add _ _) ?_
                          refine z_iconst (v := (nI 3)) d_La_law_431 (by decide) ?_
                          refine z_callS0 ((m_La_drawn hs0 hst hX hbl hNN (k := 12 * j + 10) (n := 3) (by omega) (by decide) (by decide))) ym_La_drawn qM_La_29 qS_La_drawn d_La_law_432 rfl (Nat.le_of_ble_eq_true rfl) ⟨by show _ ≤ 600086; omega, by show _ ≤ 7301442; omega⟩ ⟨Nat.le_of_ble_eq_true rfl, Nat.le_of_ble_eq_true rfl⟩ ?_
                          refine z_if_ne 452 d_La_law_435 (by decide) (fun c_435 => ?_) (fun c_435 => ?_)
                          · skip
                            have hL3 := gCx_3b hX9 e0 e1 e2 e3 (fun q => c_435 ((congrArg nI q).trans nI_0))
                            refine z_iconst (v := (nI 0)) d_La_law_452 (by decide) ?_
                            refine z_callV ((m_Tb_lie hs0 hst hQb.t _ _)) ym_Tb_lie qM_La_56 qI_Tb_lie qV_Tb_Tb_lie zc_Tb hQb.t.tb d_La_law_453 rfl (Nat.le_of_ble_eq_true rfl) ⟨by show _ ≤ 600086; omega, by show _ ≤ 7301442; omega⟩ ⟨Nat.le_of_ble_eq_true rfl, Nat.le_of_ble_eq_true rfl⟩ ?_ ?_
                            · exact fun E G9 hx => (gX_lie hnk rfl rfl hki (by first | exact zdw_lt (by decide) | decide) hx).elim
                            intro r_453 G_453 hp_453
                            obtain ⟨v9, hv9⟩ := gV_lie hp_453
                            obtain rfl : r_453 = _ := hv9
                            obtain ⟨y1, y2⟩ := hL3
                            subst W1
                            subst ne1
                            obtain ⟨A5, D5, V5, hT5, hN5, hF5, hS5⟩ := gL_lie hSb4 hnk hns rfl hki hp_453
                            have hQ5 := hQb.act hT5 hN5 hF5
                            refine z_pop d_La_law_456 rfl ?_
                            refine z_goto 509 d_La_law_457 (by decide) ?_
                            refine z_sub (L' := [(11, _), (9, _), (8, _), (7, _), (6, _), (5, _), (4, _), (3, _), (2, _), (1, _), (0, _)]) [2, 4, 5, 6, 7, 8, 9, 10, 11, 12, 13] rfl ?_
                            refine z_widen (k := (100 + 3000 * j + 1000 * tw + 300)) (n := (2000 + 60000 * j + 20000 * tw + 8000)) (by omega) (by omega) ?_
                            exact hJ_509 _ _ _ _ hQ5 hN5.1 hS5 rfl rfl hsi
                          · skip
                            have hL3 := gCx_3a hX9 e0 e1 e2 e3 ((nI_z (by have := zdw_lt (NN := NN) (xs := xs) (k := 12 * j + 10) (m := 3) (by decide); omega)).mp c_435)
                            refine z_aload_n 13 d_La_law_438 rfl rfl ?_
                            refine z_iload 8 d_La_law_439 rfl ?_
                            refine z_bipush (v := (nI 11)) d_La_law_441 (by decide) ?_
                            refine z_iadd d_La_law_443 ?_
                            refine z_topv (v := nI (12 * j + 11)) (nI_add _ _) ?_
                            refine z_bipush (v := (nI 97)) d_La_law_444 (by decide) ?_
                            refine z_callS0 ((m_La_drawn hs0 hst hX hbl hNN (k := 12 * j + 11) (n := 97) (by omega) (by decide) (by decide))) ym_La_drawn qM_La_29 qS_La_drawn d_La_law_446 rfl (Nat.le_of_ble_eq_true rfl) ⟨by show _ ≤ 600086; omega, by show _ ≤ 7301442; omega⟩ ⟨Nat.le_of_ble_eq_true rfl, Nat.le_of_ble_eq_true rfl⟩ ?_
                            refine z_goto 453 d_La_law_449 (by decide) ?_
                            refine z_callV ((m_Tb_lie hs0 hst hQb.t _ _)) ym_Tb_lie qM_La_56 qI_Tb_lie qV_Tb_Tb_lie zc_Tb hQb.t.tb d_La_law_453 rfl (Nat.le_of_ble_eq_true rfl) ⟨by show _ ≤ 600086; omega, by show _ ≤ 7301442; omega⟩ ⟨Nat.le_of_ble_eq_true rfl, Nat.le_of_ble_eq_true rfl⟩ ?_ ?_
                            · exact fun E G9 hx => (gX_lie hnk rfl rfl hki (by first | exact zdw_lt (by decide) | decide) hx).elim
                            intro r_453 G_453 hp_453
                            obtain ⟨v9, hv9⟩ := gV_lie hp_453
                            obtain rfl : r_453 = _ := hv9
                            obtain ⟨y1, y2⟩ := hL3
                            subst W1
                            subst ne1
                            obtain ⟨A5, D5, V5, hT5, hN5, hF5, hS5⟩ := gL_lie hSb4 hnk hns rfl hki hp_453
                            have hQ5 := hQb.act hT5 hN5 hF5
                            refine z_pop d_La_law_456 rfl ?_
                            refine z_goto 509 d_La_law_457 (by decide) ?_
                            refine z_sub (L' := [(11, _), (9, _), (8, _), (7, _), (6, _), (5, _), (4, _), (3, _), (2, _), (1, _), (0, _)]) [2, 4, 5, 6, 7, 8, 9, 10, 11, 12, 13] rfl ?_
                            refine z_widen (k := (100 + 3000 * j + 1000 * tw + 300)) (n := (2000 + 60000 * j + 20000 * tw + 8000)) (by omega) (by omega) ?_
                            exact hJ_509 _ _ _ _ hQ5 hN5.1 hS5 rfl rfl hsi
                        by_cases e4 : zdw NN xs (12 * j + 9) 6 = 4
                        · rw [e4]
                          refine z_tableIn 460 d_La_law_289 (by decide) (by decide) rfl (by decide) ?_
                          refine z_aload 6 d_La_law_460 rfl ?_
                          refine z_aload_n 13 d_La_law_462 rfl rfl ?_
                          refine z_iload 8 d_La_law_463 rfl ?_
                          refine z_bipush (v := (nI 10)) d_La_law_465 (by decide) ?_
                          refine z_iadd d_La_law_467 ?_
                          refine z_topv (v := nI (12 * j + 10)) (nI_add _ _) ?_
                          refine z_iconst (v := (nI 2)) d_La_law_468 (by decide) ?_
                          refine z_callS0 ((m_La_drawn hs0 hst hX hbl hNN (k := 12 * j + 10) (n := 2) (by omega) (by decide) (by decide))) ym_La_drawn qM_La_29 qS_La_drawn d_La_law_469 rfl (Nat.le_of_ble_eq_true rfl) ⟨by show _ ≤ 600086; omega, by show _ ≤ 7301442; omega⟩ ⟨Nat.le_of_ble_eq_true rfl, Nat.le_of_ble_eq_true rfl⟩ ?_
                          refine z_iload 2 d_La_law_472 rfl ?_
                          refine z_aload_n 13 d_La_law_474 rfl rfl ?_
                          refine z_iload 8 d_La_law_475 rfl ?_
                          refine z_bipush (v := (nI 11)) d_La_law_477 (by decide) ?_
                          refine z_iadd d_La_law_479 ?_
                          refine z_topv (v := nI (12 * j + 11)) (nI_add _ _) ?_
                          refine z_iconst (v := (nI 2)) d_La_law_480 (by decide) ?_
                          refine z_callS0 ((m_La_drawn hs0 hst hX hbl hNN (k := 12 * j + 11) (n := 2) (by omega) (by decide) (by decide))) ym_La_drawn qM_La_29 qS_La_drawn d_La_law_481 rfl (Nat.le_of_ble_eq_true rfl) ⟨by show _ ≤ 600086; omega, by show _ ≤ 7301442; omega⟩ ⟨Nat.le_of_ble_eq_true rfl, Nat.le_of_ble_eq_true rfl⟩ ?_
                          refine z_if_ne 491 d_La_law_484 (by decide) (fun c_484 => ?_) (fun c_484 => ?_)
                          · skip
                            have hL4 := gCx_4b hX9 e0 e1 e2 e3 e4 (fun q => c_484 ((congrArg nI q).trans nI_0))
                            refine z_iconst (v := 0) d_La_law_491 (by decide) ?_
                            refine z_callV ((m_Tb_freeze hs0 hst hQb.t _ _ _)) ym_Tb_freeze qM_La_59 qI_Tb_freeze qV_Tb_Tb_freeze zc_Tb hQb.t.tb d_La_law_492 rfl (Nat.le_of_ble_eq_true rfl) ⟨by show _ ≤ 600086; omega, by show _ ≤ 7301442; omega⟩ ⟨Nat.le_of_ble_eq_true rfl, Nat.le_of_ble_eq_true rfl⟩ ?_ ?_
                            · exact fun E G9 hx => (gX_freeze (x3 := 0) hns rfl rfl (zdw_lt (by decide)) hsi hx).elim
                            intro r_492 G_492 hp_492
                            obtain ⟨v9, hv9⟩ := gV_freeze hp_492
                            obtain rfl : r_492 = _ := hv9
                            obtain ⟨y1, y2⟩ := hL4
                            subst W1
                            subst ne1
                            obtain ⟨A5, D5, V5, hT5, hN5, hF5, hS5⟩ := gL_freeze hSb4 hnk hns rfl hsi hp_492
                            have hQ5 := hQb.act hT5 hN5 hF5
                            refine z_pop d_La_law_495 rfl ?_
                            refine z_goto 509 d_La_law_496 (by decide) ?_
                            refine z_sub (L' := [(11, _), (9, _), (8, _), (7, _), (6, _), (5, _), (4, _), (3, _), (2, _), (1, _), (0, _)]) [2, 4, 5, 6, 7, 8, 9, 10, 11, 12, 13] rfl ?_
                            refine z_widen (k := (100 + 3000 * j + 1000 * tw + 300)) (n := (2000 + 60000 * j + 20000 * tw + 8000)) (by omega) (by omega) ?_
                            exact hJ_509 _ _ _ _ hQ5 hN5.1 hS5 rfl rfl hsi
                          · skip
                            have hL4 := gCx_4a hX9 e0 e1 e2 e3 e4 ((nI_z (by have := zdw_lt (NN := NN) (xs := xs) (k := 12 * j + 11) (m := 2) (by decide); omega)).mp c_484)
                            refine z_iconst (v := 1) d_La_law_487 (by decide) ?_
                            refine z_goto 492 d_La_law_488 (by decide) ?_
                            refine z_callV ((m_Tb_freeze hs0 hst hQb.t _ _ _)) ym_Tb_freeze qM_La_59 qI_Tb_freeze qV_Tb_Tb_freeze zc_Tb hQb.t.tb d_La_law_492 rfl (Nat.le_of_ble_eq_true rfl) ⟨by show _ ≤ 600086; omega, by show _ ≤ 7301442; omega⟩ ⟨Nat.le_of_ble_eq_true rfl, Nat.le_of_ble_eq_true rfl⟩ ?_ ?_
                            · exact fun E G9 hx => (gX_freeze (x3 := 0) hns rfl rfl (zdw_lt (by decide)) hsi hx).elim
                            intro r_492 G_492 hp_492
                            obtain ⟨v9, hv9⟩ := gV_freeze hp_492
                            obtain rfl : r_492 = _ := hv9
                            obtain ⟨y1, y2⟩ := hL4
                            subst W1
                            subst ne1
                            obtain ⟨A5, D5, V5, hT5, hN5, hF5, hS5⟩ := gL_freeze hSb4 hnk hns rfl hsi hp_492
                            have hQ5 := hQb.act hT5 hN5 hF5
                            refine z_pop d_La_law_495 rfl ?_
                            refine z_goto 509 d_La_law_496 (by decide) ?_
                            refine z_sub (L' := [(11, _), (9, _), (8, _), (7, _), (6, _), (5, _), (4, _), (3, _), (2, _), (1, _), (0, _)]) [2, 4, 5, 6, 7, 8, 9, 10, 11, 12, 13] rfl ?_
                            refine z_widen (k := (100 + 3000 * j + 1000 * tw + 300)) (n := (2000 + 60000 * j + 20000 * tw + 8000)) (by omega) (by omega) ?_
                            exact hJ_509 _ _ _ _ hQ5 hN5.1 hS5 rfl rfl hsi
                        have e5 : zdw NN xs (12 * j + 9) 6 = 5 := by
                          have := zdw_lt (NN := NN) (xs := xs) (k := 12 * j + 9) (m := 6) (by decide)
                          omega
                        rw [e5]
                        · skip
                          refine z_tableOut 499 d_La_law_289 (Or.inr (by decide)) (by decide) ?_
                          refine z_aload 6 d_La_law_499 rfl ?_
                          refine z_iload 2 d_La_law_501 rfl ?_
                          refine z_iload 1 d_La_law_503 rfl ?_
                          refine z_callV ((m_Tb_openE hs0 hst hQb.t _ _)) ym_Tb_open qM_La_63 qI_Tb_open qV_Tb_Tb_open zc_Tb hQb.t.tb d_La_law_505 rfl (Nat.le_of_ble_eq_true rfl) ⟨by show _ ≤ 600086; omega, by show _ ≤ 7301442; omega⟩ ⟨Nat.le_of_ble_eq_true rfl, Nat.le_of_ble_eq_true rfl⟩ ?_ ?_
                          · exact fun E G9 hx => (gX_open hnk hns rfl rfl hsi hgl hx).elim
                          intro r_505 G_505 hp_505
                          obtain ⟨v9, hv9⟩ := gV_open hp_505
                          obtain rfl : r_505 = _ := hv9
                          obtain ⟨A5, D5, V5, hT5, hN5, hF5, hS5⟩ := gL_open hSb4 hP (by omega) hnk hns rfl rfl hsi hgl (gCx_5 hX9 e0 e1 e2 e3 e4) hp_505
                          have hQ5 := hQb.act hT5 hN5 hF5
                          refine z_pop d_La_law_508 rfl ?_
                          refine z_sub (L' := [(11, _), (9, _), (8, _), (7, _), (6, _), (5, _), (4, _), (3, _), (2, _), (1, _), (0, _)]) [2, 4, 5, 6, 7, 8, 9, 10, 11, 12, 13] rfl ?_
                          refine z_widen (k := (100 + 3000 * j + 1000 * tw + 300)) (n := (2000 + 60000 * j + 20000 * tw + 8000)) (by omega) (by omega) ?_
                          exact hJ_509 _ _ _ _ hQ5 hN5.1 hS5 rfl rfl hsi
                      · skip
                        have hc2 : ((ns < 6 ∧ zdw NN xs (12 * j + 4) 3 = 0) ∨ ns = 0) := Or.inr ((nI_z (by omega)).mp c_163)
                        have hg8 : zdw NN xs (12 * j + 8) (2 ^ nk) < 2 ^ nk := zdw_lt (Nat.two_pow_pos nk)
                        have hglt : zdw NN xs (12 * j + 8) (2 ^ nk) ||| 1 < 2 ^ nk := Nat.or_lt_two_pow hg8 (Nat.one_lt_two_pow hn0)
                        have hz2 : zdw NN xs (12 * j + 6) 2 < 2 := zdw_lt (by decide)
                        have hz50 : zdw NN xs (12 * j + 7) 50 < 50 := zdw_lt (by decide)
                        have hp2 := zpw hnk
                        refine z_aload 3 d_La_law_166 rfl ?_
                        refine z_aload_n 10 d_La_law_168 rfl rfl ?_
                        refine z_iload 5 d_La_law_169 rfl ?_
                        refine z_iconst (v := (nI 5)) d_La_law_171 (by decide) ?_
                        refine z_iadd d_La_law_172 ?_
                        refine z_topv (v := nI (12 * j + 5)) (nI_add _ _) ?_
                        refine z_bipush (v := (nI 97)) d_La_law_173 (by decide) ?_
                        refine z_callS0 ((m_La_drawn hs0 hst hX hbl hNN (k := 12 * j + 5) (n := 97) (by omega) (by decide) (by decide))) ym_La_drawn qM_La_29 qS_La_drawn d_La_law_175 rfl (Nat.le_of_ble_eq_true rfl) ⟨by show _ ≤ 600086; omega, by show _ ≤ 7301442; omega⟩ ⟨Nat.le_of_ble_eq_true rfl, Nat.le_of_ble_eq_true rfl⟩ ?_
                        refine z_iconst (v := (nI 1)) d_La_law_178 (by decide) ?_
                        refine z_iconst (v := (nI 1)) d_La_law_179 (by decide) ?_
                        refine z_aload_n 10 d_La_law_180 rfl rfl ?_
                        refine z_iload 5 d_La_law_181 rfl ?_
                        refine z_bipush (v := (nI 6)) d_La_law_183 (by decide) ?_
                        refine z_iadd d_La_law_185 ?_
                        refine z_topv (v := nI (12 * j + 6)) (nI_add _ _) ?_
                        refine z_iconst (v := (nI 2)) d_La_law_186 (by decide) ?_
                        refine z_callS0 ((m_La_drawn hs0 hst hX hbl hNN (k := 12 * j + 6) (n := 2) (by omega) (by decide) (by decide))) ym_La_drawn qM_La_29 qS_La_drawn d_La_law_187 rfl (Nat.le_of_ble_eq_true rfl) ⟨by show _ ≤ 600086; omega, by show _ ≤ 7301442; omega⟩ ⟨Nat.le_of_ble_eq_true rfl, Nat.le_of_ble_eq_true rfl⟩ ?_
                        refine z_iadd d_La_law_190 ?_
                        refine z_topv (v := nI (1 + (zdw NN xs (12 * j + 6) 2))) (nI_add _ _) ?_
                        refine z_aload_n 10 d_La_law_191 rfl rfl ?_
                        refine z_iload 5 d_La_law_192 rfl ?_
                        refine z_bipush (v := (nI 7)) d_La_law_194 (by decide) ?_
                        refine z_iadd d_La_law_196 ?_
                        refine z_topv (v := nI (12 * j + 7)) (nI_add _ _) ?_
                        refine z_bipush (v := (nI 50)) d_La_law_197 (by decide) ?_
                        refine z_callS0 ((m_La_drawn hs0 hst hX hbl hNN (k := 12 * j + 7) (n := 50) (by omega) (by decide) (by decide))) ym_La_drawn qM_La_29 qS_La_drawn d_La_law_199 rfl (Nat.le_of_ble_eq_true rfl) ⟨by show _ ≤ 600086; omega, by show _ ≤ 7301442; omega⟩ ⟨Nat.le_of_ble_eq_true rfl, Nat.le_of_ble_eq_true rfl⟩ ?_
                        refine z_aload_n 10 d_La_law_202 rfl rfl ?_
                        refine z_iload 5 d_La_law_203 rfl ?_
                        refine z_bipush (v := (nI 8)) d_La_law_205 (by decide) ?_
                        refine z_iadd d_La_law_207 ?_
                        refine z_topv (v := nI (12 * j + 8)) (nI_add _ _) ?_
                        refine z_iload 1 d_La_law_208 rfl ?_
                        refine z_iconst (v := (nI 1)) d_La_law_210 (by decide) ?_
                        refine z_iadd d_La_law_211 ?_
                        refine z_topv (v := nI (2 ^ nk)) (g2p nk) ?_
                        refine z_callS0 ((m_La_drawn hs0 hst hX hbl hNN (k := 12 * j + 8) (n := (2 ^ nk)) (by omega) (Nat.two_pow_pos nk) (by have := zpw hnk; omega))) ym_La_drawn qM_La_29 qS_La_drawn d_La_law_212 rfl (Nat.le_of_ble_eq_true rfl) ⟨by show _ ≤ 600086; omega, by show _ ≤ 7301442; omega⟩ ⟨Nat.le_of_ble_eq_true rfl, Nat.le_of_ble_eq_true rfl⟩ ?_
                        refine z_iconst (v := (nI 1)) d_La_law_215 (by decide) ?_
                        refine z_ior d_La_law_216 ?_
                        refine z_topv (v := nI ((zdw NN xs (12 * j + 8) (2 ^ nk)) ||| 1)) (gor _ (by have := zpw hnk; have := zdw_lt (NN := NN) (xs := xs) (k := 12 * j + 8) (Nat.two_pow_pos nk); omega) 1 (by decide)) ?_
                        refine z_callV ((m_Tb_dealME hs0 hst hQb.t _ _ _ _ _)) ym_Tb_deal qM_La_37 qI_Tb_deal qV_Tb_Tb_deal zc_Tb hQb.t.tb d_La_law_217 rfl (Nat.le_of_ble_eq_true rfl) ⟨by show _ ≤ 600086; omega, by show _ ≤ 7301442; omega⟩ ⟨Nat.le_of_ble_eq_true rfl, Nat.le_of_ble_eq_true rfl⟩ ?_ ?_
                        · exact fun E G9 hx => (gX_deal hnk (hc2.elim (fun q => q.1) (fun q => by omega)) rfl rfl rfl rfl rfl (zdw_lt (by decide)) (by omega) (by omega) (by omega) hglt (by omega) hx).elim
                        intro r_217 G_217 hp_217
                        obtain ⟨v9, hv9⟩ := gV_deal hp_217
                        obtain rfl : r_217 = _ := hv9
                        obtain ⟨hmd, y1, y2⟩ := gCs_D hR hc1 hc2
                        subst nk1
                        subst ns1
                        obtain ⟨A5, D5, V5, hT5, hN5, hF5, hS5⟩ := gL_deal hSb4 hnk rfl rfl rfl (zdw_lt (by decide)) hglt hmd hp_217
                        have hQ5 := hQb.act hT5 hN5 hF5
                        refine z_pop d_La_law_220 rfl ?_
                        refine z_goto 573 d_La_law_221 (by decide) ?_
                        refine z_sub (L' := [(7, _), (6, _), (5, _), (4, _), (3, _), (2, _), (1, _), (0, _)]) [3, 4, 5, 6, 7, 8, 9, 10] rfl ?_
                        refine z_widen (k := (100 + 3000 * j + 1000 * tw + 600)) (n := (2000 + 60000 * j + 20000 * tw + 16000)) (by omega) (by omega) ?_
                        first
                          | exact hJ_573 _ _ _ _ hQ5 hN5.1 hS5
                          | (rw [eA4]; exact hJ_573 _ _ _ _ hQ9 eA4 hS9)
                · skip
                  have hc1 : ((nk < 8 ∧ zdw NN xs (12 * j + 0) 3 = 0) ∨ nk = 0) := Or.inr ((nI_z (by omega)).mp c_99)
                  refine z_aload 3 d_La_law_102 rfl ?_
                  refine z_aload_n 10 d_La_law_104 rfl rfl ?_
                  refine z_iload 5 d_La_law_105 rfl ?_
                  refine z_iconst (v := (nI 1)) d_La_law_107 (by decide) ?_
                  refine z_iadd d_La_law_108 ?_
                  refine z_topv (v := nI (12 * j + 1)) (nI_add _ _) ?_
                  refine z_iconst (v := (nI 4)) d_La_law_109 (by decide) ?_
                  refine z_callS0 ((m_La_drawn hs0 hst hX hbl hNN (k := 12 * j + 1) (n := 4) (by omega) (by decide) (by decide))) ym_La_drawn qM_La_29 qS_La_drawn d_La_law_110 rfl (Nat.le_of_ble_eq_true rfl) ⟨by show _ ≤ 600086; omega, by show _ ≤ 7301442; omega⟩ ⟨Nat.le_of_ble_eq_true rfl, Nat.le_of_ble_eq_true rfl⟩ ?_
                  refine z_iconst (v := (nI 1)) d_La_law_113 (by decide) ?_
                  refine z_aload_n 10 d_La_law_114 rfl rfl ?_
                  refine z_iload 5 d_La_law_115 rfl ?_
                  refine z_iconst (v := (nI 2)) d_La_law_117 (by decide) ?_
                  refine z_iadd d_La_law_118 ?_
                  refine z_topv (v := nI (12 * j + 2)) (nI_add _ _) ?_
                  refine z_bipush (v := (nI 99)) d_La_law_119 (by decide) ?_
                  refine z_callS0 ((m_La_drawn hs0 hst hX hbl hNN (k := 12 * j + 2) (n := 99) (by omega) (by decide) (by decide))) ym_La_drawn qM_La_29 qS_La_drawn d_La_law_121 rfl (Nat.le_of_ble_eq_true rfl) ⟨by show _ ≤ 600086; omega, by show _ ≤ 7301442; omega⟩ ⟨Nat.le_of_ble_eq_true rfl, Nat.le_of_ble_eq_true rfl⟩ ?_
                  refine z_iadd d_La_law_124 ?_
                  refine z_topv (v := nI (1 + (zdw NN xs (12 * j + 2) 99))) (nI_add _ _) ?_
                  refine z_aload_n 10 d_La_law_125 rfl rfl ?_
                  refine z_iload 5 d_La_law_126 rfl ?_
                  refine z_iconst (v := (nI 3)) d_La_law_128 (by decide) ?_
                  refine z_iadd d_La_law_129 ?_
                  refine z_topv (v := nI (12 * j + 3)) (nI_add _ _) ?_
                  refine z_bipush (v := (nI 101)) d_La_law_130 (by decide) ?_
                  refine z_callS0 ((m_La_drawn hs0 hst hX hbl hNN (k := 12 * j + 3) (n := 101) (by omega) (by decide) (by decide))) ym_La_drawn qM_La_29 qS_La_drawn d_La_law_132 rfl (Nat.le_of_ble_eq_true rfl) ⟨by show _ ≤ 600086; omega, by show _ ≤ 7301442; omega⟩ ⟨Nat.le_of_ble_eq_true rfl, Nat.le_of_ble_eq_true rfl⟩ ?_
                  refine z_callV ((m_Tb_keeperM hs0 hst hQb.t _ _ _)) ym_Tb_keeper qM_La_33 qI_Tb_keeper qV_Tb_Tb_keeper zc_Tb hQb.t.tb d_La_law_135 rfl (Nat.le_of_ble_eq_true rfl) ⟨by show _ ≤ 600086; omega, by show _ ≤ 7301442; omega⟩ ⟨Nat.le_of_ble_eq_true rfl, Nat.le_of_ble_eq_true rfl⟩ ?_ ?_
                  · exact fun E G9 hx => (gX_keeper (hc1.elim (fun q => q.1) (fun q => by omega)) (zdw_lt (by decide)) (zdw_lt (by decide)) (zdw_lt (by decide)) hx).elim
                  intro r_135 G_135 hp_135
                  obtain ⟨v9, hv9⟩ := gV_keeper hp_135
                  obtain rfl : r_135 = _ := hv9
                  obtain ⟨y1, y2, y3, y4⟩ := gCs_K hR hc1
                  subst W1
                  subst nk1
                  subst ns1
                  subst ne1
                  obtain ⟨A5, D5, V5, hT5, hN5, hF5, hS5⟩ := gL_keeper hSb4 hns hp_135
                  have hQ5 := hQb.act hT5 hN5 hF5
                  refine z_pop d_La_law_138 rfl ?_
                  refine z_goto 573 d_La_law_139 (by decide) ?_
                  refine z_sub (L' := [(7, _), (6, _), (5, _), (4, _), (3, _), (2, _), (1, _), (0, _)]) [3, 4, 5, 6, 7, 8, 9, 10] rfl ?_
                  refine z_widen (k := (100 + 3000 * j + 1000 * tw + 600)) (n := (2000 + 60000 * j + 20000 * tw + 16000)) (by omega) (by omega) ?_
                  first
                    | exact hJ_573 _ _ _ _ hQ5 hN5.1 hS5
                    | (rw [eA4]; exact hJ_573 _ _ _ _ hQ9 eA4 hS9)
        refine z_widen (k := (100 + 3000 * j + 1000 * 0)) (n := (2000 + 60000 * j + 20000 * 0)) (by omega) (by omega) ?_
        exact key_54 3 0 x1 _ A D V B E U nk ns (by decide) (by decide) eA hQ0 hSa (Or.inl ⟨rfl, eA, eB, rfl, rfl, hSb⟩)
  refine z_widen (k := 100 + 3000 * 0) (n := 2000 + 60000 * 0) (by decide) (by decide) ?_
  exact key_21 32 0 0 _ (by omega) (by omega) (by omega) hLw0
