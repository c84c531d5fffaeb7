theorem d_La_law_0 : decode c_La_law 0 = .ok (.new 8, 3) := by decide +kernel
theorem d_La_law_3 : decode c_La_law 3 = .ok (.dup, 1) := by decide +kernel
theorem d_La_law_4 : decode c_La_law 4 = .ok (.invokespecial 101, 3) := by decide +kernel
theorem d_La_law_7 : decode c_La_law 7 = .ok (.astore_n 1, 1) := by decide +kernel
theorem d_La_law_8 : decode c_La_law 8 = .ok (.new 102, 3) := by decide +kernel
theorem d_La_law_11 : decode c_La_law 11 = .ok (.dup, 1) := by decide +kernel
theorem d_La_law_12 : decode c_La_law 12 = .ok (.invokespecial 104, 3) := by decide +kernel
theorem d_La_law_15 : decode c_La_law 15 = .ok (.astore_n 2, 1) := by decide +kernel
theorem d_La_law_16 : decode c_La_law 16 = .ok (.new 14, 3) := by decide +kernel
theorem d_La_law_19 : decode c_La_law 19 = .ok (.dup, 1) := by decide +kernel
theorem d_La_law_20 : decode c_La_law 20 = .ok (.invokespecial 105, 3) := by decide +kernel
theorem d_La_law_23 : decode c_La_law 23 = .ok (.astore_n 3, 1) := by decide +kernel
theorem d_La_law_24 : decode c_La_law 24 = .ok (.iconst 0, 1) := by decide +kernel
theorem d_La_law_25 : decode c_La_law 25 = .ok (.istore 4, 2) := by decide +kernel
theorem d_La_law_27 : decode c_La_law 27 = .ok (.iload 4, 2) := by decide +kernel
theorem d_La_law_29 : decode c_La_law 29 = .ok (.aload_n 0, 1) := by decide +kernel
theorem d_La_law_30 : decode c_La_law 30 = .ok (.arraylength, 1) := by decide +kernel
theorem d_La_law_31 : decode c_La_law 31 = .ok (.bipush 6, 2) := by decide +kernel
theorem d_La_law_33 : decode c_La_law 33 = .ok (.isub, 1) := by decide +kernel
theorem d_La_law_34 : decode c_La_law 34 = .ok (.if_icmp .gt 1060, 3) := by decide +kernel
theorem d_La_law_37 : decode c_La_law 37 = .ok (.aload_n 0, 1) := by decide +kernel
theorem d_La_law_38 : decode c_La_law 38 = .ok (.iload 4, 2) := by decide +kernel
theorem d_La_law_40 : decode c_La_law 40 = .ok (.iaload, 1) := by decide +kernel
theorem d_La_law_41 : decode c_La_law 41 = .ok (.bipush 31, 2) := by decide +kernel
theorem d_La_law_43 : decode c_La_law 43 = .ok (.iand, 1) := by decide +kernel
theorem d_La_law_44 : decode c_La_law 44 = .ok (.tableswitch 1044 0 23 #[112, 164, 204, 280, 320, 348, 400, 468, 496, 536, 549, 589, 629, 681, 709, 749, 789, 817, 869, 921, 949, 977, 1017, 1030], 112) := by decide +kernel
theorem d_La_law_156 : decode c_La_law 156 = .ok (.aload_n 1, 1) := by decide +kernel
theorem d_La_law_157 : decode c_La_law 157 = .ok (.aload_n 0, 1) := by decide +kernel
theorem d_La_law_158 : decode c_La_law 158 = .ok (.iload 4, 2) := by decide +kernel
theorem d_La_law_160 : decode c_La_law 160 = .ok (.iconst 1, 1) := by decide +kernel
theorem d_La_law_161 : decode c_La_law 161 = .ok (.iadd, 1) := by decide +kernel
theorem d_La_law_162 : decode c_La_law 162 = .ok (.iaload, 1) := by decide +kernel
theorem d_La_law_163 : decode c_La_law 163 = .ok (.aload_n 0, 1) := by decide +kernel
theorem d_La_law_164 : decode c_La_law 164 = .ok (.iload 4, 2) := by decide +kernel
theorem d_La_law_166 : decode c_La_law 166 = .ok (.iconst 2, 1) := by decide +kernel
theorem d_La_law_167 : decode c_La_law 167 = .ok (.iadd, 1) := by decide +kernel
theorem d_La_law_168 : decode c_La_law 168 = .ok (.iaload, 1) := by decide +kernel
theorem d_La_law_169 : decode c_La_law 169 = .ok (.aload_n 0, 1) := by decide +kernel
theorem d_La_law_170 : decode c_La_law 170 = .ok (.iload 4, 2) := by decide +kernel
theorem d_La_law_172 : decode c_La_law 172 = .ok (.iconst 3, 1) := by decide +kernel
theorem d_La_law_173 : decode c_La_law 173 = .ok (.iadd, 1) := by decide +kernel
theorem d_La_law_174 : decode c_La_law 174 = .ok (.iaload, 1) := by decide +kernel
theorem d_La_law_175 : decode c_La_law 175 = .ok (.aload_n 3, 1) := by decide +kernel
theorem d_La_law_176 : decode c_La_law 176 = .ok (.invokestatic 106, 3) := by decide +kernel
theorem d_La_law_179 : decode c_La_law 179 = .ok (.istore 5, 2) := by decide +kernel
theorem d_La_law_181 : decode c_La_law 181 = .ok (.aload_n 2, 1) := by decide +kernel
theorem d_La_law_182 : decode c_La_law 182 = .ok (.aload_n 0, 1) := by decide +kernel
theorem d_La_law_183 : decode c_La_law 183 = .ok (.iload 4, 2) := by decide +kernel
theorem d_La_law_185 : decode c_La_law 185 = .ok (.iconst 1, 1) := by decide +kernel
theorem d_La_law_186 : decode c_La_law 186 = .ok (.iadd, 1) := by decide +kernel
theorem d_La_law_187 : decode c_La_law 187 = .ok (.iaload, 1) := by decide +kernel
theorem d_La_law_188 : decode c_La_law 188 = .ok (.aload_n 0, 1) := by decide +kernel
theorem d_La_law_189 : decode c_La_law 189 = .ok (.iload 4, 2) := by decide +kernel
theorem d_La_law_191 : decode c_La_law 191 = .ok (.iconst 2, 1) := by decide +kernel
theorem d_La_law_192 : decode c_La_law 192 = .ok (.iadd, 1) := by decide +kernel
theorem d_La_law_193 : decode c_La_law 193 = .ok (.iaload, 1) := by decide +kernel
theorem d_La_law_194 : decode c_La_law 194 = .ok (.aload_n 0, 1) := by decide +kernel
theorem d_La_law_195 : decode c_La_law 195 = .ok (.iload 4, 2) := by decide +kernel
theorem d_La_law_197 : decode c_La_law 197 = .ok (.iconst 3, 1) := by decide +kernel
theorem d_La_law_198 : decode c_La_law 198 = .ok (.iadd, 1) := by decide +kernel
theorem d_La_law_199 : decode c_La_law 199 = .ok (.iaload, 1) := by decide +kernel
theorem d_La_law_200 : decode c_La_law 200 = .ok (.invokevirtual 111, 3) := by decide +kernel
theorem d_La_law_203 : decode c_La_law 203 = .ok (.istore 6, 2) := by decide +kernel
theorem d_La_law_205 : decode c_La_law 205 = .ok (.goto 883, 3) := by decide +kernel
theorem d_La_law_208 : decode c_La_law 208 = .ok (.aload_n 1, 1) := by decide +kernel
theorem d_La_law_209 : decode c_La_law 209 = .ok (.aload_n 0, 1) := by decide +kernel
theorem d_La_law_210 : decode c_La_law 210 = .ok (.iload 4, 2) := by decide +kernel
theorem d_La_law_212 : decode c_La_law 212 = .ok (.iconst 1, 1) := by decide +kernel
theorem d_La_law_213 : decode c_La_law 213 = .ok (.iadd, 1) := by decide +kernel
theorem d_La_law_214 : decode c_La_law 214 = .ok (.iaload, 1) := by decide +kernel
theorem d_La_law_215 : decode c_La_law 215 = .ok (.aload_n 0, 1) := by decide +kernel
theorem d_La_law_216 : decode c_La_law 216 = .ok (.iload 4, 2) := by decide +kernel
theorem d_La_law_218 : decode c_La_law 218 = .ok (.iconst 2, 1) := by decide +kernel
theorem d_La_law_219 : decode c_La_law 219 = .ok (.iadd, 1) := by decide +kernel
theorem d_La_law_220 : decode c_La_law 220 = .ok (.iaload, 1) := by decide +kernel
theorem d_La_law_221 : decode c_La_law 221 = .ok (.aload_n 3, 1) := by decide +kernel
theorem d_La_law_222 : decode c_La_law 222 = .ok (.invokestatic 112, 3) := by decide +kernel
theorem d_La_law_225 : decode c_La_law 225 = .ok (.istore 5, 2) := by decide +kernel
theorem d_La_law_227 : decode c_La_law 227 = .ok (.aload_n 2, 1) := by decide +kernel
theorem d_La_law_228 : decode c_La_law 228 = .ok (.aload_n 0, 1) := by decide +kernel
theorem d_La_law_229 : decode c_La_law 229 = .ok (.iload 4, 2) := by decide +kernel
theorem d_La_law_231 : decode c_La_law 231 = .ok (.iconst 1, 1) := by decide +kernel
theorem d_La_law_232 : decode c_La_law 232 = .ok (.iadd, 1) := by decide +kernel
theorem d_La_law_233 : decode c_La_law 233 = .ok (.iaload, 1) := by decide +kernel
theorem d_La_law_234 : decode c_La_law 234 = .ok (.aload_n 0, 1) := by decide +kernel
theorem d_La_law_235 : decode c_La_law 235 = .ok (.iload 4, 2) := by decide +kernel
theorem d_La_law_237 : decode c_La_law 237 = .ok (.iconst 2, 1) := by decide +kernel
theorem d_La_law_238 : decode c_La_law 238 = .ok (.iadd, 1) := by decide +kernel
theorem d_La_law_239 : decode c_La_law 239 = .ok (.iaload, 1) := by decide +kernel
theorem d_La_law_240 : decode c_La_law 240 = .ok (.invokevirtual 115, 3) := by decide +kernel
theorem d_La_law_243 : decode c_La_law 243 = .ok (.istore 6, 2) := by decide +kernel
theorem d_La_law_245 : decode c_La_law 245 = .ok (.goto 843, 3) := by decide +kernel
theorem d_La_law_248 : decode c_La_law 248 = .ok (.aload_n 1, 1) := by decide +kernel
theorem d_La_law_249 : decode c_La_law 249 = .ok (.aload_n 0, 1) := by decide +kernel
theorem d_La_law_250 : decode c_La_law 250 = .ok (.iload 4, 2) := by decide +kernel
theorem d_La_law_252 : decode c_La_law 252 = .ok (.iconst 1, 1) := by decide +kernel
theorem d_La_law_253 : decode c_La_law 253 = .ok (.iadd, 1) := by decide +kernel
theorem d_La_law_254 : decode c_La_law 254 = .ok (.iaload, 1) := by decide +kernel
theorem d_La_law_255 : decode c_La_law 255 = .ok (.aload_n 0, 1) := by decide +kernel
theorem d_La_law_256 : decode c_La_law 256 = .ok (.iload 4, 2) := by decide +kernel
theorem d_La_law_258 : decode c_La_law 258 = .ok (.iconst 2, 1) := by decide +kernel
theorem d_La_law_259 : decode c_La_law 259 = .ok (.iadd, 1) := by decide +kernel
theorem d_La_law_260 : decode c_La_law 260 = .ok (.iaload, 1) := by decide +kernel
theorem d_La_law_261 : decode c_La_law 261 = .ok (.aload_n 0, 1) := by decide +kernel
theorem d_La_law_262 : decode c_La_law 262 = .ok (.iload 4, 2) := by decide +kernel
theorem d_La_law_264 : decode c_La_law 264 = .ok (.iconst 3, 1) := by decide +kernel
theorem d_La_law_265 : decode c_La_law 265 = .ok (.iadd, 1) := by decide +kernel
theorem d_La_law_266 : decode c_La_law 266 = .ok (.iaload, 1) := by decide +kernel
theorem d_La_law_267 : decode c_La_law 267 = .ok (.aload_n 0, 1) := by decide +kernel
theorem d_La_law_268 : decode c_La_law 268 = .ok (.iload 4, 2) := by decide +kernel
theorem d_La_law_270 : decode c_La_law 270 = .ok (.iconst 4, 1) := by decide +kernel
theorem d_La_law_271 : decode c_La_law 271 = .ok (.iadd, 1) := by decide +kernel
theorem d_La_law_272 : decode c_La_law 272 = .ok (.iaload, 1) := by decide +kernel
theorem d_La_law_273 : decode c_La_law 273 = .ok (.aload_n 0, 1) := by decide +kernel
theorem d_La_law_274 : decode c_La_law 274 = .ok (.iload 4, 2) := by decide +kernel
theorem d_La_law_276 : decode c_La_law 276 = .ok (.iconst 5, 1) := by decide +kernel
theorem d_La_law_277 : decode c_La_law 277 = .ok (.iadd, 1) := by decide +kernel
theorem d_La_law_278 : decode c_La_law 278 = .ok (.iaload, 1) := by decide +kernel
theorem d_La_law_279 : decode c_La_law 279 = .ok (.aload_n 3, 1) := by decide +kernel
theorem d_La_law_280 : decode c_La_law 280 = .ok (.invokestatic 116, 3) := by decide +kernel
theorem d_La_law_283 : decode c_La_law 283 = .ok (.istore 5, 2) := by decide +kernel
theorem d_La_law_285 : decode c_La_law 285 = .ok (.aload_n 2, 1) := by decide +kernel
theorem d_La_law_286 : decode c_La_law 286 = .ok (.aload_n 0, 1) := by decide +kernel
theorem d_La_law_287 : decode c_La_law 287 = .ok (.iload 4, 2) := by decide +kernel
theorem d_La_law_289 : decode c_La_law 289 = .ok (.iconst 1, 1) := by decide +kernel
theorem d_La_law_290 : decode c_La_law 290 = .ok (.iadd, 1) := by decide +kernel
theorem d_La_law_291 : decode c_La_law 291 = .ok (.iaload, 1) := by decide +kernel
theorem d_La_law_292 : decode c_La_law 292 = .ok (.aload_n 0, 1) := by decide +kernel
theorem d_La_law_293 : decode c_La_law 293 = .ok (.iload 4, 2) := by decide +kernel
theorem d_La_law_295 : decode c_La_law 295 = .ok (.iconst 2, 1) := by decide +kernel
theorem d_La_law_296 : decode c_La_law 296 = .ok (.iadd, 1) := by decide +kernel
theorem d_La_law_297 : decode c_La_law 297 = .ok (.iaload, 1) := by decide +kernel
theorem d_La_law_298 : decode c_La_law 298 = .ok (.aload_n 0, 1) := by decide +kernel
theorem d_La_law_299 : decode c_La_law 299 = .ok (.iload 4, 2) := by decide +kernel
theorem d_La_law_301 : decode c_La_law 301 = .ok (.iconst 3, 1) := by decide +kernel
theorem d_La_law_302 : decode c_La_law 302 = .ok (.iadd, 1) := by decide +kernel
theorem d_La_law_303 : decode c_La_law 303 = .ok (.iaload, 1) := by decide +kernel
theorem d_La_law_304 : decode c_La_law 304 = .ok (.aload_n 0, 1) := by decide +kernel
theorem d_La_law_305 : decode c_La_law 305 = .ok (.iload 4, 2) := by decide +kernel
theorem d_La_law_307 : decode c_La_law 307 = .ok (.iconst 4, 1) := by decide +kernel
theorem d_La_law_308 : decode c_La_law 308 = .ok (.iadd, 1) := by decide +kernel
theorem d_La_law_309 : decode c_La_law 309 = .ok (.iaload, 1) := by decide +kernel
theorem d_La_law_310 : decode c_La_law 310 = .ok (.aload_n 0, 1) := by decide +kernel
theorem d_La_law_311 : decode c_La_law 311 = .ok (.iload 4, 2) := by decide +kernel
theorem d_La_law_313 : decode c_La_law 313 = .ok (.iconst 5, 1) := by decide +kernel
theorem d_La_law_314 : decode c_La_law 314 = .ok (.iadd, 1) := by decide +kernel
theorem d_La_law_315 : decode c_La_law 315 = .ok (.iaload, 1) := by decide +kernel
theorem d_La_law_316 : decode c_La_law 316 = .ok (.invokevirtual 119, 3) := by decide +kernel
theorem d_La_law_319 : decode c_La_law 319 = .ok (.istore 6, 2) := by decide +kernel
theorem d_La_law_321 : decode c_La_law 321 = .ok (.goto 767, 3) := by decide +kernel
theorem d_La_law_324 : decode c_La_law 324 = .ok (.aload_n 1, 1) := by decide +kernel
theorem d_La_law_325 : decode c_La_law 325 = .ok (.aload_n 0, 1) := by decide +kernel
theorem d_La_law_326 : decode c_La_law 326 = .ok (.iload 4, 2) := by decide +kernel
theorem d_La_law_328 : decode c_La_law 328 = .ok (.iconst 1, 1) := by decide +kernel
theorem d_La_law_329 : decode c_La_law 329 = .ok (.iadd, 1) := by decide +kernel
theorem d_La_law_330 : decode c_La_law 330 = .ok (.iaload, 1) := by decide +kernel
theorem d_La_law_331 : decode c_La_law 331 = .ok (.aload_n 0, 1) := by decide +kernel
theorem d_La_law_332 : decode c_La_law 332 = .ok (.iload 4, 2) := by decide +kernel
theorem d_La_law_334 : decode c_La_law 334 = .ok (.iconst 2, 1) := by decide +kernel
theorem d_La_law_335 : decode c_La_law 335 = .ok (.iadd, 1) := by decide +kernel
theorem d_La_law_336 : decode c_La_law 336 = .ok (.iaload, 1) := by decide +kernel
theorem d_La_law_337 : decode c_La_law 337 = .ok (.aload_n 3, 1) := by decide +kernel
theorem d_La_law_338 : decode c_La_law 338 = .ok (.invokestatic 120, 3) := by decide +kernel
theorem d_La_law_341 : decode c_La_law 341 = .ok (.istore 5, 2) := by decide +kernel
theorem d_La_law_343 : decode c_La_law 343 = .ok (.aload_n 2, 1) := by decide +kernel
theorem d_La_law_344 : decode c_La_law 344 = .ok (.aload_n 0, 1) := by decide +kernel
theorem d_La_law_345 : decode c_La_law 345 = .ok (.iload 4, 2) := by decide +kernel
theorem d_La_law_347 : decode c_La_law 347 = .ok (.iconst 1, 1) := by decide +kernel
theorem d_La_law_348 : decode c_La_law 348 = .ok (.iadd, 1) := by decide +kernel
theorem d_La_law_349 : decode c_La_law 349 = .ok (.iaload, 1) := by decide +kernel
theorem d_La_law_350 : decode c_La_law 350 = .ok (.aload_n 0, 1) := by decide +kernel
theorem d_La_law_351 : decode c_La_law 351 = .ok (.iload 4, 2) := by decide +kernel
theorem d_La_law_353 : decode c_La_law 353 = .ok (.iconst 2, 1) := by decide +kernel
theorem d_La_law_354 : decode c_La_law 354 = .ok (.iadd, 1) := by decide +kernel
theorem d_La_law_355 : decode c_La_law 355 = .ok (.iaload, 1) := by decide +kernel
theorem d_La_law_356 : decode c_La_law 356 = .ok (.invokevirtual 122, 3) := by decide +kernel
theorem d_La_law_359 : decode c_La_law 359 = .ok (.istore 6, 2) := by decide +kernel
theorem d_La_law_361 : decode c_La_law 361 = .ok (.goto 727, 3) := by decide +kernel
theorem d_La_law_364 : decode c_La_law 364 = .ok (.aload_n 1, 1) := by decide +kernel
theorem d_La_law_365 : decode c_La_law 365 = .ok (.aload_n 0, 1) := by decide +kernel
theorem d_La_law_366 : decode c_La_law 366 = .ok (.iload 4, 2) := by decide +kernel
theorem d_La_law_368 : decode c_La_law 368 = .ok (.iconst 1, 1) := by decide +kernel
theorem d_La_law_369 : decode c_La_law 369 = .ok (.iadd, 1) := by decide +kernel
theorem d_La_law_370 : decode c_La_law 370 = .ok (.iaload, 1) := by decide +kernel
theorem d_La_law_371 : decode c_La_law 371 = .ok (.aload_n 3, 1) := by decide +kernel
theorem d_La_law_372 : decode c_La_law 372 = .ok (.invokestatic 123, 3) := by decide +kernel
theorem d_La_law_375 : decode c_La_law 375 = .ok (.istore 5, 2) := by decide +kernel
theorem d_La_law_377 : decode c_La_law 377 = .ok (.aload_n 2, 1) := by decide +kernel
theorem d_La_law_378 : decode c_La_law 378 = .ok (.aload_n 0, 1) := by decide +kernel
theorem d_La_law_379 : decode c_La_law 379 = .ok (.iload 4, 2) := by decide +kernel
theorem d_La_law_381 : decode c_La_law 381 = .ok (.iconst 1, 1) := by decide +kernel
theorem d_La_law_382 : decode c_La_law 382 = .ok (.iadd, 1) := by decide +kernel
theorem d_La_law_383 : decode c_La_law 383 = .ok (.iaload, 1) := by decide +kernel
theorem d_La_law_384 : decode c_La_law 384 = .ok (.invokevirtual 126, 3) := by decide +kernel
theorem d_La_law_387 : decode c_La_law 387 = .ok (.istore 6, 2) := by decide +kernel
theorem d_La_law_389 : decode c_La_law 389 = .ok (.goto 699, 3) := by decide +kernel
theorem d_La_law_392 : decode c_La_law 392 = .ok (.aload_n 1, 1) := by decide +kernel
theorem d_La_law_393 : decode c_La_law 393 = .ok (.aload_n 0, 1) := by decide +kernel
theorem d_La_law_394 : decode c_La_law 394 = .ok (.iload 4, 2) := by decide +kernel
theorem d_La_law_396 : decode c_La_law 396 = .ok (.iconst 1, 1) := by decide +kernel
theorem d_La_law_397 : decode c_La_law 397 = .ok (.iadd, 1) := by decide +kernel
theorem d_La_law_398 : decode c_La_law 398 = .ok (.iaload, 1) := by decide +kernel
theorem d_La_law_399 : decode c_La_law 399 = .ok (.aload_n 0, 1) := by decide +kernel
theorem d_La_law_400 : decode c_La_law 400 = .ok (.iload 4, 2) := by decide +kernel
theorem d_La_law_402 : decode c_La_law 402 = .ok (.iconst 2, 1) := by decide +kernel
theorem d_La_law_403 : decode c_La_law 403 = .ok (.iadd, 1) := by decide +kernel
theorem d_La_law_404 : decode c_La_law 404 = .ok (.iaload, 1) := by decide +kernel
theorem d_La_law_405 : decode c_La_law 405 = .ok (.aload_n 0, 1) := by decide +kernel
theorem d_La_law_406 : decode c_La_law 406 = .ok (.iload 4, 2) := by decide +kernel
theorem d_La_law_408 : decode c_La_law 408 = .ok (.iconst 3, 1) := by decide +kernel
theorem d_La_law_409 : decode c_La_law 409 = .ok (.iadd, 1) := by decide +kernel
theorem d_La_law_410 : decode c_La_law 410 = .ok (.iaload, 1) := by decide +kernel
theorem d_La_law_411 : decode c_La_law 411 = .ok (.aload_n 3, 1) := by decide +kernel
theorem d_La_law_412 : decode c_La_law 412 = .ok (.invokestatic 127, 3) := by decide +kernel
theorem d_La_law_415 : decode c_La_law 415 = .ok (.istore 5, 2) := by decide +kernel
theorem d_La_law_417 : decode c_La_law 417 = .ok (.aload_n 2, 1) := by decide +kernel
theorem d_La_law_418 : decode c_La_law 418 = .ok (.aload_n 0, 1) := by decide +kernel
theorem d_La_law_419 : decode c_La_law 419 = .ok (.iload 4, 2) := by decide +kernel
theorem d_La_law_421 : decode c_La_law 421 = .ok (.iconst 1, 1) := by decide +kernel
theorem d_La_law_422 : decode c_La_law 422 = .ok (.iadd, 1) := by decide +kernel
theorem d_La_law_423 : decode c_La_law 423 = .ok (.iaload, 1) := by decide +kernel
theorem d_La_law_424 : decode c_La_law 424 = .ok (.aload_n 0, 1) := by decide +kernel
theorem d_La_law_425 : decode c_La_law 425 = .ok (.iload 4, 2) := by decide +kernel
theorem d_La_law_427 : decode c_La_law 427 = .ok (.iconst 2, 1) := by decide +kernel
theorem d_La_law_428 : decode c_La_law 428 = .ok (.iadd, 1) := by decide +kernel
theorem d_La_law_429 : decode c_La_law 429 = .ok (.iaload, 1) := by decide +kernel
theorem d_La_law_430 : decode c_La_law 430 = .ok (.aload_n 0, 1) := by decide +kernel
theorem d_La_law_431 : decode c_La_law 431 = .ok (.iload 4, 2) := by decide +kernel
theorem d_La_law_433 : decode c_La_law 433 = .ok (.iconst 3, 1) := by decide +kernel
theorem d_La_law_434 : decode c_La_law 434 = .ok (.iadd, 1) := by decide +kernel
theorem d_La_law_435 : decode c_La_law 435 = .ok (.iaload, 1) := by decide +kernel
theorem d_La_law_436 : decode c_La_law 436 = .ok (.invokevirtual 129, 3) := by decide +kernel
theorem d_La_law_439 : decode c_La_law 439 = .ok (.istore 6, 2) := by decide +kernel
theorem d_La_law_441 : decode c_La_law 441 = .ok (.goto 647, 3) := by decide +kernel
theorem d_La_law_444 : decode c_La_law 444 = .ok (.aload_n 1, 1) := by decide +kernel
theorem d_La_law_445 : decode c_La_law 445 = .ok (.aload_n 0, 1) := by decide +kernel
theorem d_La_law_446 : decode c_La_law 446 = .ok (.iload 4, 2) := by decide +kernel
theorem d_La_law_448 : decode c_La_law 448 = .ok (.iconst 1, 1) := by decide +kernel
theorem d_La_law_449 : decode c_La_law 449 = .ok (.iadd, 1) := by decide +kernel
theorem d_La_law_450 : decode c_La_law 450 = .ok (.iaload, 1) := by decide +kernel
theorem d_La_law_451 : decode c_La_law 451 = .ok (.aload_n 0, 1) := by decide +kernel
theorem d_La_law_452 : decode c_La_law 452 = .ok (.iload 4, 2) := by decide +kernel
theorem d_La_law_454 : decode c_La_law 454 = .ok (.iconst 2, 1) := by decide +kernel
theorem d_La_law_455 : decode c_La_law 455 = .ok (.iadd, 1) := by decide +kernel
theorem d_La_law_456 : decode c_La_law 456 = .ok (.iaload, 1) := by decide +kernel
theorem d_La_law_457 : decode c_La_law 457 = .ok (.aload_n 0, 1) := by decide +kernel
theorem d_La_law_458 : decode c_La_law 458 = .ok (.iload 4, 2) := by decide +kernel
theorem d_La_law_460 : decode c_La_law 460 = .ok (.iconst 3, 1) := by decide +kernel
theorem d_La_law_461 : decode c_La_law 461 = .ok (.iadd, 1) := by decide +kernel
theorem d_La_law_462 : decode c_La_law 462 = .ok (.iaload, 1) := by decide +kernel
theorem d_La_law_463 : decode c_La_law 463 = .ok (.ifCond .eq 7, 3) := by decide +kernel
theorem d_La_law_466 : decode c_La_law 466 = .ok (.iconst 1, 1) := by decide +kernel
theorem d_La_law_467 : decode c_La_law 467 = .ok (.goto 4, 3) := by decide +kernel
theorem d_La_law_470 : decode c_La_law 470 = .ok (.iconst 0, 1) := by decide +kernel
theorem d_La_law_471 : decode c_La_law 471 = .ok (.aload_n 3, 1) := by decide +kernel
theorem d_La_law_472 : decode c_La_law 472 = .ok (.invokestatic 130, 3) := by decide +kernel
theorem d_La_law_475 : decode c_La_law 475 = .ok (.istore 5, 2) := by decide +kernel
theorem d_La_law_477 : decode c_La_law 477 = .ok (.aload_n 2, 1) := by decide +kernel
theorem d_La_law_478 : decode c_La_law 478 = .ok (.aload_n 0, 1) := by decide +kernel
theorem d_La_law_479 : decode c_La_law 479 = .ok (.iload 4, 2) := by decide +kernel
theorem d_La_law_481 : decode c_La_law 481 = .ok (.iconst 1, 1) := by decide +kernel
theorem d_La_law_482 : decode c_La_law 482 = .ok (.iadd, 1) := by decide +kernel
theorem d_La_law_483 : decode c_La_law 483 = .ok (.iaload, 1) := by decide +kernel
theorem d_La_law_484 : decode c_La_law 484 = .ok (.aload_n 0, 1) := by decide +kernel
theorem d_La_law_485 : decode c_La_law 485 = .ok (.iload 4, 2) := by decide +kernel
theorem d_La_law_487 : decode c_La_law 487 = .ok (.iconst 2, 1) := by decide +kernel
theorem d_La_law_488 : decode c_La_law 488 = .ok (.iadd, 1) := by decide +kernel
theorem d_La_law_489 : decode c_La_law 489 = .ok (.iaload, 1) := by decide +kernel
theorem d_La_law_490 : decode c_La_law 490 = .ok (.aload_n 0, 1) := by decide +kernel
theorem d_La_law_491 : decode c_La_law 491 = .ok (.iload 4, 2) := by decide +kernel
theorem d_La_law_493 : decode c_La_law 493 = .ok (.iconst 3, 1) := by decide +kernel
theorem d_La_law_494 : decode c_La_law 494 = .ok (.iadd, 1) := by decide +kernel
theorem d_La_law_495 : decode c_La_law 495 = .ok (.iaload, 1) := by decide +kernel
theorem d_La_law_496 : decode c_La_law 496 = .ok (.ifCond .eq 7, 3) := by decide +kernel
theorem d_La_law_499 : decode c_La_law 499 = .ok (.iconst 1, 1) := by decide +kernel
theorem d_La_law_500 : decode c_La_law 500 = .ok (.goto 4, 3) := by decide +kernel
theorem d_La_law_503 : decode c_La_law 503 = .ok (.iconst 0, 1) := by decide +kernel
theorem d_La_law_504 : decode c_La_law 504 = .ok (.invokevirtual 133, 3) := by decide +kernel
theorem d_La_law_507 : decode c_La_law 507 = .ok (.istore 6, 2) := by decide +kernel
theorem d_La_law_509 : decode c_La_law 509 = .ok (.goto 579, 3) := by decide +kernel
theorem d_La_law_512 : decode c_La_law 512 = .ok (.aload_n 1, 1) := by decide +kernel
theorem d_La_law_513 : decode c_La_law 513 = .ok (.aload_n 0, 1) := by decide +kernel
theorem d_La_law_514 : decode c_La_law 514 = .ok (.iload 4, 2) := by decide +kernel
theorem d_La_law_516 : decode c_La_law 516 = .ok (.iconst 1, 1) := by decide +kernel
theorem d_La_law_517 : decode c_La_law 517 = .ok (.iadd, 1) := by decide +kernel
theorem d_La_law_518 : decode c_La_law 518 = .ok (.iaload, 1) := by decide +kernel
theorem d_La_law_519 : decode c_La_law 519 = .ok (.aload_n 3, 1) := by decide +kernel
theorem d_La_law_520 : decode c_La_law 520 = .ok (.invokestatic 134, 3) := by decide +kernel
theorem d_La_law_523 : decode c_La_law 523 = .ok (.istore 5, 2) := by decide +kernel
theorem d_La_law_525 : decode c_La_law 525 = .ok (.aload_n 2, 1) := by decide +kernel
theorem d_La_law_526 : decode c_La_law 526 = .ok (.aload_n 0, 1) := by decide +kernel
theorem d_La_law_527 : decode c_La_law 527 = .ok (.iload 4, 2) := by decide +kernel
theorem d_La_law_529 : decode c_La_law 529 = .ok (.iconst 1, 1) := by decide +kernel
theorem d_La_law_530 : decode c_La_law 530 = .ok (.iadd, 1) := by decide +kernel
theorem d_La_law_531 : decode c_La_law 531 = .ok (.iaload, 1) := by decide +kernel
theorem d_La_law_532 : decode c_La_law 532 = .ok (.invokevirtual 136, 3) := by decide +kernel
theorem d_La_law_535 : decode c_La_law 535 = .ok (.istore 6, 2) := by decide +kernel
theorem d_La_law_537 : decode c_La_law 537 = .ok (.goto 551, 3) := by decide +kernel
theorem d_La_law_540 : decode c_La_law 540 = .ok (.aload_n 1, 1) := by decide +kernel
theorem d_La_law_541 : decode c_La_law 541 = .ok (.aload_n 0, 1) := by decide +kernel
theorem d_La_law_542 : decode c_La_law 542 = .ok (.iload 4, 2) := by decide +kernel
theorem d_La_law_544 : decode c_La_law 544 = .ok (.iconst 1, 1) := by decide +kernel
theorem d_La_law_545 : decode c_La_law 545 = .ok (.iadd, 1) := by decide +kernel
theorem d_La_law_546 : decode c_La_law 546 = .ok (.iaload, 1) := by decide +kernel
theorem d_La_law_547 : decode c_La_law 547 = .ok (.aload_n 0, 1) := by decide +kernel
theorem d_La_law_548 : decode c_La_law 548 = .ok (.iload 4, 2) := by decide +kernel
theorem d_La_law_550 : decode c_La_law 550 = .ok (.iconst 2, 1) := by decide +kernel
theorem d_La_law_551 : decode c_La_law 551 = .ok (.iadd, 1) := by decide +kernel
theorem d_La_law_552 : decode c_La_law 552 = .ok (.iaload, 1) := by decide +kernel
theorem d_La_law_553 : decode c_La_law 553 = .ok (.aload_n 3, 1) := by decide +kernel
theorem d_La_law_554 : decode c_La_law 554 = .ok (.invokestatic 137, 3) := by decide +kernel
theorem d_La_law_557 : decode c_La_law 557 = .ok (.istore 5, 2) := by decide +kernel
theorem d_La_law_559 : decode c_La_law 559 = .ok (.aload_n 2, 1) := by decide +kernel
theorem d_La_law_560 : decode c_La_law 560 = .ok (.aload_n 0, 1) := by decide +kernel
theorem d_La_law_561 : decode c_La_law 561 = .ok (.iload 4, 2) := by decide +kernel
theorem d_La_law_563 : decode c_La_law 563 = .ok (.iconst 1, 1) := by decide +kernel
theorem d_La_law_564 : decode c_La_law 564 = .ok (.iadd, 1) := by decide +kernel
theorem d_La_law_565 : decode c_La_law 565 = .ok (.iaload, 1) := by decide +kernel
theorem d_La_law_566 : decode c_La_law 566 = .ok (.aload_n 0, 1) := by decide +kernel
theorem d_La_law_567 : decode c_La_law 567 = .ok (.iload 4, 2) := by decide +kernel
theorem d_La_law_569 : decode c_La_law 569 = .ok (.iconst 2, 1) := by decide +kernel
theorem d_La_law_570 : decode c_La_law 570 = .ok (.iadd, 1) := by decide +kernel
theorem d_La_law_571 : decode c_La_law 571 = .ok (.iaload, 1) := by decide +kernel
theorem d_La_law_572 : decode c_La_law 572 = .ok (.invokevirtual 139, 3) := by decide +kernel
theorem d_La_law_575 : decode c_La_law 575 = .ok (.istore 6, 2) := by decide +kernel
theorem d_La_law_577 : decode c_La_law 577 = .ok (.goto 511, 3) := by decide +kernel
theorem d_La_law_580 : decode c_La_law 580 = .ok (.aload_n 1, 1) := by decide +kernel
theorem d_La_law_581 : decode c_La_law 581 = .ok (.invokevirtual 140, 3) := by decide +kernel
theorem d_La_law_584 : decode c_La_law 584 = .ok (.pop, 1) := by decide +kernel
theorem d_La_law_585 : decode c_La_law 585 = .ok (.aload_n 2, 1) := by decide +kernel
theorem d_La_law_586 : decode c_La_law 586 = .ok (.invokevirtual 144, 3) := by decide +kernel
theorem d_La_law_589 : decode c_La_law 589 = .ok (.pop, 1) := by decide +kernel
theorem d_La_law_590 : decode c_La_law 590 = .ok (.goto 498, 3) := by decide +kernel
theorem d_La_law_593 : decode c_La_law 593 = .ok (.aload_n 1, 1) := by decide +kernel
theorem d_La_law_594 : decode c_La_law 594 = .ok (.aload_n 0, 1) := by decide +kernel
theorem d_La_law_595 : decode c_La_law 595 = .ok (.iload 4, 2) := by decide +kernel
theorem d_La_law_597 : decode c_La_law 597 = .ok (.iconst 1, 1) := by decide +kernel
theorem d_La_law_598 : decode c_La_law 598 = .ok (.iadd, 1) := by decide +kernel
theorem d_La_law_599 : decode c_La_law 599 = .ok (.iaload, 1) := by decide +kernel
theorem d_La_law_600 : decode c_La_law 600 = .ok (.aload_n 0, 1) := by decide +kernel
theorem d_La_law_601 : decode c_La_law 601 = .ok (.iload 4, 2) := by decide +kernel
theorem d_La_law_603 : decode c_La_law 603 = .ok (.iconst 2, 1) := by decide +kernel
theorem d_La_law_604 : decode c_La_law 604 = .ok (.iadd, 1) := by decide +kernel
theorem d_La_law_605 : decode c_La_law 605 = .ok (.iaload, 1) := by decide +kernel
theorem d_La_law_606 : decode c_La_law 606 = .ok (.aload_n 3, 1) := by decide +kernel
theorem d_La_law_607 : decode c_La_law 607 = .ok (.invokestatic 145, 3) := by decide +kernel
theorem d_La_law_610 : decode c_La_law 610 = .ok (.istore 5, 2) := by decide +kernel
theorem d_La_law_612 : decode c_La_law 612 = .ok (.aload_n 2, 1) := by decide +kernel
theorem d_La_law_613 : decode c_La_law 613 = .ok (.aload_n 0, 1) := by decide +kernel
theorem d_La_law_614 : decode c_La_law 614 = .ok (.iload 4, 2) := by decide +kernel
theorem d_La_law_616 : decode c_La_law 616 = .ok (.iconst 1, 1) := by decide +kernel
theorem d_La_law_617 : decode c_La_law 617 = .ok (.iadd, 1) := by decide +kernel
theorem d_La_law_618 : decode c_La_law 618 = .ok (.iaload, 1) := by decide +kernel
theorem d_La_law_619 : decode c_La_law 619 = .ok (.aload_n 0, 1) := by decide +kernel
theorem d_La_law_620 : decode c_La_law 620 = .ok (.iload 4, 2) := by decide +kernel
theorem d_La_law_622 : decode c_La_law 622 = .ok (.iconst 2, 1) := by decide +kernel
theorem d_La_law_623 : decode c_La_law 623 = .ok (.iadd, 1) := by decide +kernel
theorem d_La_law_624 : decode c_La_law 624 = .ok (.iaload, 1) := by decide +kernel
theorem d_La_law_625 : decode c_La_law 625 = .ok (.invokevirtual 147, 3) := by decide +kernel
theorem d_La_law_628 : decode c_La_law 628 = .ok (.istore 6, 2) := by decide +kernel
theorem d_La_law_630 : decode c_La_law 630 = .ok (.goto 458, 3) := by decide +kernel
theorem d_La_law_633 : decode c_La_law 633 = .ok (.aload_n 1, 1) := by decide +kernel
theorem d_La_law_634 : decode c_La_law 634 = .ok (.aload_n 0, 1) := by decide +kernel
theorem d_La_law_635 : decode c_La_law 635 = .ok (.iload 4, 2) := by decide +kernel
theorem d_La_law_637 : decode c_La_law 637 = .ok (.iconst 1, 1) := by decide +kernel
theorem d_La_law_638 : decode c_La_law 638 = .ok (.iadd, 1) := by decide +kernel
theorem d_La_law_639 : decode c_La_law 639 = .ok (.iaload, 1) := by decide +kernel
theorem d_La_law_640 : decode c_La_law 640 = .ok (.aload_n 0, 1) := by decide +kernel
theorem d_La_law_641 : decode c_La_law 641 = .ok (.iload 4, 2) := by decide +kernel
theorem d_La_law_643 : decode c_La_law 643 = .ok (.iconst 2, 1) := by decide +kernel
theorem d_La_law_644 : decode c_La_law 644 = .ok (.iadd, 1) := by decide +kernel
theorem d_La_law_645 : decode c_La_law 645 = .ok (.iaload, 1) := by decide +kernel
theorem d_La_law_646 : decode c_La_law 646 = .ok (.aload_n 3, 1) := by decide +kernel
theorem d_La_law_647 : decode c_La_law 647 = .ok (.invokestatic 148, 3) := by decide +kernel
theorem d_La_law_650 : decode c_La_law 650 = .ok (.istore 5, 2) := by decide +kernel
theorem d_La_law_652 : decode c_La_law 652 = .ok (.aload_n 2, 1) := by decide +kernel
theorem d_La_law_653 : decode c_La_law 653 = .ok (.aload_n 0, 1) := by decide +kernel
theorem d_La_law_654 : decode c_La_law 654 = .ok (.iload 4, 2) := by decide +kernel
theorem d_La_law_656 : decode c_La_law 656 = .ok (.iconst 1, 1) := by decide +kernel
theorem d_La_law_657 : decode c_La_law 657 = .ok (.iadd, 1) := by decide +kernel
theorem d_La_law_658 : decode c_La_law 658 = .ok (.iaload, 1) := by decide +kernel
theorem d_La_law_659 : decode c_La_law 659 = .ok (.aload_n 0, 1) := by decide +kernel
theorem d_La_law_660 : decode c_La_law 660 = .ok (.iload 4, 2) := by decide +kernel
theorem d_La_law_662 : decode c_La_law 662 = .ok (.iconst 2, 1) := by decide +kernel
theorem d_La_law_663 : decode c_La_law 663 = .ok (.iadd, 1) := by decide +kernel
theorem d_La_law_664 : decode c_La_law 664 = .ok (.iaload, 1) := by decide +kernel
theorem d_La_law_665 : decode c_La_law 665 = .ok (.invokevirtual 150, 3) := by decide +kernel
theorem d_La_law_668 : decode c_La_law 668 = .ok (.istore 6, 2) := by decide +kernel
theorem d_La_law_670 : decode c_La_law 670 = .ok (.goto 418, 3) := by decide +kernel
theorem d_La_law_673 : decode c_La_law 673 = .ok (.aload_n 1, 1) := by decide +kernel
theorem d_La_law_674 : decode c_La_law 674 = .ok (.aload_n 0, 1) := by decide +kernel
theorem d_La_law_675 : decode c_La_law 675 = .ok (.iload 4, 2) := by decide +kernel
theorem d_La_law_677 : decode c_La_law 677 = .ok (.iconst 1, 1) := by decide +kernel
theorem d_La_law_678 : decode c_La_law 678 = .ok (.iadd, 1) := by decide +kernel
theorem d_La_law_679 : decode c_La_law 679 = .ok (.iaload, 1) := by decide +kernel
theorem d_La_law_680 : decode c_La_law 680 = .ok (.aload_n 0, 1) := by decide +kernel
theorem d_La_law_681 : decode c_La_law 681 = .ok (.iload 4, 2) := by decide +kernel
theorem d_La_law_683 : decode c_La_law 683 = .ok (.iconst 2, 1) := by decide +kernel
theorem d_La_law_684 : decode c_La_law 684 = .ok (.iadd, 1) := by decide +kernel
theorem d_La_law_685 : decode c_La_law 685 = .ok (.iaload, 1) := by decide +kernel
theorem d_La_law_686 : decode c_La_law 686 = .ok (.aload_n 0, 1) := by decide +kernel
theorem d_La_law_687 : decode c_La_law 687 = .ok (.iload 4, 2) := by decide +kernel
theorem d_La_law_689 : decode c_La_law 689 = .ok (.iconst 3, 1) := by decide +kernel
theorem d_La_law_690 : decode c_La_law 690 = .ok (.iadd, 1) := by decide +kernel
theorem d_La_law_691 : decode c_La_law 691 = .ok (.iaload, 1) := by decide +kernel
theorem d_La_law_692 : decode c_La_law 692 = .ok (.aload_n 3, 1) := by decide +kernel
theorem d_La_law_693 : decode c_La_law 693 = .ok (.invokestatic 151, 3) := by decide +kernel
theorem d_La_law_696 : decode c_La_law 696 = .ok (.istore 5, 2) := by decide +kernel
theorem d_La_law_698 : decode c_La_law 698 = .ok (.aload_n 2, 1) := by decide +kernel
theorem d_La_law_699 : decode c_La_law 699 = .ok (.aload_n 0, 1) := by decide +kernel
theorem d_La_law_700 : decode c_La_law 700 = .ok (.iload 4, 2) := by decide +kernel
theorem d_La_law_702 : decode c_La_law 702 = .ok (.iconst 1, 1) := by decide +kernel
theorem d_La_law_703 : decode c_La_law 703 = .ok (.iadd, 1) := by decide +kernel
theorem d_La_law_704 : decode c_La_law 704 = .ok (.iaload, 1) := by decide +kernel
theorem d_La_law_705 : decode c_La_law 705 = .ok (.aload_n 0, 1) := by decide +kernel
theorem d_La_law_706 : decode c_La_law 706 = .ok (.iload 4, 2) := by decide +kernel
theorem d_La_law_708 : decode c_La_law 708 = .ok (.iconst 2, 1) := by decide +kernel
theorem d_La_law_709 : decode c_La_law 709 = .ok (.iadd, 1) := by decide +kernel
theorem d_La_law_710 : decode c_La_law 710 = .ok (.iaload, 1) := by decide +kernel
theorem d_La_law_711 : decode c_La_law 711 = .ok (.aload_n 0, 1) := by decide +kernel
theorem d_La_law_712 : decode c_La_law 712 = .ok (.iload 4, 2) := by decide +kernel
theorem d_La_law_714 : decode c_La_law 714 = .ok (.iconst 3, 1) := by decide +kernel
theorem d_La_law_715 : decode c_La_law 715 = .ok (.iadd, 1) := by decide +kernel
theorem d_La_law_716 : decode c_La_law 716 = .ok (.iaload, 1) := by decide +kernel
theorem d_La_law_717 : decode c_La_law 717 = .ok (.invokevirtual 153, 3) := by decide +kernel
theorem d_La_law_720 : decode c_La_law 720 = .ok (.istore 6, 2) := by decide +kernel
theorem d_La_law_722 : decode c_La_law 722 = .ok (.goto 366, 3) := by decide +kernel
theorem d_La_law_725 : decode c_La_law 725 = .ok (.aload_n 1, 1) := by decide +kernel
theorem d_La_law_726 : decode c_La_law 726 = .ok (.aload_n 0, 1) := by decide +kernel
theorem d_La_law_727 : decode c_La_law 727 = .ok (.iload 4, 2) := by decide +kernel
theorem d_La_law_729 : decode c_La_law 729 = .ok (.iconst 1, 1) := by decide +kernel
theorem d_La_law_730 : decode c_La_law 730 = .ok (.iadd, 1) := by decide +kernel
theorem d_La_law_731 : decode c_La_law 731 = .ok (.iaload, 1) := by decide +kernel
theorem d_La_law_732 : decode c_La_law 732 = .ok (.aload_n 3, 1) := by decide +kernel
theorem d_La_law_733 : decode c_La_law 733 = .ok (.invokestatic 154, 3) := by decide +kernel
theorem d_La_law_736 : decode c_La_law 736 = .ok (.istore 5, 2) := by decide +kernel
theorem d_La_law_738 : decode c_La_law 738 = .ok (.aload_n 2, 1) := by decide +kernel
theorem d_La_law_739 : decode c_La_law 739 = .ok (.aload_n 0, 1) := by decide +kernel
theorem d_La_law_740 : decode c_La_law 740 = .ok (.iload 4, 2) := by decide +kernel
theorem d_La_law_742 : decode c_La_law 742 = .ok (.iconst 1, 1) := by decide +kernel
theorem d_La_law_743 : decode c_La_law 743 = .ok (.iadd, 1) := by decide +kernel
theorem d_La_law_744 : decode c_La_law 744 = .ok (.iaload, 1) := by decide +kernel
theorem d_La_law_745 : decode c_La_law 745 = .ok (.invokevirtual 156, 3) := by decide +kernel
theorem d_La_law_748 : decode c_La_law 748 = .ok (.istore 6, 2) := by decide +kernel
theorem d_La_law_750 : decode c_La_law 750 = .ok (.goto 338, 3) := by decide +kernel
theorem d_La_law_753 : decode c_La_law 753 = .ok (.aload_n 1, 1) := by decide +kernel
theorem d_La_law_754 : decode c_La_law 754 = .ok (.aload_n 0, 1) := by decide +kernel
theorem d_La_law_755 : decode c_La_law 755 = .ok (.iload 4, 2) := by decide +kernel
theorem d_La_law_757 : decode c_La_law 757 = .ok (.iconst 1, 1) := by decide +kernel
theorem d_La_law_758 : decode c_La_law 758 = .ok (.iadd, 1) := by decide +kernel
theorem d_La_law_759 : decode c_La_law 759 = .ok (.iaload, 1) := by decide +kernel
theorem d_La_law_760 : decode c_La_law 760 = .ok (.aload_n 0, 1) := by decide +kernel
theorem d_La_law_761 : decode c_La_law 761 = .ok (.iload 4, 2) := by decide +kernel
theorem d_La_law_763 : decode c_La_law 763 = .ok (.iconst 2, 1) := by decide +kernel
theorem d_La_law_764 : decode c_La_law 764 = .ok (.iadd, 1) := by decide +kernel
theorem d_La_law_765 : decode c_La_law 765 = .ok (.iaload, 1) := by decide +kernel
theorem d_La_law_766 : decode c_La_law 766 = .ok (.aload_n 3, 1) := by decide +kernel
theorem d_La_law_767 : decode c_La_law 767 = .ok (.invokestatic 157, 3) := by decide +kernel
theorem d_La_law_770 : decode c_La_law 770 = .ok (.istore 5, 2) := by decide +kernel
theorem d_La_law_772 : decode c_La_law 772 = .ok (.aload_n 2, 1) := by decide +kernel
theorem d_La_law_773 : decode c_La_law 773 = .ok (.aload_n 0, 1) := by decide +kernel
theorem d_La_law_774 : decode c_La_law 774 = .ok (.iload 4, 2) := by decide +kernel
theorem d_La_law_776 : decode c_La_law 776 = .ok (.iconst 1, 1) := by decide +kernel
theorem d_La_law_777 : decode c_La_law 777 = .ok (.iadd, 1) := by decide +kernel
theorem d_La_law_778 : decode c_La_law 778 = .ok (.iaload, 1) := by decide +kernel
theorem d_La_law_779 : decode c_La_law 779 = .ok (.aload_n 0, 1) := by decide +kernel
theorem d_La_law_780 : decode c_La_law 780 = .ok (.iload 4, 2) := by decide +kernel
theorem d_La_law_782 : decode c_La_law 782 = .ok (.iconst 2, 1) := by decide +kernel
theorem d_La_law_783 : decode c_La_law 783 = .ok (.iadd, 1) := by decide +kernel
theorem d_La_law_784 : decode c_La_law 784 = .ok (.iaload, 1) := by decide +kernel
theorem d_La_law_785 : decode c_La_law 785 = .ok (.invokevirtual 159, 3) := by decide +kernel
theorem d_La_law_788 : decode c_La_law 788 = .ok (.istore 6, 2) := by decide +kernel
theorem d_La_law_790 : decode c_La_law 790 = .ok (.goto 298, 3) := by decide +kernel
theorem d_La_law_793 : decode c_La_law 793 = .ok (.aload_n 1, 1) := by decide +kernel
theorem d_La_law_794 : decode c_La_law 794 = .ok (.aload_n 0, 1) := by decide +kernel
theorem d_La_law_795 : decode c_La_law 795 = .ok (.iload 4, 2) := by decide +kernel
theorem d_La_law_797 : decode c_La_law 797 = .ok (.iconst 1, 1) := by decide +kernel
theorem d_La_law_798 : decode c_La_law 798 = .ok (.iadd, 1) := by decide +kernel
theorem d_La_law_799 : decode c_La_law 799 = .ok (.iaload, 1) := by decide +kernel
theorem d_La_law_800 : decode c_La_law 800 = .ok (.aload_n 0, 1) := by decide +kernel
theorem d_La_law_801 : decode c_La_law 801 = .ok (.iload 4, 2) := by decide +kernel
theorem d_La_law_803 : decode c_La_law 803 = .ok (.iconst 2, 1) := by decide +kernel
theorem d_La_law_804 : decode c_La_law 804 = .ok (.iadd, 1) := by decide +kernel
theorem d_La_law_805 : decode c_La_law 805 = .ok (.iaload, 1) := by decide +kernel
theorem d_La_law_806 : decode c_La_law 806 = .ok (.aload_n 3, 1) := by decide +kernel
theorem d_La_law_807 : decode c_La_law 807 = .ok (.invokestatic 160, 3) := by decide +kernel
theorem d_La_law_810 : decode c_La_law 810 = .ok (.istore 5, 2) := by decide +kernel
theorem d_La_law_812 : decode c_La_law 812 = .ok (.aload_n 2, 1) := by decide +kernel
theorem d_La_law_813 : decode c_La_law 813 = .ok (.aload_n 0, 1) := by decide +kernel
theorem d_La_law_814 : decode c_La_law 814 = .ok (.iload 4, 2) := by decide +kernel
theorem d_La_law_816 : decode c_La_law 816 = .ok (.iconst 1, 1) := by decide +kernel
theorem d_La_law_817 : decode c_La_law 817 = .ok (.iadd, 1) := by decide +kernel
theorem d_La_law_818 : decode c_La_law 818 = .ok (.iaload, 1) := by decide +kernel
theorem d_La_law_819 : decode c_La_law 819 = .ok (.aload_n 0, 1) := by decide +kernel
theorem d_La_law_820 : decode c_La_law 820 = .ok (.iload 4, 2) := by decide +kernel
theorem d_La_law_822 : decode c_La_law 822 = .ok (.iconst 2, 1) := by decide +kernel
theorem d_La_law_823 : decode c_La_law 823 = .ok (.iadd, 1) := by decide +kernel
theorem d_La_law_824 : decode c_La_law 824 = .ok (.iaload, 1) := by decide +kernel
theorem d_La_law_825 : decode c_La_law 825 = .ok (.invokevirtual 162, 3) := by decide +kernel
theorem d_La_law_828 : decode c_La_law 828 = .ok (.istore 6, 2) := by decide +kernel
theorem d_La_law_830 : decode c_La_law 830 = .ok (.goto 258, 3) := by decide +kernel
theorem d_La_law_833 : decode c_La_law 833 = .ok (.aload_n 1, 1) := by decide +kernel
theorem d_La_law_834 : decode c_La_law 834 = .ok (.aload_n 0, 1) := by decide +kernel
theorem d_La_law_835 : decode c_La_law 835 = .ok (.iload 4, 2) := by decide +kernel
theorem d_La_law_837 : decode c_La_law 837 = .ok (.iconst 1, 1) := by decide +kernel
theorem d_La_law_838 : decode c_La_law 838 = .ok (.iadd, 1) := by decide +kernel
theorem d_La_law_839 : decode c_La_law 839 = .ok (.iaload, 1) := by decide +kernel
theorem d_La_law_840 : decode c_La_law 840 = .ok (.aload_n 3, 1) := by decide +kernel
theorem d_La_law_841 : decode c_La_law 841 = .ok (.invokestatic 163, 3) := by decide +kernel
theorem d_La_law_844 : decode c_La_law 844 = .ok (.istore 5, 2) := by decide +kernel
theorem d_La_law_846 : decode c_La_law 846 = .ok (.aload_n 2, 1) := by decide +kernel
theorem d_La_law_847 : decode c_La_law 847 = .ok (.aload_n 0, 1) := by decide +kernel
theorem d_La_law_848 : decode c_La_law 848 = .ok (.iload 4, 2) := by decide +kernel
theorem d_La_law_850 : decode c_La_law 850 = .ok (.iconst 1, 1) := by decide +kernel
theorem d_La_law_851 : decode c_La_law 851 = .ok (.iadd, 1) := by decide +kernel
theorem d_La_law_852 : decode c_La_law 852 = .ok (.iaload, 1) := by decide +kernel
theorem d_La_law_853 : decode c_La_law 853 = .ok (.invokevirtual 165, 3) := by decide +kernel
theorem d_La_law_856 : decode c_La_law 856 = .ok (.astore 6, 2) := by decide +kernel
theorem d_La_law_858 : decode c_La_law 858 = .ok (.goto 230, 3) := by decide +kernel
theorem d_La_law_861 : decode c_La_law 861 = .ok (.aload_n 1, 1) := by decide +kernel
theorem d_La_law_862 : decode c_La_law 862 = .ok (.aload_n 0, 1) := by decide +kernel
theorem d_La_law_863 : decode c_La_law 863 = .ok (.iload 4, 2) := by decide +kernel
theorem d_La_law_865 : decode c_La_law 865 = .ok (.iconst 1, 1) := by decide +kernel
theorem d_La_law_866 : decode c_La_law 866 = .ok (.iadd, 1) := by decide +kernel
theorem d_La_law_867 : decode c_La_law 867 = .ok (.iaload, 1) := by decide +kernel
theorem d_La_law_868 : decode c_La_law 868 = .ok (.aload_n 0, 1) := by decide +kernel
theorem d_La_law_869 : decode c_La_law 869 = .ok (.iload 4, 2) := by decide +kernel
theorem d_La_law_871 : decode c_La_law 871 = .ok (.iconst 2, 1) := by decide +kernel
theorem d_La_law_872 : decode c_La_law 872 = .ok (.iadd, 1) := by decide +kernel
theorem d_La_law_873 : decode c_La_law 873 = .ok (.iaload, 1) := by decide +kernel
theorem d_La_law_874 : decode c_La_law 874 = .ok (.aload_n 0, 1) := by decide +kernel
theorem d_La_law_875 : decode c_La_law 875 = .ok (.iload 4, 2) := by decide +kernel
theorem d_La_law_877 : decode c_La_law 877 = .ok (.iconst 3, 1) := by decide +kernel
theorem d_La_law_878 : decode c_La_law 878 = .ok (.iadd, 1) := by decide +kernel
theorem d_La_law_879 : decode c_La_law 879 = .ok (.iaload, 1) := by decide +kernel
theorem d_La_law_880 : decode c_La_law 880 = .ok (.aload_n 3, 1) := by decide +kernel
theorem d_La_law_881 : decode c_La_law 881 = .ok (.invokestatic 166, 3) := by decide +kernel
theorem d_La_law_884 : decode c_La_law 884 = .ok (.istore 5, 2) := by decide +kernel
theorem d_La_law_886 : decode c_La_law 886 = .ok (.aload_n 2, 1) := by decide +kernel
theorem d_La_law_887 : decode c_La_law 887 = .ok (.aload_n 0, 1) := by decide +kernel
theorem d_La_law_888 : decode c_La_law 888 = .ok (.iload 4, 2) := by decide +kernel
theorem d_La_law_890 : decode c_La_law 890 = .ok (.iconst 1, 1) := by decide +kernel
theorem d_La_law_891 : decode c_La_law 891 = .ok (.iadd, 1) := by decide +kernel
theorem d_La_law_892 : decode c_La_law 892 = .ok (.iaload, 1) := by decide +kernel
theorem d_La_law_893 : decode c_La_law 893 = .ok (.aload_n 0, 1) := by decide +kernel
theorem d_La_law_894 : decode c_La_law 894 = .ok (.iload 4, 2) := by decide +kernel
theorem d_La_law_896 : decode c_La_law 896 = .ok (.iconst 2, 1) := by decide +kernel
theorem d_La_law_897 : decode c_La_law 897 = .ok (.iadd, 1) := by decide +kernel
theorem d_La_law_898 : decode c_La_law 898 = .ok (.iaload, 1) := by decide +kernel
theorem d_La_law_899 : decode c_La_law 899 = .ok (.aload_n 0, 1) := by decide +kernel
theorem d_La_law_900 : decode c_La_law 900 = .ok (.iload 4, 2) := by decide +kernel
theorem d_La_law_902 : decode c_La_law 902 = .ok (.iconst 3, 1) := by decide +kernel
theorem d_La_law_903 : decode c_La_law 903 = .ok (.iadd, 1) := by decide +kernel
theorem d_La_law_904 : decode c_La_law 904 = .ok (.iaload, 1) := by decide +kernel
theorem d_La_law_905 : decode c_La_law 905 = .ok (.invokevirtual 168, 3) := by decide +kernel
theorem d_La_law_908 : decode c_La_law 908 = .ok (.istore 6, 2) := by decide +kernel
theorem d_La_law_910 : decode c_La_law 910 = .ok (.goto 178, 3) := by decide +kernel
theorem d_La_law_913 : decode c_La_law 913 = .ok (.aload_n 1, 1) := by decide +kernel
theorem d_La_law_914 : decode c_La_law 914 = .ok (.aload_n 0, 1) := by decide +kernel
theorem d_La_law_915 : decode c_La_law 915 = .ok (.iload 4, 2) := by decide +kernel
theorem d_La_law_917 : decode c_La_law 917 = .ok (.iconst 1, 1) := by decide +kernel
theorem d_La_law_918 : decode c_La_law 918 = .ok (.iadd, 1) := by decide +kernel
theorem d_La_law_919 : decode c_La_law 919 = .ok (.iaload, 1) := by decide +kernel
theorem d_La_law_920 : decode c_La_law 920 = .ok (.aload_n 0, 1) := by decide +kernel
theorem d_La_law_921 : decode c_La_law 921 = .ok (.iload 4, 2) := by decide +kernel
theorem d_La_law_923 : decode c_La_law 923 = .ok (.iconst 2, 1) := by decide +kernel
theorem d_La_law_924 : decode c_La_law 924 = .ok (.iadd, 1) := by decide +kernel
theorem d_La_law_925 : decode c_La_law 925 = .ok (.iaload, 1) := by decide +kernel
theorem d_La_law_926 : decode c_La_law 926 = .ok (.aload_n 0, 1) := by decide +kernel
theorem d_La_law_927 : decode c_La_law 927 = .ok (.iload 4, 2) := by decide +kernel
theorem d_La_law_929 : decode c_La_law 929 = .ok (.iconst 3, 1) := by decide +kernel
theorem d_La_law_930 : decode c_La_law 930 = .ok (.iadd, 1) := by decide +kernel
theorem d_La_law_931 : decode c_La_law 931 = .ok (.iaload, 1) := by decide +kernel
theorem d_La_law_932 : decode c_La_law 932 = .ok (.aload_n 3, 1) := by decide +kernel
theorem d_La_law_933 : decode c_La_law 933 = .ok (.invokestatic 169, 3) := by decide +kernel
theorem d_La_law_936 : decode c_La_law 936 = .ok (.istore 5, 2) := by decide +kernel
theorem d_La_law_938 : decode c_La_law 938 = .ok (.aload_n 2, 1) := by decide +kernel
theorem d_La_law_939 : decode c_La_law 939 = .ok (.aload_n 0, 1) := by decide +kernel
theorem d_La_law_940 : decode c_La_law 940 = .ok (.iload 4, 2) := by decide +kernel
theorem d_La_law_942 : decode c_La_law 942 = .ok (.iconst 1, 1) := by decide +kernel
theorem d_La_law_943 : decode c_La_law 943 = .ok (.iadd, 1) := by decide +kernel
theorem d_La_law_944 : decode c_La_law 944 = .ok (.iaload, 1) := by decide +kernel
theorem d_La_law_945 : decode c_La_law 945 = .ok (.aload_n 0, 1) := by decide +kernel
theorem d_La_law_946 : decode c_La_law 946 = .ok (.iload 4, 2) := by decide +kernel
theorem d_La_law_948 : decode c_La_law 948 = .ok (.iconst 2, 1) := by decide +kernel
theorem d_La_law_949 : decode c_La_law 949 = .ok (.iadd, 1) := by decide +kernel
theorem d_La_law_950 : decode c_La_law 950 = .ok (.iaload, 1) := by decide +kernel
theorem d_La_law_951 : decode c_La_law 951 = .ok (.aload_n 0, 1) := by decide +kernel
theorem d_La_law_952 : decode c_La_law 952 = .ok (.iload 4, 2) := by decide +kernel
theorem d_La_law_954 : decode c_La_law 954 = .ok (.iconst 3, 1) := by decide +kernel
theorem d_La_law_955 : decode c_La_law 955 = .ok (.iadd, 1) := by decide +kernel
theorem d_La_law_956 : decode c_La_law 956 = .ok (.iaload, 1) := by decide +kernel
theorem d_La_law_957 : decode c_La_law 957 = .ok (.invokevirtual 171, 3) := by decide +kernel
theorem d_La_law_960 : decode c_La_law 960 = .ok (.istore 6, 2) := by decide +kernel
theorem d_La_law_962 : decode c_La_law 962 = .ok (.goto 126, 3) := by decide +kernel
theorem d_La_law_965 : decode c_La_law 965 = .ok (.aload_n 1, 1) := by decide +kernel
theorem d_La_law_966 : decode c_La_law 966 = .ok (.aload_n 0, 1) := by decide +kernel
theorem d_La_law_967 : decode c_La_law 967 = .ok (.iload 4, 2) := by decide +kernel
theorem d_La_law_969 : decode c_La_law 969 = .ok (.iconst 1, 1) := by decide +kernel
theorem d_La_law_970 : decode c_La_law 970 = .ok (.iadd, 1) := by decide +kernel
theorem d_La_law_971 : decode c_La_law 971 = .ok (.iaload, 1) := by decide +kernel
theorem d_La_law_972 : decode c_La_law 972 = .ok (.aload_n 3, 1) := by decide +kernel
theorem d_La_law_973 : decode c_La_law 973 = .ok (.invokestatic 172, 3) := by decide +kernel
theorem d_La_law_976 : decode c_La_law 976 = .ok (.istore 5, 2) := by decide +kernel
theorem d_La_law_978 : decode c_La_law 978 = .ok (.aload_n 2, 1) := by decide +kernel
theorem d_La_law_979 : decode c_La_law 979 = .ok (.aload_n 0, 1) := by decide +kernel
theorem d_La_law_980 : decode c_La_law 980 = .ok (.iload 4, 2) := by decide +kernel
theorem d_La_law_982 : decode c_La_law 982 = .ok (.iconst 1, 1) := by decide +kernel
theorem d_La_law_983 : decode c_La_law 983 = .ok (.iadd, 1) := by decide +kernel
theorem d_La_law_984 : decode c_La_law 984 = .ok (.iaload, 1) := by decide +kernel
theorem d_La_law_985 : decode c_La_law 985 = .ok (.invokevirtual 174, 3) := by decide +kernel
theorem d_La_law_988 : decode c_La_law 988 = .ok (.dstore 6, 2) := by decide +kernel
theorem d_La_law_990 : decode c_La_law 990 = .ok (.goto 98, 3) := by decide +kernel
theorem d_La_law_993 : decode c_La_law 993 = .ok (.aload_n 1, 1) := by decide +kernel
theorem d_La_law_994 : decode c_La_law 994 = .ok (.aload_n 0, 1) := by decide +kernel
theorem d_La_law_995 : decode c_La_law 995 = .ok (.iload 4, 2) := by decide +kernel
theorem d_La_law_997 : decode c_La_law 997 = .ok (.iconst 1, 1) := by decide +kernel
theorem d_La_law_998 : decode c_La_law 998 = .ok (.iadd, 1) := by decide +kernel
theorem d_La_law_999 : decode c_La_law 999 = .ok (.iaload, 1) := by decide +kernel
theorem d_La_law_1000 : decode c_La_law 1000 = .ok (.aload_n 3, 1) := by decide +kernel
theorem d_La_law_1001 : decode c_La_law 1001 = .ok (.invokestatic 175, 3) := by decide +kernel
theorem d_La_law_1004 : decode c_La_law 1004 = .ok (.istore 5, 2) := by decide +kernel
theorem d_La_law_1006 : decode c_La_law 1006 = .ok (.aload_n 2, 1) := by decide +kernel
theorem d_La_law_1007 : decode c_La_law 1007 = .ok (.aload_n 0, 1) := by decide +kernel
theorem d_La_law_1008 : decode c_La_law 1008 = .ok (.iload 4, 2) := by decide +kernel
theorem d_La_law_1010 : decode c_La_law 1010 = .ok (.iconst 1, 1) := by decide +kernel
theorem d_La_law_1011 : decode c_La_law 1011 = .ok (.iadd, 1) := by decide +kernel
theorem d_La_law_1012 : decode c_La_law 1012 = .ok (.iaload, 1) := by decide +kernel
theorem d_La_law_1013 : decode c_La_law 1013 = .ok (.invokevirtual 177, 3) := by decide +kernel
theorem d_La_law_1016 : decode c_La_law 1016 = .ok (.istore 6, 2) := by decide +kernel
theorem d_La_law_1018 : decode c_La_law 1018 = .ok (.goto 70, 3) := by decide +kernel
theorem d_La_law_1021 : decode c_La_law 1021 = .ok (.aload_n 1, 1) := by decide +kernel
theorem d_La_law_1022 : decode c_La_law 1022 = .ok (.aload_n 0, 1) := by decide +kernel
theorem d_La_law_1023 : decode c_La_law 1023 = .ok (.iload 4, 2) := by decide +kernel
theorem d_La_law_1025 : decode c_La_law 1025 = .ok (.iconst 1, 1) := by decide +kernel
theorem d_La_law_1026 : decode c_La_law 1026 = .ok (.iadd, 1) := by decide +kernel
theorem d_La_law_1027 : decode c_La_law 1027 = .ok (.iaload, 1) := by decide +kernel
theorem d_La_law_1028 : decode c_La_law 1028 = .ok (.aload_n 0, 1) := by decide +kernel
theorem d_La_law_1029 : decode c_La_law 1029 = .ok (.iload 4, 2) := by decide +kernel
theorem d_La_law_1031 : decode c_La_law 1031 = .ok (.iconst 2, 1) := by decide +kernel
theorem d_La_law_1032 : decode c_La_law 1032 = .ok (.iadd, 1) := by decide +kernel
theorem d_La_law_1033 : decode c_La_law 1033 = .ok (.iaload, 1) := by decide +kernel
theorem d_La_law_1034 : decode c_La_law 1034 = .ok (.aload_n 3, 1) := by decide +kernel
theorem d_La_law_1035 : decode c_La_law 1035 = .ok (.invokestatic 178, 3) := by decide +kernel
theorem d_La_law_1038 : decode c_La_law 1038 = .ok (.istore 5, 2) := by decide +kernel
theorem d_La_law_1040 : decode c_La_law 1040 = .ok (.aload_n 2, 1) := by decide +kernel
theorem d_La_law_1041 : decode c_La_law 1041 = .ok (.aload_n 0, 1) := by decide +kernel
theorem d_La_law_1042 : decode c_La_law 1042 = .ok (.iload 4, 2) := by decide +kernel
theorem d_La_law_1044 : decode c_La_law 1044 = .ok (.iconst 1, 1) := by decide +kernel
theorem d_La_law_1045 : decode c_La_law 1045 = .ok (.iadd, 1) := by decide +kernel
theorem d_La_law_1046 : decode c_La_law 1046 = .ok (.iaload, 1) := by decide +kernel
theorem d_La_law_1047 : decode c_La_law 1047 = .ok (.aload_n 0, 1) := by decide +kernel
theorem d_La_law_1048 : decode c_La_law 1048 = .ok (.iload 4, 2) := by decide +kernel
theorem d_La_law_1050 : decode c_La_law 1050 = .ok (.iconst 2, 1) := by decide +kernel
theorem d_La_law_1051 : decode c_La_law 1051 = .ok (.iadd, 1) := by decide +kernel
theorem d_La_law_1052 : decode c_La_law 1052 = .ok (.iaload, 1) := by decide +kernel
theorem d_La_law_1053 : decode c_La_law 1053 = .ok (.invokevirtual 180, 3) := by decide +kernel
theorem d_La_law_1056 : decode c_La_law 1056 = .ok (.istore 6, 2) := by decide +kernel
theorem d_La_law_1058 : decode c_La_law 1058 = .ok (.goto 30, 3) := by decide +kernel
theorem d_La_law_1061 : decode c_La_law 1061 = .ok (.aload_n 1, 1) := by decide +kernel
theorem d_La_law_1062 : decode c_La_law 1062 = .ok (.invokevirtual 181, 3) := by decide +kernel
theorem d_La_law_1065 : decode c_La_law 1065 = .ok (.pop, 1) := by decide +kernel
theorem d_La_law_1066 : decode c_La_law 1066 = .ok (.aload_n 2, 1) := by decide +kernel
theorem d_La_law_1067 : decode c_La_law 1067 = .ok (.invokevirtual 185, 3) := by decide +kernel
theorem d_La_law_1070 : decode c_La_law 1070 = .ok (.pop, 1) := by decide +kernel
theorem d_La_law_1071 : decode c_La_law 1071 = .ok (.goto 17, 3) := by decide +kernel
theorem d_La_law_1074 : decode c_La_law 1074 = .ok (.aload_n 1, 1) := by decide +kernel
theorem d_La_law_1075 : decode c_La_law 1075 = .ok (.invokevirtual 186, 3) := by decide +kernel
theorem d_La_law_1078 : decode c_La_law 1078 = .ok (.aload_n 2, 1) := by decide +kernel
theorem d_La_law_1079 : decode c_La_law 1079 = .ok (.invokevirtual 190, 3) := by decide +kernel
theorem d_La_law_1082 : decode c_La_law 1082 = .ok (.lcmp, 1) := by decide +kernel
theorem d_La_law_1083 : decode c_La_law 1083 = .ok (.ifCond .eq 5, 3) := by decide +kernel
theorem d_La_law_1088 : decode c_La_law 1088 = .ok (.iinc 4 6, 3) := by decide +kernel
theorem d_La_law_1091 : decode c_La_law 1091 = .ok (.goto (-1064), 3) := by decide +kernel
theorem d_La_law_1094 : decode c_La_law 1094 = .ok (.iconst 1, 1) := by decide +kernel
theorem d_La_law_1095 : decode c_La_law 1095 = .ok (.ireturn, 1) := by decide +kernel

section ZLE
theorem z_lawend {g0 : State} {d : zD} {y : MethodName} {tb : List ExceptionTableEntry} {p : Program} {l : Launch} {e : Env} {m : MethodId} {below : List Frame} {meth : Method} {c : Code} {G : zG} {L : List (Nat × Value)} {pc : Nat} {b : Nat} (hd : decode code pc = .ok (.ireturn, 1)) : Z g0 d y code 8 ret tb p l e room_1 g0 m #[Value.ref b] below meth c (lw_Z below #[Value.ref b] g0) 601024 7293034 G L [.int 1] pc :=
  fun hc H locs ls hP hS hl => va_forget (fun q hq => hS.2.2 q hq) (W.base (lw_ret (d0 := g0.drawn) (Drawn.sameBut.refl g0.drawn lw_cs) hc.x hc.b hc.r hc.locks hd))
end ZLE


theorem zSM.init {W : Nat → Nat → Int32} (hW : ∀ r, r ≠ 7 → W r = mV0 r) (hi : zIv (W 7) zinv) : zSM 0 tV0 W 0 0 0 := by
  refine ⟨by rw [hW 0 (by decide)]; exact ⟨rfl, rfl, rfl, rfl, rfl⟩, fun k hk => absurd hk (Nat.not_lt_zero _), fun k hk => absurd hk (Nat.not_lt_zero _), ⟨rfl, ⟨by decide, zTr.z⟩, fun e he => absurd he (Nat.not_lt_zero _)⟩, fun j hj => ⟨zti_inv j hj, zinv_lt j⟩, hi, 23, by decide, rfl⟩

set_option maxHeartbeats 16000000 in
set_option maxRecDepth 100000 in
theorem z_law {g0 : State} {d : zD} {l : Launch} {a0 : Array Value} (hs0 : zS0 d a0 g0) (hst : l.stackTraces = false) (hNc : zNc g0) {b NN : Nat} {xs : Nat → Int32} (hX : va_X b NN xs g0 g0.heap) (hbl : b < g0.heap.size) (hNN : NN ≤ 3072) {nm ds : String} {tb : List ExceptionTableEntry} {p : Program} {e : Env} {m : MethodId} {below : List Frame} {meth : Method} {c : Code} : Z g0 d ⟨"ThreeboxesLaw", nm, ds⟩ code 8 ret tb p l e room_1 g0 m #[Value.ref b] below meth c (lw_Z below #[Value.ref b] g0) 0 0 (fun _ => none) [(0, .ref b)] [] 0 := by
  refine z_new (fs := [.null, .null, .null, .null, .null, .null, .int 0, .int 0, .int 0, .int 0]) zc_Tb qK_La_8 qO_Tb qN_Tb (by decide) ⟨by show _ ≤ 601024; omega, by show _ ≤ 7293034; omega⟩ d_La_law_0 (fun x1 hx1 hb1 => ?_)
  refine z_dup d_La_law_3 rfl ?_
  refine z_callIp1 ((m_Tb_init hs0 hst zu_s)) ym_Tb_init rfl qM_La_101 qI_Tb_init d_La_law_4 rfl (Nat.le_of_ble_eq_true rfl) ⟨by show _ ≤ 601024; omega, by show _ ≤ 7293034; omega⟩ ⟨Nat.le_of_ble_eq_true rfl, Nat.le_of_ble_eq_true rfl⟩ (fun r_4 G_4 hp_4 => ?_)
  obtain ⟨rfl, A, D, eA, hT, hA0, hk0⟩ := hp_4
  refine z_astore_n (L' := [(1, _), (0, _)]) d_La_law_7 rfl (by decide) rfl ?_
  refine z_new (fs := [.int 0, .int 0, .int 0, .int 0, .int 0, .int 0, .null, .null, .null, .null, .null, .null]) zc_Mo qK_La_102 qO_Mo qN_Mo (by decide) ⟨by show _ ≤ 601024; omega, by show _ ≤ 7293034; omega⟩ d_La_law_8 (fun x2 hx2 hb2 => ?_)
  have hA2 : ∀ r, tlive 0 0 r → A r ≠ x2 := hT.none hx2
  have hT2 := hT.out (w := zob 12 [.int 0, .int 0, .int 0, .int 0, .int 0, .int 0, .null, .null, .null, .null, .null, .null]) hA2
  refine z_dup d_La_law_11 rfl ?_
  refine z_callIp1 ((m_Mo_initE hs0 hst zu_s)) ym_Mo_init rfl qM_La_104 qI_Mo_init d_La_law_12 rfl (Nat.le_of_ble_eq_true rfl) ⟨by show _ ≤ 601024; omega, by show _ ≤ 7293034; omega⟩ ⟨Nat.le_of_ble_eq_true rfl, Nat.le_of_ble_eq_true rfl⟩ (fun r_12 G_12 hp_12 => ?_)
  obtain ⟨rfl, B, W, eB, hM, hW0, hWi, hB0, hk2⟩ := hp_12
  have hT3 : zT d A D tV0 0 0 G_12 := ⟨⟨hT2.1.1, fun r hr => hk2 _ _ (hT2.1.2 r hr) (hA2 r hr)⟩, hT2.2⟩
  have hAB : ∀ r q, tlive 0 0 r → mlive 0 0 0 q → A r ≠ B q := fun r q hr hq e => by
    rcases hB0 q hq with e2 | e2
    · exact hA2 r hr (e.trans e2)
    · rw [← e, hT2.1.2 r hr] at e2; cases e2
  refine z_astore_n (L' := [(2, _), (1, _), (0, _)]) d_La_law_15 rfl (by decide) rfl ?_
  refine z_new (fs := [.long 0, .double 0, .null]) zc_Ou qK_La_14 qO_Ou qN_Ou (by decide) ⟨by show _ ≤ 601024; omega, by show _ ≤ 7293034; omega⟩ d_La_law_16 (fun ho hx3 hb3 => ?_)
  have hL0 : zL d ho A D tV0 0 0 B W 0 0 0 10 (zu G_12 ho (zob 9 [.long 0, .double 0, .null])) := ⟨hT3.out (hT3.none hx3), hM.out (hM.nn_ hx3), hAB, ⟨_, _, _, zu_s⟩, hT3.none hx3, hM.nn_ hx3⟩
  have hLw0 : zLaw d ho x1 x2 0 (zu G_12 ho (zob 9 [.long 0, .double 0, .null])) := ⟨A, D, tV0, 0, 0, B, W, 0, 10, eA, eB, hL0, zSM.init hW0 hWi⟩
  refine z_dup d_La_law_19 rfl ?_
  refine z_callIN1 ((m_Ou_init hs0 hst)) ym_Ou_init rfl qMn_La_105 qI_Ou_init d_La_law_20 rfl (Nat.le_of_ble_eq_true rfl) ⟨by show _ ≤ 601024; omega, by show _ ≤ 7293034; omega⟩ ⟨Nat.le_of_ble_eq_true rfl, Nat.le_of_ble_eq_true rfl⟩ ?_
  refine z_astore_n (L' := [(3, _), (2, _), (1, _), (0, _)]) d_La_law_23 rfl (by decide) rfl ?_
  refine z_iconst (v := (nI (6 * 0))) d_La_law_24 (by decide) ?_
  refine z_istore (L' := [(4, _), (3, _), (2, _), (1, _), (0, _)]) d_La_law_25 (by decide) rfl ?_
  have key_27 : ∀ (n : Nat) (j : Nat) (G2 : zG), 513 - j < n → (j ≤ 512) → (zLaw d ho x1 x2 j G2) → Z g0 d ⟨"ThreeboxesLaw", nm, ds⟩ code 8 ret tb p l e room_1 g0 m #[Value.ref b] below meth c (lw_Z below #[Value.ref b] g0) (100 + 1000 * j) (1000 + 12000 * j) (G2) [(4, .int (nI (6 * j))), (3, .ref ho), (2, .ref x2), (1, .ref x1), (0, .ref b)] [] 27 := by
    intro n
    induction n with
    | zero => intro j G2 h0; exact absurd h0 (Nat.not_lt_zero _)
    | succ n ih_27 =>
      intro j G2 hm_27 hj hLw
      obtain ⟨A, D, V, nk, ns, B, W, ne, ec, eA, eB, hL, hI⟩ := hLw
      subst eA
      subst eB
      refine z_iload 0 d_La_law_27 rfl ?_
      refine z_aload_n 4 d_La_law_29 rfl rfl ?_
      refine z_slen hX hbl d_La_law_30 ?_
      refine z_bipush (v := (nI 6)) d_La_law_31 (by decide) ?_
      refine z_isub d_La_law_33 ?_
      refine z_icmp_gt 1094 d_La_law_34 (by decide) (fun c_34 => ?_) (fun c_34 => ?_)
      · skip
        refine z_iconst (v := 1) d_La_law_1094 (by decide) ?_
        refine z_widen (k := 601024) (n := 7293034) (by omega) (by omega) ?_
        exact z_lawend d_La_law_1095
      · skip
        have hj6 := lw_bnd c_34 hNN (by omega)
        have hm1 : 513 - (j + 1) < n := by omega
        have hm2 : j + 1 ≤ 512 := by omega
        refine z_aload_n 4 d_La_law_37 rfl rfl ?_
        refine z_iload 0 d_La_law_38 rfl ?_
        refine z_sld hX hbl (vp_in_nI (show 6 * j < NN by omega) (by omega)) d_La_law_40 ?_
        refine z_bipush (v := 31) d_La_law_41 (by decide) ?_
        refine z_iand d_La_law_43 ?_
        refine z_topi (fun w9 _ => ?_)
        by_cases e0 : w9 = 0
        · subst e0
          refine z_tableIn 156 d_La_law_44 (by decide) (by decide) rfl (by decide) ?_
          refine z_aload_n 3 d_La_law_156 rfl rfl ?_
          refine z_aload_n 4 d_La_law_157 rfl rfl ?_
          refine z_iload 0 d_La_law_158 rfl ?_
          refine z_iconst (v := (nI 1)) d_La_law_160 (by decide) ?_
          refine z_iadd d_La_law_161 ?_
          refine z_topv (v := nI (6 * j + 1)) (nI_add _ _) ?_
          refine z_sld hX hbl (vp_in_nI (show 6 * j + 1 < NN by omega) (by omega)) d_La_law_162 ?_
          refine z_aload_n 4 d_La_law_163 rfl rfl ?_
          refine z_iload 0 d_La_law_164 rfl ?_
          refine z_iconst (v := (nI 2)) d_La_law_166 (by decide) ?_
          refine z_iadd d_La_law_167 ?_
          refine z_topv (v := nI (6 * j + 2)) (nI_add _ _) ?_
          refine z_sld hX hbl (vp_in_nI (show 6 * j + 2 < NN by omega) (by omega)) d_La_law_168 ?_
          refine z_aload_n 4 d_La_law_169 rfl rfl ?_
          refine z_iload 0 d_La_law_170 rfl ?_
          refine z_iconst (v := (nI 3)) d_La_law_172 (by decide) ?_
          refine z_iadd d_La_law_173 ?_
          refine z_topv (v := nI (6 * j + 3)) (nI_add _ _) ?_
          refine z_sld hX hbl (vp_in_nI (show 6 * j + 3 < NN by omega) (by omega)) d_La_law_174 ?_
          refine z_aload_n 1 d_La_law_175 rfl rfl ?_
          refine z_callSWp1 ((m_La_keeper hs0 hst hL.t hNc hL.o hL.o1 _ _ _)) ymw_La_keeper qM_La_106 qS_La_keeper d_La_law_176 rfl (Nat.le_of_ble_eq_true rfl) ⟨by show _ ≤ 601024; omega, by show _ ≤ 7293034; omega⟩ ⟨Nat.le_of_ble_eq_true rfl, Nat.le_of_ble_eq_true rfl⟩ (fun r_176 G_176 hp_176 => ?_)
          obtain ⟨k5, A3, V3, nk3, v3, rfl, hR3, hT3, hN3, hO3, hF3, hn3⟩ := cC_keeper hp_176
          have hL3 := hL.cls hT3 hN3 hO3 hF3
          have eA4 := hN3.1
          refine z_istore (L' := [(5, _), (4, _), (3, _), (2, _), (1, _), (0, _)]) d_La_law_179 (by decide) rfl ?_
          refine z_aload_n 3 d_La_law_181 rfl rfl ?_
          refine z_aload_n 5 d_La_law_182 rfl rfl ?_
          refine z_iload 1 d_La_law_183 rfl ?_
          refine z_iconst (v := (nI 1)) d_La_law_185 (by decide) ?_
          refine z_iadd d_La_law_186 ?_
          refine z_topv (v := nI (6 * j + 1)) (nI_add _ _) ?_
          refine z_sld hX hbl (vp_in_nI (show 6 * j + 1 < NN by omega) (by omega)) d_La_law_187 ?_
          refine z_aload_n 5 d_La_law_188 rfl rfl ?_
          refine z_iload 1 d_La_law_189 rfl ?_
          refine z_iconst (v := (nI 2)) d_La_law_191 (by decide) ?_
          refine z_iadd d_La_law_192 ?_
          refine z_topv (v := nI (6 * j + 2)) (nI_add _ _) ?_
          refine z_sld hX hbl (vp_in_nI (show 6 * j + 2 < NN by omega) (by omega)) d_La_law_193 ?_
          refine z_aload_n 5 d_La_law_194 rfl rfl ?_
          refine z_iload 1 d_La_law_195 rfl ?_
          refine z_iconst (v := (nI 3)) d_La_law_197 (by decide) ?_
          refine z_iadd d_La_law_198 ?_
          refine z_topv (v := nI (6 * j + 3)) (nI_add _ _) ?_
          refine z_sld hX hbl (vp_in_nI (show 6 * j + 3 < NN by omega) (by omega)) d_La_law_199 ?_
          refine z_callVp1 ((m_Mo_keeperE hs0 hst hL3.m _ _ _)) ym_Mo_keeper qM_La_111 qI_Mo_keeper qV_Mo_Mo_keeper zc_Mo hL3.m.mo d_La_law_200 rfl (Nat.le_of_ble_eq_true rfl) ⟨by show _ ≤ 601024; omega, by show _ ≤ 7293034; omega⟩ ⟨Nat.le_of_ble_eq_true rfl, Nat.le_of_ble_eq_true rfl⟩ (fun r_200 G_200 hp_200 => ?_)
          obtain ⟨b6, B4, W4, ne4, ec4, rfl, hM4, hN4, hF4, hI4, eK, hn4⟩ := jKe hI hL.bk.1 hL.bk.2 hR3 hp_200
          have hL4 := hL3.mod hM4 hN4 hF4
          have eB4 := hN4.1
          refine z_istore (L' := [(6, _), (5, _), (4, _), (3, _), (2, _), (1, _), (0, _)]) d_La_law_203 (by decide) rfl ?_
          refine z_goto 1088 d_La_law_205 (by decide) ?_
          refine z_iinc (v := nI (6 * (j + 1))) (L' := [(4, _), (6, _), (5, _), (3, _), (2, _), (1, _), (0, _)]) 2 d_La_law_1088 rfl (by rw [show 6 * (j + 1) = 6 * j + 6 by omega]; exact nI_add _ _) (by decide) rfl ?_
          refine z_goto 27 d_La_law_1091 (by decide) ?_
          refine z_sub (L' := [(4, _), (3, _), (2, _), (1, _), (0, _)]) [0, 3, 4, 5, 6] rfl ?_
          refine z_widen (k := 100 + 1000 * (j + 1)) (n := 1000 + 12000 * (j + 1)) (by omega) (by omega) ?_
          first
            | exact ih_27 (j + 1) _ hm1 hm2 ⟨_, _, _, _, _, _, _, _, _, eA4, eB4, hL4, hI4⟩
            | exact ih_27 (j + 1) _ hm1 hm2 ⟨_, _, _, _, _, _, _, _, _, rfl, rfl, hL, hI.up (by omega)⟩
        by_cases e1 : w9 = 1
        · subst e1
          refine z_tableIn 208 d_La_law_44 (by decide) (by decide) rfl (by decide) ?_
          refine z_aload_n 3 d_La_law_208 rfl rfl ?_
          refine z_aload_n 4 d_La_law_209 rfl rfl ?_
          refine z_iload 0 d_La_law_210 rfl ?_
          refine z_iconst (v := (nI 1)) d_La_law_212 (by decide) ?_
          refine z_iadd d_La_law_213 ?_
          refine z_topv (v := nI (6 * j + 1)) (nI_add _ _) ?_
          refine z_sld hX hbl (vp_in_nI (show 6 * j + 1 < NN by omega) (by omega)) d_La_law_214 ?_
          refine z_aload_n 4 d_La_law_215 rfl rfl ?_
          refine z_iload 0 d_La_law_216 rfl ?_
          refine z_iconst (v := (nI 2)) d_La_law_218 (by decide) ?_
          refine z_iadd d_La_law_219 ?_
          refine z_topv (v := nI (6 * j + 2)) (nI_add _ _) ?_
          refine z_sld hX hbl (vp_in_nI (show 6 * j + 2 < NN by omega) (by omega)) d_La_law_220 ?_
          refine z_aload_n 1 d_La_law_221 rfl rfl ?_
          refine z_callSWp1 ((m_La_lie hs0 hst hL.t hNc hL.o hL.o1 _ _)) ymw_La_lie qM_La_112 qS_La_lie d_La_law_222 rfl (Nat.le_of_ble_eq_true rfl) ⟨by show _ ≤ 601024; omega, by show _ ≤ 7293034; omega⟩ ⟨Nat.le_of_ble_eq_true rfl, Nat.le_of_ble_eq_true rfl⟩ (fun r_222 G_222 hp_222 => ?_)
          obtain ⟨k5, V3, v3, rfl, hR3, hT3, hO3, hF3, hn3⟩ := cC_lie hp_222
          have hL3 := hL.cls hT3 zNw.rf hO3 hF3
          have eA4 : A 0 = A 0 := rfl
          refine z_istore (L' := [(5, _), (4, _), (3, _), (2, _), (1, _), (0, _)]) d_La_law_225 (by decide) rfl ?_
          refine z_aload_n 3 d_La_law_227 rfl rfl ?_
          refine z_aload_n 5 d_La_law_228 rfl rfl ?_
          refine z_iload 1 d_La_law_229 rfl ?_
          refine z_iconst (v := (nI 1)) d_La_law_231 (by decide) ?_
          refine z_iadd d_La_law_232 ?_
          refine z_topv (v := nI (6 * j + 1)) (nI_add _ _) ?_
          refine z_sld hX hbl (vp_in_nI (show 6 * j + 1 < NN by omega) (by omega)) d_La_law_233 ?_
          refine z_aload_n 5 d_La_law_234 rfl rfl ?_
          refine z_iload 1 d_La_law_235 rfl ?_
          refine z_iconst (v := (nI 2)) d_La_law_237 (by decide) ?_
          refine z_iadd d_La_law_238 ?_
          refine z_topv (v := nI (6 * j + 2)) (nI_add _ _) ?_
          refine z_sld hX hbl (vp_in_nI (show 6 * j + 2 < NN by omega) (by omega)) d_La_law_239 ?_
          refine z_callVp1 ((m_Mo_lieE hs0 hst hL3.m _ _)) ym_Mo_lie qM_La_115 qI_Mo_lie qV_Mo_Mo_lie zc_Mo hL3.m.mo d_La_law_240 rfl (Nat.le_of_ble_eq_true rfl) ⟨by show _ ≤ 601024; omega, by show _ ≤ 7293034; omega⟩ ⟨Nat.le_of_ble_eq_true rfl, Nat.le_of_ble_eq_true rfl⟩ (fun r_240 G_240 hp_240 => ?_)
          obtain ⟨b6, B4, W4, ne4, ec4, rfl, hM4, hN4, hF4, hI4, eK, hn4⟩ := jLi hI hL.bk.1 hL.bk.2 hR3 hp_240
          have hL4 := hL3.mod hM4 hN4 hF4
          have eB4 := hN4.1
          refine z_istore (L' := [(6, _), (5, _), (4, _), (3, _), (2, _), (1, _), (0, _)]) d_La_law_243 (by decide) rfl ?_
          refine z_goto 1088 d_La_law_245 (by decide) ?_
          refine z_iinc (v := nI (6 * (j + 1))) (L' := [(4, _), (6, _), (5, _), (3, _), (2, _), (1, _), (0, _)]) 2 d_La_law_1088 rfl (by rw [show 6 * (j + 1) = 6 * j + 6 by omega]; exact nI_add _ _) (by decide) rfl ?_
          refine z_goto 27 d_La_law_1091 (by decide) ?_
          refine z_sub (L' := [(4, _), (3, _), (2, _), (1, _), (0, _)]) [0, 3, 4, 5, 6] rfl ?_
          refine z_widen (k := 100 + 1000 * (j + 1)) (n := 1000 + 12000 * (j + 1)) (by omega) (by omega) ?_
          first
            | exact ih_27 (j + 1) _ hm1 hm2 ⟨_, _, _, _, _, _, _, _, _, eA4, eB4, hL4, hI4⟩
            | exact ih_27 (j + 1) _ hm1 hm2 ⟨_, _, _, _, _, _, _, _, _, rfl, rfl, hL, hI.up (by omega)⟩
        by_cases e2 : w9 = 2
        · subst e2
          refine z_tableIn 248 d_La_law_44 (by decide) (by decide) rfl (by decide) ?_
          refine z_aload_n 3 d_La_law_248 rfl rfl ?_
          refine z_aload_n 4 d_La_law_249 rfl rfl ?_
          refine z_iload 0 d_La_law_250 rfl ?_
          refine z_iconst (v := (nI 1)) d_La_law_252 (by decide) ?_
          refine z_iadd d_La_law_253 ?_
          refine z_topv (v := nI (6 * j + 1)) (nI_add _ _) ?_
          refine z_sld hX hbl (vp_in_nI (show 6 * j + 1 < NN by omega) (by omega)) d_La_law_254 ?_
          refine z_aload_n 4 d_La_law_255 rfl rfl ?_
          refine z_iload 0 d_La_law_256 rfl ?_
          refine z_iconst (v := (nI 2)) d_La_law_258 (by decide) ?_
          refine z_iadd d_La_law_259 ?_
          refine z_topv (v := nI (6 * j + 2)) (nI_add _ _) ?_
          refine z_sld hX hbl (vp_in_nI (show 6 * j + 2 < NN by omega) (by omega)) d_La_law_260 ?_
          refine z_aload_n 4 d_La_law_261 rfl rfl ?_
          refine z_iload 0 d_La_law_262 rfl ?_
          refine z_iconst (v := (nI 3)) d_La_law_264 (by decide) ?_
          refine z_iadd d_La_law_265 ?_
          refine z_topv (v := nI (6 * j + 3)) (nI_add _ _) ?_
          refine z_sld hX hbl (vp_in_nI (show 6 * j + 3 < NN by omega) (by omega)) d_La_law_266 ?_
          refine z_aload_n 4 d_La_law_267 rfl rfl ?_
          refine z_iload 0 d_La_law_268 rfl ?_
          refine z_iconst (v := (nI 4)) d_La_law_270 (by decide) ?_
          refine z_iadd d_La_law_271 ?_
          refine z_topv (v := nI (6 * j + 4)) (nI_add _ _) ?_
          refine z_sld hX hbl (vp_in_nI (show 6 * j + 4 < NN by omega) (by omega)) d_La_law_272 ?_
          refine z_aload_n 4 d_La_law_273 rfl rfl ?_
          refine z_iload 0 d_La_law_274 rfl ?_
          refine z_iconst (v := (nI 5)) d_La_law_276 (by decide) ?_
          refine z_iadd d_La_law_277 ?_
          refine z_topv (v := nI (6 * j + 5)) (nI_add _ _) ?_
          refine z_sld hX hbl (vp_in_nI (show 6 * j + 5 < NN by omega) (by omega)) d_La_law_278 ?_
          refine z_aload_n 1 d_La_law_279 rfl rfl ?_
          refine z_callSWp1 ((m_La_deal hs0 hst hL.t hNc hL.o hL.o1 _ _ _ _ _)) ymw_La_deal qM_La_116 qS_La_deal d_La_law_280 rfl (Nat.le_of_ble_eq_true rfl) ⟨by show _ ≤ 601024; omega, by show _ ≤ 7293034; omega⟩ ⟨Nat.le_of_ble_eq_true rfl, Nat.le_of_ble_eq_true rfl⟩ (fun r_280 G_280 hp_280 => ?_)
          obtain ⟨k5, A3, V3, ns3, v3, rfl, hR3, hT3, hN3, hO3, hF3, hn3⟩ := cC_deal hp_280
          have hL3 := hL.cls hT3 hN3 hO3 hF3
          have eA4 := hN3.1
          refine z_istore (L' := [(5, _), (4, _), (3, _), (2, _), (1, _), (0, _)]) d_La_law_283 (by decide) rfl ?_
          refine z_aload_n 3 d_La_law_285 rfl rfl ?_
          refine z_aload_n 5 d_La_law_286 rfl rfl ?_
          refine z_iload 1 d_La_law_287 rfl ?_
          refine z_iconst (v := (nI 1)) d_La_law_289 (by decide) ?_
          refine z_iadd d_La_law_290 ?_
          refine z_topv (v := nI (6 * j + 1)) (nI_add _ _) ?_
          refine z_sld hX hbl (vp_in_nI (show 6 * j + 1 < NN by omega) (by omega)) d_La_law_291 ?_
          refine z_aload_n 5 d_La_law_292 rfl rfl ?_
          refine z_iload 1 d_La_law_293 rfl ?_
          refine z_iconst (v := (nI 2)) d_La_law_295 (by decide) ?_
          refine z_iadd d_La_law_296 ?_
          refine z_topv (v := nI (6 * j + 2)) (nI_add _ _) ?_
          refine z_sld hX hbl (vp_in_nI (show 6 * j + 2 < NN by omega) (by omega)) d_La_law_297 ?_
          refine z_aload_n 5 d_La_law_298 rfl rfl ?_
          refine z_iload 1 d_La_law_299 rfl ?_
          refine z_iconst (v := (nI 3)) d_La_law_301 (by decide) ?_
          refine z_iadd d_La_law_302 ?_
          refine z_topv (v := nI (6 * j + 3)) (nI_add _ _) ?_
          refine z_sld hX hbl (vp_in_nI (show 6 * j + 3 < NN by omega) (by omega)) d_La_law_303 ?_
          refine z_aload_n 5 d_La_law_304 rfl rfl ?_
          refine z_iload 1 d_La_law_305 rfl ?_
          refine z_iconst (v := (nI 4)) d_La_law_307 (by decide) ?_
          refine z_iadd d_La_law_308 ?_
          refine z_topv (v := nI (6 * j + 4)) (nI_add _ _) ?_
          refine z_sld hX hbl (vp_in_nI (show 6 * j + 4 < NN by omega) (by omega)) d_La_law_309 ?_
          refine z_aload_n 5 d_La_law_310 rfl rfl ?_
          refine z_iload 1 d_La_law_311 rfl ?_
          refine z_iconst (v := (nI 5)) d_La_law_313 (by decide) ?_
          refine z_iadd d_La_law_314 ?_
          refine z_topv (v := nI (6 * j + 5)) (nI_add _ _) ?_
          refine z_sld hX hbl (vp_in_nI (show 6 * j + 5 < NN by omega) (by omega)) d_La_law_315 ?_
          refine z_callVp1 ((m_Mo_dealE hs0 hst hL3.m _ _ _ _ _)) ym_Mo_deal qM_La_119 qI_Mo_deal qV_Mo_Mo_deal zc_Mo hL3.m.mo d_La_law_316 rfl (Nat.le_of_ble_eq_true rfl) ⟨by show _ ≤ 601024; omega, by show _ ≤ 7293034; omega⟩ ⟨Nat.le_of_ble_eq_true rfl, Nat.le_of_ble_eq_true rfl⟩ (fun r_316 G_316 hp_316 => ?_)
          obtain ⟨b6, B4, W4, ne4, ec4, rfl, hM4, hN4, hF4, hI4, eK, hn4⟩ := jDe hI hL.bk.1 hL.bk.2 hR3 hp_316
          have hL4 := hL3.mod hM4 hN4 hF4
          have eB4 := hN4.1
          refine z_istore (L' := [(6, _), (5, _), (4, _), (3, _), (2, _), (1, _), (0, _)]) d_La_law_319 (by decide) rfl ?_
          refine z_goto 1088 d_La_law_321 (by decide) ?_
          refine z_iinc (v := nI (6 * (j + 1))) (L' := [(4, _), (6, _), (5, _), (3, _), (2, _), (1, _), (0, _)]) 2 d_La_law_1088 rfl (by rw [show 6 * (j + 1) = 6 * j + 6 by omega]; exact nI_add _ _) (by decide) rfl ?_
          refine z_goto 27 d_La_law_1091 (by decide) ?_
          refine z_sub (L' := [(4, _), (3, _), (2, _), (1, _), (0, _)]) [0, 3, 4, 5, 6] rfl ?_
          refine z_widen (k := 100 + 1000 * (j + 1)) (n := 1000 + 12000 * (j + 1)) (by omega) (by omega) ?_
          first
            | exact ih_27 (j + 1) _ hm1 hm2 ⟨_, _, _, _, _, _, _, _, _, eA4, eB4, hL4, hI4⟩
            | exact ih_27 (j + 1) _ hm1 hm2 ⟨_, _, _, _, _, _, _, _, _, rfl, rfl, hL, hI.up (by omega)⟩
        by_cases e3 : w9 = 3
        · subst e3
          refine z_tableIn 324 d_La_law_44 (by decide) (by decide) rfl (by decide) ?_
          refine z_aload_n 3 d_La_law_324 rfl rfl ?_
          refine z_aload_n 4 d_La_law_325 rfl rfl ?_
          refine z_iload 0 d_La_law_326 rfl ?_
          refine z_iconst (v := (nI 1)) d_La_law_328 (by decide) ?_
          refine z_iadd d_La_law_329 ?_
          refine z_topv (v := nI (6 * j + 1)) (nI_add _ _) ?_
          refine z_sld hX hbl (vp_in_nI (show 6 * j + 1 < NN by omega) (by omega)) d_La_law_330 ?_
          refine z_aload_n 4 d_La_law_331 rfl rfl ?_
          refine z_iload 0 d_La_law_332 rfl ?_
          refine z_iconst (v := (nI 2)) d_La_law_334 (by decide) ?_
          refine z_iadd d_La_law_335 ?_
          refine z_topv (v := nI (6 * j + 2)) (nI_add _ _) ?_
          refine z_sld hX hbl (vp_in_nI (show 6 * j + 2 < NN by omega) (by omega)) d_La_law_336 ?_
          refine z_aload_n 1 d_La_law_337 rfl rfl ?_
          refine z_callSWp1 ((m_La_fresh hs0 hst hL.t hNc hL.o hL.o1 _ _)) ymw_La_fresh qM_La_120 qS_La_fresh d_La_law_338 rfl (Nat.le_of_ble_eq_true rfl) ⟨by show _ ≤ 601024; omega, by show _ ≤ 7293034; omega⟩ ⟨Nat.le_of_ble_eq_true rfl, Nat.le_of_ble_eq_true rfl⟩ (fun r_338 G_338 hp_338 => ?_)
          obtain ⟨k5, D3, V3, v3, rfl, hR3, hT3, hO3, hF3, hn3⟩ := hp_338
          have hL3 := hL.cls hT3 zNw.rf hO3 hF3
          have eA4 : A 0 = A 0 := rfl
          refine z_istore (L' := [(5, _), (4, _), (3, _), (2, _), (1, _), (0, _)]) d_La_law_341 (by decide) rfl ?_
          refine z_aload_n 3 d_La_law_343 rfl rfl ?_
          refine z_aload_n 5 d_La_law_344 rfl rfl ?_
          refine z_iload 1 d_La_law_345 rfl ?_
          refine z_iconst (v := (nI 1)) d_La_law_347 (by decide) ?_
          refine z_iadd d_La_law_348 ?_
          refine z_topv (v := nI (6 * j + 1)) (nI_add _ _) ?_
          refine z_sld hX hbl (vp_in_nI (show 6 * j + 1 < NN by omega) (by omega)) d_La_law_349 ?_
          refine z_aload_n 5 d_La_law_350 rfl rfl ?_
          refine z_iload 1 d_La_law_351 rfl ?_
          refine z_iconst (v := (nI 2)) d_La_law_353 (by decide) ?_
          refine z_iadd d_La_law_354 ?_
          refine z_topv (v := nI (6 * j + 2)) (nI_add _ _) ?_
          refine z_sld hX hbl (vp_in_nI (show 6 * j + 2 < NN by omega) (by omega)) d_La_law_355 ?_
          refine z_callVp1 ((m_Mo_freshE hs0 hst hL3.m _ _)) ym_Mo_fresh qM_La_122 qI_Mo_fresh qV_Mo_Mo_fresh zc_Mo hL3.m.mo d_La_law_356 rfl (Nat.le_of_ble_eq_true rfl) ⟨by show _ ≤ 601024; omega, by show _ ≤ 7293034; omega⟩ ⟨Nat.le_of_ble_eq_true rfl, Nat.le_of_ble_eq_true rfl⟩ (fun r_356 G_356 hp_356 => ?_)
          obtain ⟨b6, B4, W4, ne4, ec4, rfl, hM4, hN4, hF4, hI4, eK, hn4⟩ := jFs hI (by omega) hL.bk.1 hL.bk.2 hR3 hp_356
          have hL4 := hL3.mod hM4 hN4 hF4
          have eB4 := hN4.1
          refine z_istore (L' := [(6, _), (5, _), (4, _), (3, _), (2, _), (1, _), (0, _)]) d_La_law_359 (by decide) rfl ?_
          refine z_goto 1088 d_La_law_361 (by decide) ?_
          refine z_iinc (v := nI (6 * (j + 1))) (L' := [(4, _), (6, _), (5, _), (3, _), (2, _), (1, _), (0, _)]) 2 d_La_law_1088 rfl (by rw [show 6 * (j + 1) = 6 * j + 6 by omega]; exact nI_add _ _) (by decide) rfl ?_
          refine z_goto 27 d_La_law_1091 (by decide) ?_
          refine z_sub (L' := [(4, _), (3, _), (2, _), (1, _), (0, _)]) [0, 3, 4, 5, 6] rfl ?_
          refine z_widen (k := 100 + 1000 * (j + 1)) (n := 1000 + 12000 * (j + 1)) (by omega) (by omega) ?_
          first
            | exact ih_27 (j + 1) _ hm1 hm2 ⟨_, _, _, _, _, _, _, _, _, eA4, eB4, hL4, hI4⟩
            | exact ih_27 (j + 1) _ hm1 hm2 ⟨_, _, _, _, _, _, _, _, _, rfl, rfl, hL, hI.up (by omega)⟩
        by_cases e4 : w9 = 4
        · subst e4
          refine z_tableIn 364 d_La_law_44 (by decide) (by decide) rfl (by decide) ?_
          refine z_aload_n 3 d_La_law_364 rfl rfl ?_
          refine z_aload_n 4 d_La_law_365 rfl rfl ?_
          refine z_iload 0 d_La_law_366 rfl ?_
          refine z_iconst (v := (nI 1)) d_La_law_368 (by decide) ?_
          refine z_iadd d_La_law_369 ?_
          refine z_topv (v := nI (6 * j + 1)) (nI_add _ _) ?_
          refine z_sld hX hbl (vp_in_nI (show 6 * j + 1 < NN by omega) (by omega)) d_La_law_370 ?_
          refine z_aload_n 1 d_La_law_371 rfl rfl ?_
          refine z_callSWp1 ((m_La_flood hs0 hst hL.t hNc hL.o hL.o1 _)) ymw_La_flood qM_La_123 qS_La_flood d_La_law_372 rfl (Nat.le_of_ble_eq_true rfl) ⟨by show _ ≤ 601024; omega, by show _ ≤ 7293034; omega⟩ ⟨Nat.le_of_ble_eq_true rfl, Nat.le_of_ble_eq_true rfl⟩ (fun r_372 G_372 hp_372 => ?_)
          obtain ⟨k5, D3, V3, v3, rfl, hR3, hT3, hO3, hF3, hn3⟩ := hp_372
          have hL3 := hL.cls hT3 zNw.rf hO3 hF3
          have eA4 : A 0 = A 0 := rfl
          refine z_istore (L' := [(5, _), (4, _), (3, _), (2, _), (1, _), (0, _)]) d_La_law_375 (by decide) rfl ?_
          refine z_aload_n 3 d_La_law_377 rfl rfl ?_
          refine z_aload_n 5 d_La_law_378 rfl rfl ?_
          refine z_iload 1 d_La_law_379 rfl ?_
          refine z_iconst (v := (nI 1)) d_La_law_381 (by decide) ?_
          refine z_iadd d_La_law_382 ?_
          refine z_topv (v := nI (6 * j + 1)) (nI_add _ _) ?_
          refine z_sld hX hbl (vp_in_nI (show 6 * j + 1 < NN by omega) (by omega)) d_La_law_383 ?_
          refine z_callVp1 ((m_Mo_floodE hs0 hst hL3.m _)) ym_Mo_flood qM_La_126 qI_Mo_flood qV_Mo_Mo_flood zc_Mo hL3.m.mo d_La_law_384 rfl (Nat.le_of_ble_eq_true rfl) ⟨by show _ ≤ 601024; omega, by show _ ≤ 7293034; omega⟩ ⟨Nat.le_of_ble_eq_true rfl, Nat.le_of_ble_eq_true rfl⟩ (fun r_384 G_384 hp_384 => ?_)
          obtain ⟨b6, B4, W4, ne4, ec4, rfl, hM4, hN4, hF4, hI4, eK, hn4⟩ := jFl hI (by omega) hL.bk.1 hL.bk.2 hR3 hp_384
          have hL4 := hL3.mod hM4 hN4 hF4
          have eB4 := hN4.1
          refine z_istore (L' := [(6, _), (5, _), (4, _), (3, _), (2, _), (1, _), (0, _)]) d_La_law_387 (by decide) rfl ?_
          refine z_goto 1088 d_La_law_389 (by decide) ?_
          refine z_iinc (v := nI (6 * (j + 1))) (L' := [(4, _), (6, _), (5, _), (3, _), (2, _), (1, _), (0, _)]) 2 d_La_law_1088 rfl (by rw [show 6 * (j + 1) = 6 * j + 6 by omega]; exact nI_add _ _) (by decide) rfl ?_
          refine z_goto 27 d_La_law_1091 (by decide) ?_
          refine z_sub (L' := [(4, _), (3, _), (2, _), (1, _), (0, _)]) [0, 3, 4, 5, 6] rfl ?_
          refine z_widen (k := 100 + 1000 * (j + 1)) (n := 1000 + 12000 * (j + 1)) (by omega) (by omega) ?_
          first
            | exact ih_27 (j + 1) _ hm1 hm2 ⟨_, _, _, _, _, _, _, _, _, eA4, eB4, hL4, hI4⟩
            | exact ih_27 (j + 1) _ hm1 hm2 ⟨_, _, _, _, _, _, _, _, _, rfl, rfl, hL, hI.up (by omega)⟩
        by_cases e5 : w9 = 5
        · subst e5
          refine z_tableIn 392 d_La_law_44 (by decide) (by decide) rfl (by decide) ?_
          refine z_aload_n 3 d_La_law_392 rfl rfl ?_
          refine z_aload_n 4 d_La_law_393 rfl rfl ?_
          refine z_iload 0 d_La_law_394 rfl ?_
          refine z_iconst (v := (nI 1)) d_La_law_396 (by decide) ?_
          refine z_iadd d_La_law_397 ?_
          refine z_topv (v := nI (6 * j + 1)) (nI_add _ _) ?_
          refine z_sld hX hbl (vp_in_nI (show 6 * j + 1 < NN by omega) (by omega)) d_La_law_398 ?_
          refine z_aload_n 4 d_La_law_399 rfl rfl ?_
          refine z_iload 0 d_La_law_400 rfl ?_
          refine z_iconst (v := (nI 2)) d_La_law_402 (by decide) ?_
          refine z_iadd d_La_law_403 ?_
          refine z_topv (v := nI (6 * j + 2)) (nI_add _ _) ?_
          refine z_sld hX hbl (vp_in_nI (show 6 * j + 2 < NN by omega) (by omega)) d_La_law_404 ?_
          refine z_aload_n 4 d_La_law_405 rfl rfl ?_
          refine z_iload 0 d_La_law_406 rfl ?_
          refine z_iconst (v := (nI 3)) d_La_law_408 (by decide) ?_
          refine z_iadd d_La_law_409 ?_
          refine z_topv (v := nI (6 * j + 3)) (nI_add _ _) ?_
          refine z_sld hX hbl (vp_in_nI (show 6 * j + 3 < NN by omega) (by omega)) d_La_law_410 ?_
          refine z_aload_n 1 d_La_law_411 rfl rfl ?_
          refine z_callSWp1 ((m_La_rebuild hs0 hst hL.t hNc hL.o hL.o1 _ _ _)) ymw_La_rebuild qM_La_127 qS_La_rebuild d_La_law_412 rfl (Nat.le_of_ble_eq_true rfl) ⟨by show _ ≤ 601024; omega, by show _ ≤ 7293034; omega⟩ ⟨Nat.le_of_ble_eq_true rfl, Nat.le_of_ble_eq_true rfl⟩ (fun r_412 G_412 hp_412 => ?_)
          obtain ⟨k5, D3, V3, v3, rfl, hR3, hT3, hO3, hF3, hn3⟩ := hp_412
          have hL3 := hL.cls hT3 zNw.rf hO3 hF3
          have eA4 : A 0 = A 0 := rfl
          refine z_istore (L' := [(5, _), (4, _), (3, _), (2, _), (1, _), (0, _)]) d_La_law_415 (by decide) rfl ?_
          refine z_aload_n 3 d_La_law_417 rfl rfl ?_
          refine z_aload_n 5 d_La_law_418 rfl rfl ?_
          refine z_iload 1 d_La_law_419 rfl ?_
          refine z_iconst (v := (nI 1)) d_La_law_421 (by decide) ?_
          refine z_iadd d_La_law_422 ?_
          refine z_topv (v := nI (6 * j + 1)) (nI_add _ _) ?_
          refine z_sld hX hbl (vp_in_nI (show 6 * j + 1 < NN by omega) (by omega)) d_La_law_423 ?_
          refine z_aload_n 5 d_La_law_424 rfl rfl ?_
          refine z_iload 1 d_La_law_425 rfl ?_
          refine z_iconst (v := (nI 2)) d_La_law_427 (by decide) ?_
          refine z_iadd d_La_law_428 ?_
          refine z_topv (v := nI (6 * j + 2)) (nI_add _ _) ?_
          refine z_sld hX hbl (vp_in_nI (show 6 * j + 2 < NN by omega) (by omega)) d_La_law_429 ?_
          refine z_aload_n 5 d_La_law_430 rfl rfl ?_
          refine z_iload 1 d_La_law_431 rfl ?_
          refine z_iconst (v := (nI 3)) d_La_law_433 (by decide) ?_
          refine z_iadd d_La_law_434 ?_
          refine z_topv (v := nI (6 * j + 3)) (nI_add _ _) ?_
          refine z_sld hX hbl (vp_in_nI (show 6 * j + 3 < NN by omega) (by omega)) d_La_law_435 ?_
          refine z_callVp1 ((m_Mo_rebuildE hs0 hst hL3.m _ _ _ hI.ok)) ym_Mo_rebuild qM_La_129 qI_Mo_rebuild qV_Mo_Mo_rebuild zc_Mo hL3.m.mo d_La_law_436 rfl (Nat.le_of_ble_eq_true rfl) ⟨by show _ ≤ 601024; omega, by show _ ≤ 7293034; omega⟩ ⟨Nat.le_of_ble_eq_true rfl, Nat.le_of_ble_eq_true rfl⟩ (fun r_436 G_436 hp_436 => ?_)
          obtain ⟨b6, B4, W4, ne4, ec4, rfl, hM4, hN4, hF4, hI4, eK, hn4⟩ := jRb hI (by omega) hL.bk.1 hL.bk.2 hR3 hp_436
          have hL4 := hL3.mod hM4 hN4 hF4
          have eB4 := hN4.1
          refine z_istore (L' := [(6, _), (5, _), (4, _), (3, _), (2, _), (1, _), (0, _)]) d_La_law_439 (by decide) rfl ?_
          refine z_goto 1088 d_La_law_441 (by decide) ?_
          refine z_iinc (v := nI (6 * (j + 1))) (L' := [(4, _), (6, _), (5, _), (3, _), (2, _), (1, _), (0, _)]) 2 d_La_law_1088 rfl (by rw [show 6 * (j + 1) = 6 * j + 6 by omega]; exact nI_add _ _) (by decide) rfl ?_
          refine z_goto 27 d_La_law_1091 (by decide) ?_
          refine z_sub (L' := [(4, _), (3, _), (2, _), (1, _), (0, _)]) [0, 3, 4, 5, 6] rfl ?_
          refine z_widen (k := 100 + 1000 * (j + 1)) (n := 1000 + 12000 * (j + 1)) (by omega) (by omega) ?_
          first
            | exact ih_27 (j + 1) _ hm1 hm2 ⟨_, _, _, _, _, _, _, _, _, eA4, eB4, hL4, hI4⟩
            | exact ih_27 (j + 1) _ hm1 hm2 ⟨_, _, _, _, _, _, _, _, _, rfl, rfl, hL, hI.up (by omega)⟩
        by_cases e6 : w9 = 6
        · subst e6
          refine z_tableIn 444 d_La_law_44 (by decide) (by decide) rfl (by decide) ?_
          refine z_aload_n 3 d_La_law_444 rfl rfl ?_
          refine z_aload_n 4 d_La_law_445 rfl rfl ?_
          refine z_iload 0 d_La_law_446 rfl ?_
          refine z_iconst (v := (nI 1)) d_La_law_448 (by decide) ?_
          refine z_iadd d_La_law_449 ?_
          refine z_topv (v := nI (6 * j + 1)) (nI_add _ _) ?_
          refine z_sld hX hbl (vp_in_nI (show 6 * j + 1 < NN by omega) (by omega)) d_La_law_450 ?_
          refine z_aload_n 4 d_La_law_451 rfl rfl ?_
          refine z_iload 0 d_La_law_452 rfl ?_
          refine z_iconst (v := (nI 2)) d_La_law_454 (by decide) ?_
          refine z_iadd d_La_law_455 ?_
          refine z_topv (v := nI (6 * j + 2)) (nI_add _ _) ?_
          refine z_sld hX hbl (vp_in_nI (show 6 * j + 2 < NN by omega) (by omega)) d_La_law_456 ?_
          refine z_aload_n 4 d_La_law_457 rfl rfl ?_
          refine z_iload 0 d_La_law_458 rfl ?_
          refine z_iconst (v := (nI 3)) d_La_law_460 (by decide) ?_
          refine z_iadd d_La_law_461 ?_
          refine z_topv (v := nI (6 * j + 3)) (nI_add _ _) ?_
          refine z_sld hX hbl (vp_in_nI (show 6 * j + 3 < NN by omega) (by omega)) d_La_law_462 ?_
          refine z_if_eq 470 d_La_law_463 (by decide) (fun c_463 => ?_) (fun c_463 => ?_)
          · skip
            refine z_iconst (v := 0) d_La_law_470 (by decide) ?_
            refine z_aload_n 1 d_La_law_471 rfl rfl ?_
            refine z_callSWp1 ((m_La_freeze hs0 hst hL.t hNc hL.o hL.o1 _ _ _)) ymw_La_freeze qM_La_130 qS_La_freeze d_La_law_472 rfl (Nat.le_of_ble_eq_true rfl) ⟨by show _ ≤ 601024; omega, by show _ ≤ 7293034; omega⟩ ⟨Nat.le_of_ble_eq_true rfl, Nat.le_of_ble_eq_true rfl⟩ (fun r_472 G_472 hp_472 => ?_)
            obtain ⟨k5, V3, v3, rfl, hR3, hT3, hO3, hF3, hn3⟩ := cC_freeze hp_472
            have hL3 := hL.cls hT3 zNw.rf hO3 hF3
            have eA4 : A 0 = A 0 := rfl
            refine z_istore (L' := [(5, _), (4, _), (3, _), (2, _), (1, _), (0, _)]) d_La_law_475 (by decide) rfl ?_
            refine z_aload_n 3 d_La_law_477 rfl rfl ?_
            refine z_aload_n 5 d_La_law_478 rfl rfl ?_
            refine z_iload 1 d_La_law_479 rfl ?_
            refine z_iconst (v := (nI 1)) d_La_law_481 (by decide) ?_
            refine z_iadd d_La_law_482 ?_
            refine z_topv (v := nI (6 * j + 1)) (nI_add _ _) ?_
            refine z_sld hX hbl (vp_in_nI (show 6 * j + 1 < NN by omega) (by omega)) d_La_law_483 ?_
            refine z_aload_n 5 d_La_law_484 rfl rfl ?_
            refine z_iload 1 d_La_law_485 rfl ?_
            refine z_iconst (v := (nI 2)) d_La_law_487 (by decide) ?_
            refine z_iadd d_La_law_488 ?_
            refine z_topv (v := nI (6 * j + 2)) (nI_add _ _) ?_
            refine z_sld hX hbl (vp_in_nI (show 6 * j + 2 < NN by omega) (by omega)) d_La_law_489 ?_
            refine z_aload_n 5 d_La_law_490 rfl rfl ?_
            refine z_iload 1 d_La_law_491 rfl ?_
            refine z_iconst (v := (nI 3)) d_La_law_493 (by decide) ?_
            refine z_iadd d_La_law_494 ?_
            refine z_topv (v := nI (6 * j + 3)) (nI_add _ _) ?_
            refine z_sld hX hbl (vp_in_nI (show 6 * j + 3 < NN by omega) (by omega)) d_La_law_495 ?_
            refine z_if_eq 503 d_La_law_496 (by decide) (fun c_496 => ?_) (fun c_496 => ?_)
            · skip
              refine z_iconst (v := 0) d_La_law_503 (by decide) ?_
              refine z_callVp1 ((m_Mo_freezeE hs0 hst hL3.m _ _ _)) ym_Mo_freeze qM_La_133 qI_Mo_freeze qV_Mo_Mo_freeze zc_Mo hL3.m.mo d_La_law_504 rfl (Nat.le_of_ble_eq_true rfl) ⟨by show _ ≤ 601024; omega, by show _ ≤ 7293034; omega⟩ ⟨Nat.le_of_ble_eq_true rfl, Nat.le_of_ble_eq_true rfl⟩ (fun r_504 G_504 hp_504 => ?_)
              obtain ⟨b6, B4, W4, ne4, ec4, rfl, hM4, hN4, hF4, hI4, eK, hn4⟩ := jFz hI hL.bk.1 hL.bk.2 (by first | rfl | exact absurd c_463 c_496 | exact absurd c_496 c_463) hR3 hp_504
              have hL4 := hL3.mod hM4 hN4 hF4
              have eB4 := hN4.1
              refine z_istore (L' := [(6, _), (5, _), (4, _), (3, _), (2, _), (1, _), (0, _)]) d_La_law_507 (by decide) rfl ?_
              refine z_goto 1088 d_La_law_509 (by decide) ?_
              refine z_iinc (v := nI (6 * (j + 1))) (L' := [(4, _), (6, _), (5, _), (3, _), (2, _), (1, _), (0, _)]) 2 d_La_law_1088 rfl (by rw [show 6 * (j + 1) = 6 * j + 6 by omega]; exact nI_add _ _) (by decide) rfl ?_
              refine z_goto 27 d_La_law_1091 (by decide) ?_
              refine z_sub (L' := [(4, _), (3, _), (2, _), (1, _), (0, _)]) [0, 3, 4, 5, 6] rfl ?_
              refine z_widen (k := 100 + 1000 * (j + 1)) (n := 1000 + 12000 * (j + 1)) (by omega) (by omega) ?_
              first
                | exact ih_27 (j + 1) _ hm1 hm2 ⟨_, _, _, _, _, _, _, _, _, eA4, eB4, hL4, hI4⟩
                | exact ih_27 (j + 1) _ hm1 hm2 ⟨_, _, _, _, _, _, _, _, _, rfl, rfl, hL, hI.up (by omega)⟩
            · skip
              refine z_iconst (v := 1) d_La_law_499 (by decide) ?_
              refine z_goto 504 d_La_law_500 (by decide) ?_
              refine z_callVp1 ((m_Mo_freezeE hs0 hst hL3.m _ _ _)) ym_Mo_freeze qM_La_133 qI_Mo_freeze qV_Mo_Mo_freeze zc_Mo hL3.m.mo d_La_law_504 rfl (Nat.le_of_ble_eq_true rfl) ⟨by show _ ≤ 601024; omega, by show _ ≤ 7293034; omega⟩ ⟨Nat.le_of_ble_eq_true rfl, Nat.le_of_ble_eq_true rfl⟩ (fun r_504 G_504 hp_504 => ?_)
              obtain ⟨b6, B4, W4, ne4, ec4, rfl, hM4, hN4, hF4, hI4, eK, hn4⟩ := jFz hI hL.bk.1 hL.bk.2 (by first | rfl | exact absurd c_463 c_496 | exact absurd c_496 c_463) hR3 hp_504
              have hL4 := hL3.mod hM4 hN4 hF4
              have eB4 := hN4.1
              refine z_istore (L' := [(6, _), (5, _), (4, _), (3, _), (2, _), (1, _), (0, _)]) d_La_law_507 (by decide) rfl ?_
              refine z_goto 1088 d_La_law_509 (by decide) ?_
              refine z_iinc (v := nI (6 * (j + 1))) (L' := [(4, _), (6, _), (5, _), (3, _), (2, _), (1, _), (0, _)]) 2 d_La_law_1088 rfl (by rw [show 6 * (j + 1) = 6 * j + 6 by omega]; exact nI_add _ _) (by decide) rfl ?_
              refine z_goto 27 d_La_law_1091 (by decide) ?_
              refine z_sub (L' := [(4, _), (3, _), (2, _), (1, _), (0, _)]) [0, 3, 4, 5, 6] rfl ?_
              refine z_widen (k := 100 + 1000 * (j + 1)) (n := 1000 + 12000 * (j + 1)) (by omega) (by omega) ?_
              first
                | exact ih_27 (j + 1) _ hm1 hm2 ⟨_, _, _, _, _, _, _, _, _, eA4, eB4, hL4, hI4⟩
                | exact ih_27 (j + 1) _ hm1 hm2 ⟨_, _, _, _, _, _, _, _, _, rfl, rfl, hL, hI.up (by omega)⟩
          · skip
            refine z_iconst (v := 1) d_La_law_466 (by decide) ?_
            refine z_goto 471 d_La_law_467 (by decide) ?_
            refine z_aload_n 1 d_La_law_471 rfl rfl ?_
            refine z_callSWp1 ((m_La_freeze hs0 hst hL.t hNc hL.o hL.o1 _ _ _)) ymw_La_freeze qM_La_130 qS_La_freeze d_La_law_472 rfl (Nat.le_of_ble_eq_true rfl) ⟨by show _ ≤ 601024; omega, by show _ ≤ 7293034; omega⟩ ⟨Nat.le_of_ble_eq_true rfl, Nat.le_of_ble_eq_true rfl⟩ (fun r_472 G_472 hp_472 => ?_)
            obtain ⟨k5, V3, v3, rfl, hR3, hT3, hO3, hF3, hn3⟩ := cC_freeze hp_472
            have hL3 := hL.cls hT3 zNw.rf hO3 hF3
            have eA4 : A 0 = A 0 := rfl
            refine z_istore (L' := [(5, _), (4, _), (3, _), (2, _), (1, _), (0, _)]) d_La_law_475 (by decide) rfl ?_
            refine z_aload_n 3 d_La_law_477 rfl rfl ?_
            refine z_aload_n 5 d_La_law_478 rfl rfl ?_
            refine z_iload 1 d_La_law_479 rfl ?_
            refine z_iconst (v := (nI 1)) d_La_law_481 (by decide) ?_
            refine z_iadd d_La_law_482 ?_
            refine z_topv (v := nI (6 * j + 1)) (nI_add _ _) ?_
            refine z_sld hX hbl (vp_in_nI (show 6 * j + 1 < NN by omega) (by omega)) d_La_law_483 ?_
            refine z_aload_n 5 d_La_law_484 rfl rfl ?_
            refine z_iload 1 d_La_law_485 rfl ?_
            refine z_iconst (v := (nI 2)) d_La_law_487 (by decide) ?_
            refine z_iadd d_La_law_488 ?_
            refine z_topv (v := nI (6 * j + 2)) (nI_add _ _) ?_
            refine z_sld hX hbl (vp_in_nI (show 6 * j + 2 < NN by omega) (by omega)) d_La_law_489 ?_
            refine z_aload_n 5 d_La_law_490 rfl rfl ?_
            refine z_iload 1 d_La_law_491 rfl ?_
            refine z_iconst (v := (nI 3)) d_La_law_493 (by decide) ?_
            refine z_iadd d_La_law_494 ?_
            refine z_topv (v := nI (6 * j + 3)) (nI_add _ _) ?_
            refine z_sld hX hbl (vp_in_nI (show 6 * j + 3 < NN by omega) (by omega)) d_La_law_495 ?_
            refine z_if_eq 503 d_La_law_496 (by decide) (fun c_496 => ?_) (fun c_496 => ?_)
            · skip
              refine z_iconst (v := 0) d_La_law_503 (by decide) ?_
              refine z_callVp1 ((m_Mo_freezeE hs0 hst hL3.m _ _ _)) ym_Mo_freeze qM_La_133 qI_Mo_freeze qV_Mo_Mo_freeze zc_Mo hL3.m.mo d_La_law_504 rfl (Nat.le_of_ble_eq_true rfl) ⟨by show _ ≤ 601024; omega, by show _ ≤ 7293034; omega⟩ ⟨Nat.le_of_ble_eq_true rfl, Nat.le_of_ble_eq_true rfl⟩ (fun r_504 G_504 hp_504 => ?_)
              obtain ⟨b6, B4, W4, ne4, ec4, rfl, hM4, hN4, hF4, hI4, eK, hn4⟩ := jFz hI hL.bk.1 hL.bk.2 (by first | rfl | exact absurd c_463 c_496 | exact absurd c_496 c_463) hR3 hp_504
              have hL4 := hL3.mod hM4 hN4 hF4
              have eB4 := hN4.1
              refine z_istore (L' := [(6, _), (5, _), (4, _), (3, _), (2, _), (1, _), (0, _)]) d_La_law_507 (by decide) rfl ?_
              refine z_goto 1088 d_La_law_509 (by decide) ?_
              refine z_iinc (v := nI (6 * (j + 1))) (L' := [(4, _), (6, _), (5, _), (3, _), (2, _), (1, _), (0, _)]) 2 d_La_law_1088 rfl (by rw [show 6 * (j + 1) = 6 * j + 6 by omega]; exact nI_add _ _) (by decide) rfl ?_
              refine z_goto 27 d_La_law_1091 (by decide) ?_
              refine z_sub (L' := [(4, _), (3, _), (2, _), (1, _), (0, _)]) [0, 3, 4, 5, 6] rfl ?_
              refine z_widen (k := 100 + 1000 * (j + 1)) (n := 1000 + 12000 * (j + 1)) (by omega) (by omega) ?_
              first
                | exact ih_27 (j + 1) _ hm1 hm2 ⟨_, _, _, _, _, _, _, _, _, eA4, eB4, hL4, hI4⟩
                | exact ih_27 (j + 1) _ hm1 hm2 ⟨_, _, _, _, _, _, _, _, _, rfl, rfl, hL, hI.up (by omega)⟩
            · skip
              refine z_iconst (v := 1) d_La_law_499 (by decide) ?_
              refine z_goto 504 d_La_law_500 (by decide) ?_
              refine z_callVp1 ((m_Mo_freezeE hs0 hst hL3.m _ _ _)) ym_Mo_freeze qM_La_133 qI_Mo_freeze qV_Mo_Mo_freeze zc_Mo hL3.m.mo d_La_law_504 rfl (Nat.le_of_ble_eq_true rfl) ⟨by show _ ≤ 601024; omega, by show _ ≤ 7293034; omega⟩ ⟨Nat.le_of_ble_eq_true rfl, Nat.le_of_ble_eq_true rfl⟩ (fun r_504 G_504 hp_504 => ?_)
              obtain ⟨b6, B4, W4, ne4, ec4, rfl, hM4, hN4, hF4, hI4, eK, hn4⟩ := jFz hI hL.bk.1 hL.bk.2 (by first | rfl | exact absurd c_463 c_496 | exact absurd c_496 c_463) hR3 hp_504
              have hL4 := hL3.mod hM4 hN4 hF4
              have eB4 := hN4.1
              refine z_istore (L' := [(6, _), (5, _), (4, _), (3, _), (2, _), (1, _), (0, _)]) d_La_law_507 (by decide) rfl ?_
              refine z_goto 1088 d_La_law_509 (by decide) ?_
              refine z_iinc (v := nI (6 * (j + 1))) (L' := [(4, _), (6, _), (5, _), (3, _), (2, _), (1, _), (0, _)]) 2 d_La_law_1088 rfl (by rw [show 6 * (j + 1) = 6 * j + 6 by omega]; exact nI_add _ _) (by decide) rfl ?_
              refine z_goto 27 d_La_law_1091 (by decide) ?_
              refine z_sub (L' := [(4, _), (3, _), (2, _), (1, _), (0, _)]) [0, 3, 4, 5, 6] rfl ?_
              refine z_widen (k := 100 + 1000 * (j + 1)) (n := 1000 + 12000 * (j + 1)) (by omega) (by omega) ?_
              first
                | exact ih_27 (j + 1) _ hm1 hm2 ⟨_, _, _, _, _, _, _, _, _, eA4, eB4, hL4, hI4⟩
                | exact ih_27 (j + 1) _ hm1 hm2 ⟨_, _, _, _, _, _, _, _, _, rfl, rfl, hL, hI.up (by omega)⟩
        by_cases e7 : w9 = 7
        · subst e7
          refine z_tableIn 512 d_La_law_44 (by decide) (by decide) rfl (by decide) ?_
          refine z_aload_n 3 d_La_law_512 rfl rfl ?_
          refine z_aload_n 4 d_La_law_513 rfl rfl ?_
          refine z_iload 0 d_La_law_514 rfl ?_
          refine z_iconst (v := (nI 1)) d_La_law_516 (by decide) ?_
          refine z_iadd d_La_law_517 ?_
          refine z_topv (v := nI (6 * j + 1)) (nI_add _ _) ?_
          refine z_sld hX hbl (vp_in_nI (show 6 * j + 1 < NN by omega) (by omega)) d_La_law_518 ?_
          refine z_aload_n 1 d_La_law_519 rfl rfl ?_
          refine z_callSWp1 ((m_La_pass hs0 hst hL.t hNc hL.o hL.o1 _)) ymw_La_pass qM_La_134 qS_La_pass d_La_law_520 rfl (Nat.le_of_ble_eq_true rfl) ⟨by show _ ≤ 601024; omega, by show _ ≤ 7293034; omega⟩ ⟨Nat.le_of_ble_eq_true rfl, Nat.le_of_ble_eq_true rfl⟩ (fun r_520 G_520 hp_520 => ?_)
          obtain ⟨k5, V3, v3, rfl, hR3, hT3, hO3, hF3, hn3⟩ := cC_pass hp_520
          have hL3 := hL.cls hT3 zNw.rf hO3 hF3
          have eA4 : A 0 = A 0 := rfl
          refine z_istore (L' := [(5, _), (4, _), (3, _), (2, _), (1, _), (0, _)]) d_La_law_523 (by decide) rfl ?_
          refine z_aload_n 3 d_La_law_525 rfl rfl ?_
          refine z_aload_n 5 d_La_law_526 rfl rfl ?_
          refine z_iload 1 d_La_law_527 rfl ?_
          refine z_iconst (v := (nI 1)) d_La_law_529 (by decide) ?_
          refine z_iadd d_La_law_530 ?_
          refine z_topv (v := nI (6 * j + 1)) (nI_add _ _) ?_
          refine z_sld hX hbl (vp_in_nI (show 6 * j + 1 < NN by omega) (by omega)) d_La_law_531 ?_
          refine z_callVp1 ((m_Mo_passE hs0 hst hL3.m _)) ym_Mo_pass qM_La_136 qI_Mo_pass qV_Mo_Mo_pass zc_Mo hL3.m.mo d_La_law_532 rfl (Nat.le_of_ble_eq_true rfl) ⟨by show _ ≤ 601024; omega, by show _ ≤ 7293034; omega⟩ ⟨Nat.le_of_ble_eq_true rfl, Nat.le_of_ble_eq_true rfl⟩ (fun r_532 G_532 hp_532 => ?_)
          obtain ⟨b6, B4, W4, ne4, ec4, rfl, hM4, hN4, hF4, hI4, eK, hn4⟩ := jPa hI hR3 hp_532
          have hL4 := hL3.mod hM4 hN4 hF4
          have eB4 := hN4.1
          refine z_istore (L' := [(6, _), (5, _), (4, _), (3, _), (2, _), (1, _), (0, _)]) d_La_law_535 (by decide) rfl ?_
          refine z_goto 1088 d_La_law_537 (by decide) ?_
          refine z_iinc (v := nI (6 * (j + 1))) (L' := [(4, _), (6, _), (5, _), (3, _), (2, _), (1, _), (0, _)]) 2 d_La_law_1088 rfl (by rw [show 6 * (j + 1) = 6 * j + 6 by omega]; exact nI_add _ _) (by decide) rfl ?_
          refine z_goto 27 d_La_law_1091 (by decide) ?_
          refine z_sub (L' := [(4, _), (3, _), (2, _), (1, _), (0, _)]) [0, 3, 4, 5, 6] rfl ?_
          refine z_widen (k := 100 + 1000 * (j + 1)) (n := 1000 + 12000 * (j + 1)) (by omega) (by omega) ?_
          first
            | exact ih_27 (j + 1) _ hm1 hm2 ⟨_, _, _, _, _, _, _, _, _, eA4, eB4, hL4, hI4⟩
            | exact ih_27 (j + 1) _ hm1 hm2 ⟨_, _, _, _, _, _, _, _, _, rfl, rfl, hL, hI.up (by omega)⟩
        by_cases e8 : w9 = 8
        · subst e8
          refine z_tableIn 540 d_La_law_44 (by decide) (by decide) rfl (by decide) ?_
          refine z_aload_n 3 d_La_law_540 rfl rfl ?_
          refine z_aload_n 4 d_La_law_541 rfl rfl ?_
          refine z_iload 0 d_La_law_542 rfl ?_
          refine z_iconst (v := (nI 1)) d_La_law_544 (by decide) ?_
          refine z_iadd d_La_law_545 ?_
          refine z_topv (v := nI (6 * j + 1)) (nI_add _ _) ?_
          refine z_sld hX hbl (vp_in_nI (show 6 * j + 1 < NN by omega) (by omega)) d_La_law_546 ?_
          refine z_aload_n 4 d_La_law_547 rfl rfl ?_
          refine z_iload 0 d_La_law_548 rfl ?_
          refine z_iconst (v := (nI 2)) d_La_law_550 (by decide) ?_
          refine z_iadd d_La_law_551 ?_
          refine z_topv (v := nI (6 * j + 2)) (nI_add _ _) ?_
          refine z_sld hX hbl (vp_in_nI (show 6 * j + 2 < NN by omega) (by omega)) d_La_law_552 ?_
          refine z_aload_n 1 d_La_law_553 rfl rfl ?_
          refine z_callSWp1 ((m_La_open hs0 hst hL.t hNc hL.o hL.o1 _ _)) ymw_La_open qM_La_137 qS_La_open d_La_law_554 rfl (Nat.le_of_ble_eq_true rfl) ⟨by show _ ≤ 601024; omega, by show _ ≤ 7293034; omega⟩ ⟨Nat.le_of_ble_eq_true rfl, Nat.le_of_ble_eq_true rfl⟩ (fun r_554 G_554 hp_554 => ?_)
          obtain ⟨k5, D3, V3, v3, rfl, hR3, hT3, hO3, hF3, hn3⟩ := hp_554
          have hL3 := hL.cls hT3 zNw.rf hO3 hF3
          have eA4 : A 0 = A 0 := rfl
          refine z_istore (L' := [(5, _), (4, _), (3, _), (2, _), (1, _), (0, _)]) d_La_law_557 (by decide) rfl ?_
          refine z_aload_n 3 d_La_law_559 rfl rfl ?_
          refine z_aload_n 5 d_La_law_560 rfl rfl ?_
          refine z_iload 1 d_La_law_561 rfl ?_
          refine z_iconst (v := (nI 1)) d_La_law_563 (by decide) ?_
          refine z_iadd d_La_law_564 ?_
          refine z_topv (v := nI (6 * j + 1)) (nI_add _ _) ?_
          refine z_sld hX hbl (vp_in_nI (show 6 * j + 1 < NN by omega) (by omega)) d_La_law_565 ?_
          refine z_aload_n 5 d_La_law_566 rfl rfl ?_
          refine z_iload 1 d_La_law_567 rfl ?_
          refine z_iconst (v := (nI 2)) d_La_law_569 (by decide) ?_
          refine z_iadd d_La_law_570 ?_
          refine z_topv (v := nI (6 * j + 2)) (nI_add _ _) ?_
          refine z_sld hX hbl (vp_in_nI (show 6 * j + 2 < NN by omega) (by omega)) d_La_law_571 ?_
          refine z_callVp1 ((m_Mo_openE hs0 hst hL3.m _ _ hI.ok)) ym_Mo_open qM_La_139 qI_Mo_open qV_Mo_Mo_open zc_Mo hL3.m.mo d_La_law_572 rfl (Nat.le_of_ble_eq_true rfl) ⟨by show _ ≤ 601024; omega, by show _ ≤ 7293034; omega⟩ ⟨Nat.le_of_ble_eq_true rfl, Nat.le_of_ble_eq_true rfl⟩ (fun r_572 G_572 hp_572 => ?_)
          obtain ⟨b6, B4, W4, ne4, ec4, rfl, hM4, hN4, hF4, hI4, eK, hn4⟩ := jOp hI (by omega) hL.bk.1 hL.bk.2 (fun _ hk => hL.m.no hk) hR3 hp_572
          have hL4 := hL3.mod hM4 hN4 hF4
          have eB4 := hN4.1
          refine z_istore (L' := [(6, _), (5, _), (4, _), (3, _), (2, _), (1, _), (0, _)]) d_La_law_575 (by decide) rfl ?_
          refine z_goto 1088 d_La_law_577 (by decide) ?_
          refine z_iinc (v := nI (6 * (j + 1))) (L' := [(4, _), (6, _), (5, _), (3, _), (2, _), (1, _), (0, _)]) 2 d_La_law_1088 rfl (by rw [show 6 * (j + 1) = 6 * j + 6 by omega]; exact nI_add _ _) (by decide) rfl ?_
          refine z_goto 27 d_La_law_1091 (by decide) ?_
          refine z_sub (L' := [(4, _), (3, _), (2, _), (1, _), (0, _)]) [0, 3, 4, 5, 6] rfl ?_
          refine z_widen (k := 100 + 1000 * (j + 1)) (n := 1000 + 12000 * (j + 1)) (by omega) (by omega) ?_
          first
            | exact ih_27 (j + 1) _ hm1 hm2 ⟨_, _, _, _, _, _, _, _, _, eA4, eB4, hL4, hI4⟩
            | exact ih_27 (j + 1) _ hm1 hm2 ⟨_, _, _, _, _, _, _, _, _, rfl, rfl, hL, hI.up (by omega)⟩
        by_cases e9 : w9 = 9
        · subst e9
          refine z_tableIn 580 d_La_law_44 (by decide) (by decide) rfl (by decide) ?_
          refine z_aload_n 3 d_La_law_580 rfl rfl ?_
          refine z_callVp1 ((m_Tb_knockE hs0 hst hL.t)) ym_Tb_knock qM_La_140 qI_Tb_knock qV_Tb_Tb_knock zc_Tb hL.t.tb d_La_law_581 rfl (Nat.le_of_ble_eq_true rfl) ⟨by show _ ≤ 601024; omega, by show _ ≤ 7293034; omega⟩ ⟨Nat.le_of_ble_eq_true rfl, Nat.le_of_ble_eq_true rfl⟩ (fun r_581 G_581 hp_581 => ?_)
          obtain ⟨rfl, hT3, hF3⟩ := hp_581
          have hL3 := hL.cls hT3 zNw.rf (hL.out hF3) (lFr.of hF3)
          have eA4 : A 0 = A 0 := rfl
          refine z_pop d_La_law_584 rfl ?_
          refine z_aload_n 2 d_La_law_585 rfl rfl ?_
          refine z_callVp1 ((m_Mo_knockE hs0 hst hL3.m)) ym_Mo_knock qM_La_144 qI_Mo_knock qV_Mo_Mo_knock zc_Mo hL3.m.mo d_La_law_586 rfl (Nat.le_of_ble_eq_true rfl) ⟨by show _ ≤ 601024; omega, by show _ ≤ 7293034; omega⟩ ⟨Nat.le_of_ble_eq_true rfl, Nat.le_of_ble_eq_true rfl⟩ (fun r_586 G_586 hp_586 => ?_)
          obtain ⟨W1, k1, k2, hM4, hF4, rfl⟩ := hp_586
          obtain ⟨eKn, hI4⟩ := jKn hI k1
          have hL4 := hL3.mod hM4 mNw.rf hF4
          have eB4 : B 0 = B 0 := rfl
          refine z_pop d_La_law_589 rfl ?_
          refine z_goto 1088 d_La_law_590 (by decide) ?_
          refine z_iinc (v := nI (6 * (j + 1))) (L' := [(4, _), (3, _), (2, _), (1, _), (0, _)]) 0 d_La_law_1088 rfl (by rw [show 6 * (j + 1) = 6 * j + 6 by omega]; exact nI_add _ _) (by decide) rfl ?_
          refine z_goto 27 d_La_law_1091 (by decide) ?_
          refine z_widen (k := 100 + 1000 * (j + 1)) (n := 1000 + 12000 * (j + 1)) (by omega) (by omega) ?_
          first
            | exact ih_27 (j + 1) _ hm1 hm2 ⟨_, _, _, _, _, _, _, _, _, eA4, eB4, hL4, hI4⟩
            | exact ih_27 (j + 1) _ hm1 hm2 ⟨_, _, _, _, _, _, _, _, _, rfl, rfl, hL, hI.up (by omega)⟩
        by_cases e10 : w9 = 10
        · subst e10
          refine z_tableIn 593 d_La_law_44 (by decide) (by decide) rfl (by decide) ?_
          refine z_aload_n 3 d_La_law_593 rfl rfl ?_
          refine z_aload_n 4 d_La_law_594 rfl rfl ?_
          refine z_iload 0 d_La_law_595 rfl ?_
          refine z_iconst (v := (nI 1)) d_La_law_597 (by decide) ?_
          refine z_iadd d_La_law_598 ?_
          refine z_topv (v := nI (6 * j + 1)) (nI_add _ _) ?_
          refine z_sld hX hbl (vp_in_nI (show 6 * j + 1 < NN by omega) (by omega)) d_La_law_599 ?_
          refine z_aload_n 4 d_La_law_600 rfl rfl ?_
          refine z_iload 0 d_La_law_601 rfl ?_
          refine z_iconst (v := (nI 2)) d_La_law_603 (by decide) ?_
          refine z_iadd d_La_law_604 ?_
          refine z_topv (v := nI (6 * j + 2)) (nI_add _ _) ?_
          refine z_sld hX hbl (vp_in_nI (show 6 * j + 2 < NN by omega) (by omega)) d_La_law_605 ?_
          refine z_aload_n 1 d_La_law_606 rfl rfl ?_
          refine z_callSWp1 ((m_La_ofKeeper hs0 hst hL.t hNc hL.o hL.o1 _ _)) ymw_La_ofKeeper qM_La_145 qS_La_ofKeeper d_La_law_607 rfl (Nat.le_of_ble_eq_true rfl) ⟨by show _ ≤ 601024; omega, by show _ ≤ 7293034; omega⟩ ⟨Nat.le_of_ble_eq_true rfl, Nat.le_of_ble_eq_true rfl⟩ (fun r_607 G_607 hp_607 => ?_)
          obtain ⟨⟨k5, rfl⟩, D3, V3, hT3, hK3, hO3, hF3⟩ := hp_607
          have hL3 := hL.cls hT3 zNw.rf hO3 hF3
          have eA4 : A 0 = A 0 := rfl
          refine z_istore (L' := [(5, _), (4, _), (3, _), (2, _), (1, _), (0, _)]) d_La_law_610 (by decide) rfl ?_
          refine z_aload_n 3 d_La_law_612 rfl rfl ?_
          refine z_aload_n 5 d_La_law_613 rfl rfl ?_
          refine z_iload 1 d_La_law_614 rfl ?_
          refine z_iconst (v := (nI 1)) d_La_law_616 (by decide) ?_
          refine z_iadd d_La_law_617 ?_
          refine z_topv (v := nI (6 * j + 1)) (nI_add _ _) ?_
          refine z_sld hX hbl (vp_in_nI (show 6 * j + 1 < NN by omega) (by omega)) d_La_law_618 ?_
          refine z_aload_n 5 d_La_law_619 rfl rfl ?_
          refine z_iload 1 d_La_law_620 rfl ?_
          refine z_iconst (v := (nI 2)) d_La_law_622 (by decide) ?_
          refine z_iadd d_La_law_623 ?_
          refine z_topv (v := nI (6 * j + 2)) (nI_add _ _) ?_
          refine z_sld hX hbl (vp_in_nI (show 6 * j + 2 < NN by omega) (by omega)) d_La_law_624 ?_
          refine z_callVp1 ((m_Mo_ofKeeper hs0 hst hL3.m _ _)) ym_Mo_ofKeeper qM_La_147 qI_Mo_ofKeeper qV_Mo_Mo_ofKeeper zc_Mo hL3.m.mo d_La_law_625 rfl (Nat.le_of_ble_eq_true rfl) ⟨by show _ ≤ 601024; omega, by show _ ≤ 7293034; omega⟩ ⟨Nat.le_of_ble_eq_true rfl, Nat.le_of_ble_eq_true rfl⟩ (fun r_625 G_625 hp_625 => ?_)
          obtain ⟨⟨b6, rfl⟩, W4, hM4, hK4, hF4⟩ := hp_625
          have hL4 := hL3.mod hM4 mNw.rf hF4
          have hI4 := ((hI.c hK3).m hK4).up (N' := j + 1) (by omega)
          have eB4 : B 0 = B 0 := rfl
          refine z_istore (L' := [(6, _), (5, _), (4, _), (3, _), (2, _), (1, _), (0, _)]) d_La_law_628 (by decide) rfl ?_
          refine z_goto 1088 d_La_law_630 (by decide) ?_
          refine z_iinc (v := nI (6 * (j + 1))) (L' := [(4, _), (6, _), (5, _), (3, _), (2, _), (1, _), (0, _)]) 2 d_La_law_1088 rfl (by rw [show 6 * (j + 1) = 6 * j + 6 by omega]; exact nI_add _ _) (by decide) rfl ?_
          refine z_goto 27 d_La_law_1091 (by decide) ?_
          refine z_sub (L' := [(4, _), (3, _), (2, _), (1, _), (0, _)]) [0, 3, 4, 5, 6] rfl ?_
          refine z_widen (k := 100 + 1000 * (j + 1)) (n := 1000 + 12000 * (j + 1)) (by omega) (by omega) ?_
          first
            | exact ih_27 (j + 1) _ hm1 hm2 ⟨_, _, _, _, _, _, _, _, _, eA4, eB4, hL4, hI4⟩
            | exact ih_27 (j + 1) _ hm1 hm2 ⟨_, _, _, _, _, _, _, _, _, rfl, rfl, hL, hI.up (by omega)⟩
        by_cases e11 : w9 = 11
        · subst e11
          refine z_tableIn 633 d_La_law_44 (by decide) (by decide) rfl (by decide) ?_
          refine z_aload_n 3 d_La_law_633 rfl rfl ?_
          refine z_aload_n 4 d_La_law_634 rfl rfl ?_
          refine z_iload 0 d_La_law_635 rfl ?_
          refine z_iconst (v := (nI 1)) d_La_law_637 (by decide) ?_
          refine z_iadd d_La_law_638 ?_
          refine z_topv (v := nI (6 * j + 1)) (nI_add _ _) ?_
          refine z_sld hX hbl (vp_in_nI (show 6 * j + 1 < NN by omega) (by omega)) d_La_law_639 ?_
          refine z_aload_n 4 d_La_law_640 rfl rfl ?_
          refine z_iload 0 d_La_law_641 rfl ?_
          refine z_iconst (v := (nI 2)) d_La_law_643 (by decide) ?_
          refine z_iadd d_La_law_644 ?_
          refine z_topv (v := nI (6 * j + 2)) (nI_add _ _) ?_
          refine z_sld hX hbl (vp_in_nI (show 6 * j + 2 < NN by omega) (by omega)) d_La_law_645 ?_
          refine z_aload_n 1 d_La_law_646 rfl rfl ?_
          refine z_callSWp1 ((m_La_ofSecret hs0 hst hL.t hNc hL.o hL.o1 _ _)) ymw_La_ofSecret qM_La_148 qS_La_ofSecret d_La_law_647 rfl (Nat.le_of_ble_eq_true rfl) ⟨by show _ ≤ 601024; omega, by show _ ≤ 7293034; omega⟩ ⟨Nat.le_of_ble_eq_true rfl, Nat.le_of_ble_eq_true rfl⟩ (fun r_647 G_647 hp_647 => ?_)
          obtain ⟨⟨k5, rfl⟩, D3, V3, hT3, hK3, hO3, hF3⟩ := hp_647
          have hL3 := hL.cls hT3 zNw.rf hO3 hF3
          have eA4 : A 0 = A 0 := rfl
          refine z_istore (L' := [(5, _), (4, _), (3, _), (2, _), (1, _), (0, _)]) d_La_law_650 (by decide) rfl ?_
          refine z_aload_n 3 d_La_law_652 rfl rfl ?_
          refine z_aload_n 5 d_La_law_653 rfl rfl ?_
          refine z_iload 1 d_La_law_654 rfl ?_
          refine z_iconst (v := (nI 1)) d_La_law_656 (by decide) ?_
          refine z_iadd d_La_law_657 ?_
          refine z_topv (v := nI (6 * j + 1)) (nI_add _ _) ?_
          refine z_sld hX hbl (vp_in_nI (show 6 * j + 1 < NN by omega) (by omega)) d_La_law_658 ?_
          refine z_aload_n 5 d_La_law_659 rfl rfl ?_
          refine z_iload 1 d_La_law_660 rfl ?_
          refine z_iconst (v := (nI 2)) d_La_law_662 (by decide) ?_
          refine z_iadd d_La_law_663 ?_
          refine z_topv (v := nI (6 * j + 2)) (nI_add _ _) ?_
          refine z_sld hX hbl (vp_in_nI (show 6 * j + 2 < NN by omega) (by omega)) d_La_law_664 ?_
          refine z_callVp1 ((m_Mo_ofSecret hs0 hst hL3.m _ _)) ym_Mo_ofSecret qM_La_150 qI_Mo_ofSecret qV_Mo_Mo_ofSecret zc_Mo hL3.m.mo d_La_law_665 rfl (Nat.le_of_ble_eq_true rfl) ⟨by show _ ≤ 601024; omega, by show _ ≤ 7293034; omega⟩ ⟨Nat.le_of_ble_eq_true rfl, Nat.le_of_ble_eq_true rfl⟩ (fun r_665 G_665 hp_665 => ?_)
          obtain ⟨⟨b6, rfl⟩, W4, hM4, hK4, hF4⟩ := hp_665
          have hL4 := hL3.mod hM4 mNw.rf hF4
          have hI4 := ((hI.c hK3).m hK4).up (N' := j + 1) (by omega)
          have eB4 : B 0 = B 0 := rfl
          refine z_istore (L' := [(6, _), (5, _), (4, _), (3, _), (2, _), (1, _), (0, _)]) d_La_law_668 (by decide) rfl ?_
          refine z_goto 1088 d_La_law_670 (by decide) ?_
          refine z_iinc (v := nI (6 * (j + 1))) (L' := [(4, _), (6, _), (5, _), (3, _), (2, _), (1, _), (0, _)]) 2 d_La_law_1088 rfl (by rw [show 6 * (j + 1) = 6 * j + 6 by omega]; exact nI_add _ _) (by decide) rfl ?_
          refine z_goto 27 d_La_law_1091 (by decide) ?_
          refine z_sub (L' := [(4, _), (3, _), (2, _), (1, _), (0, _)]) [0, 3, 4, 5, 6] rfl ?_
          refine z_widen (k := 100 + 1000 * (j + 1)) (n := 1000 + 12000 * (j + 1)) (by omega) (by omega) ?_
          first
            | exact ih_27 (j + 1) _ hm1 hm2 ⟨_, _, _, _, _, _, _, _, _, eA4, eB4, hL4, hI4⟩
            | exact ih_27 (j + 1) _ hm1 hm2 ⟨_, _, _, _, _, _, _, _, _, rfl, rfl, hL, hI.up (by omega)⟩
        by_cases e12 : w9 = 12
        · subst e12
          refine z_tableIn 673 d_La_law_44 (by decide) (by decide) rfl (by decide) ?_
          refine z_aload_n 3 d_La_law_673 rfl rfl ?_
          refine z_aload_n 4 d_La_law_674 rfl rfl ?_
          refine z_iload 0 d_La_law_675 rfl ?_
          refine z_iconst (v := (nI 1)) d_La_law_677 (by decide) ?_
          refine z_iadd d_La_law_678 ?_
          refine z_topv (v := nI (6 * j + 1)) (nI_add _ _) ?_
          refine z_sld hX hbl (vp_in_nI (show 6 * j + 1 < NN by omega) (by omega)) d_La_law_679 ?_
          refine z_aload_n 4 d_La_law_680 rfl rfl ?_
          refine z_iload 0 d_La_law_681 rfl ?_
          refine z_iconst (v := (nI 2)) d_La_law_683 (by decide) ?_
          refine z_iadd d_La_law_684 ?_
          refine z_topv (v := nI (6 * j + 2)) (nI_add _ _) ?_
          refine z_sld hX hbl (vp_in_nI (show 6 * j + 2 < NN by omega) (by omega)) d_La_law_685 ?_
          refine z_aload_n 4 d_La_law_686 rfl rfl ?_
          refine z_iload 0 d_La_law_687 rfl ?_
          refine z_iconst (v := (nI 3)) d_La_law_689 (by decide) ?_
          refine z_iadd d_La_law_690 ?_
          refine z_topv (v := nI (6 * j + 3)) (nI_add _ _) ?_
          refine z_sld hX hbl (vp_in_nI (show 6 * j + 3 < NN by omega) (by omega)) d_La_law_691 ?_
          refine z_aload_n 1 d_La_law_692 rfl rfl ?_
          refine z_callSWp1 ((m_La_share hs0 hst hL.t hNc hL.o hL.o1 _ _ _)) ymw_La_share qM_La_151 qS_La_share d_La_law_693 rfl (Nat.le_of_ble_eq_true rfl) ⟨by show _ ≤ 601024; omega, by show _ ≤ 7293034; omega⟩ ⟨Nat.le_of_ble_eq_true rfl, Nat.le_of_ble_eq_true rfl⟩ (fun r_693 G_693 hp_693 => ?_)
          obtain ⟨⟨k5, rfl⟩, D3, V3, hT3, hK3, hO3, hF3⟩ := hp_693
          have hL3 := hL.cls hT3 zNw.rf hO3 hF3
          have eA4 : A 0 = A 0 := rfl
          refine z_istore (L' := [(5, _), (4, _), (3, _), (2, _), (1, _), (0, _)]) d_La_law_696 (by decide) rfl ?_
          refine z_aload_n 3 d_La_law_698 rfl rfl ?_
          refine z_aload_n 5 d_La_law_699 rfl rfl ?_
          refine z_iload 1 d_La_law_700 rfl ?_
          refine z_iconst (v := (nI 1)) d_La_law_702 (by decide) ?_
          refine z_iadd d_La_law_703 ?_
          refine z_topv (v := nI (6 * j + 1)) (nI_add _ _) ?_
          refine z_sld hX hbl (vp_in_nI (show 6 * j + 1 < NN by omega) (by omega)) d_La_law_704 ?_
          refine z_aload_n 5 d_La_law_705 rfl rfl ?_
          refine z_iload 1 d_La_law_706 rfl ?_
          refine z_iconst (v := (nI 2)) d_La_law_708 (by decide) ?_
          refine z_iadd d_La_law_709 ?_
          refine z_topv (v := nI (6 * j + 2)) (nI_add _ _) ?_
          refine z_sld hX hbl (vp_in_nI (show 6 * j + 2 < NN by omega) (by omega)) d_La_law_710 ?_
          refine z_aload_n 5 d_La_law_711 rfl rfl ?_
          refine z_iload 1 d_La_law_712 rfl ?_
          refine z_iconst (v := (nI 3)) d_La_law_714 (by decide) ?_
          refine z_iadd d_La_law_715 ?_
          refine z_topv (v := nI (6 * j + 3)) (nI_add _ _) ?_
          refine z_sld hX hbl (vp_in_nI (show 6 * j + 3 < NN by omega) (by omega)) d_La_law_716 ?_
          refine z_callVp1 ((m_Mo_share hs0 hst hL3.m _ _ _)) ym_Mo_share qM_La_153 qI_Mo_share qV_Mo_Mo_share zc_Mo hL3.m.mo d_La_law_717 rfl (Nat.le_of_ble_eq_true rfl) ⟨by show _ ≤ 601024; omega, by show _ ≤ 7293034; omega⟩ ⟨Nat.le_of_ble_eq_true rfl, Nat.le_of_ble_eq_true rfl⟩ (fun r_717 G_717 hp_717 => ?_)
          obtain ⟨⟨b6, rfl⟩, W4, hM4, hK4, hF4⟩ := hp_717
          have hL4 := hL3.mod hM4 mNw.rf hF4
          have hI4 := ((hI.c hK3).m hK4).up (N' := j + 1) (by omega)
          have eB4 : B 0 = B 0 := rfl
          refine z_istore (L' := [(6, _), (5, _), (4, _), (3, _), (2, _), (1, _), (0, _)]) d_La_law_720 (by decide) rfl ?_
          refine z_goto 1088 d_La_law_722 (by decide) ?_
          refine z_iinc (v := nI (6 * (j + 1))) (L' := [(4, _), (6, _), (5, _), (3, _), (2, _), (1, _), (0, _)]) 2 d_La_law_1088 rfl (by rw [show 6 * (j + 1) = 6 * j + 6 by omega]; exact nI_add _ _) (by decide) rfl ?_
          refine z_goto 27 d_La_law_1091 (by decide) ?_
          refine z_sub (L' := [(4, _), (3, _), (2, _), (1, _), (0, _)]) [0, 3, 4, 5, 6] rfl ?_
          refine z_widen (k := 100 + 1000 * (j + 1)) (n := 1000 + 12000 * (j + 1)) (by omega) (by omega) ?_
          first
            | exact ih_27 (j + 1) _ hm1 hm2 ⟨_, _, _, _, _, _, _, _, _, eA4, eB4, hL4, hI4⟩
            | exact ih_27 (j + 1) _ hm1 hm2 ⟨_, _, _, _, _, _, _, _, _, rfl, rfl, hL, hI.up (by omega)⟩
        by_cases e13 : w9 = 13
        · subst e13
          refine z_tableIn 725 d_La_law_44 (by decide) (by decide) rfl (by decide) ?_
          refine z_aload_n 3 d_La_law_725 rfl rfl ?_
          refine z_aload_n 4 d_La_law_726 rfl rfl ?_
          refine z_iload 0 d_La_law_727 rfl ?_
          refine z_iconst (v := (nI 1)) d_La_law_729 (by decide) ?_
          refine z_iadd d_La_law_730 ?_
          refine z_topv (v := nI (6 * j + 1)) (nI_add _ _) ?_
          refine z_sld hX hbl (vp_in_nI (show 6 * j + 1 < NN by omega) (by omega)) d_La_law_731 ?_
          refine z_aload_n 1 d_La_law_732 rfl rfl ?_
          refine z_callSWp1 ((m_La_bank hs0 hst hL.t hNc hL.o hL.o1 _)) ymw_La_bank qM_La_154 qS_La_bank d_La_law_733 rfl (Nat.le_of_ble_eq_true rfl) ⟨by show _ ≤ 601024; omega, by show _ ≤ 7293034; omega⟩ ⟨Nat.le_of_ble_eq_true rfl, Nat.le_of_ble_eq_true rfl⟩ (fun r_733 G_733 hp_733 => ?_)
          obtain ⟨⟨k5, rfl⟩, D3, V3, hT3, hK3, hO3, hF3⟩ := hp_733
          have hL3 := hL.cls hT3 zNw.rf hO3 hF3
          have eA4 : A 0 = A 0 := rfl
          refine z_istore (L' := [(5, _), (4, _), (3, _), (2, _), (1, _), (0, _)]) d_La_law_736 (by decide) rfl ?_
          refine z_aload_n 3 d_La_law_738 rfl rfl ?_
          refine z_aload_n 5 d_La_law_739 rfl rfl ?_
          refine z_iload 1 d_La_law_740 rfl ?_
          refine z_iconst (v := (nI 1)) d_La_law_742 (by decide) ?_
          refine z_iadd d_La_law_743 ?_
          refine z_topv (v := nI (6 * j + 1)) (nI_add _ _) ?_
          refine z_sld hX hbl (vp_in_nI (show 6 * j + 1 < NN by omega) (by omega)) d_La_law_744 ?_
          refine z_callVp1 ((m_Mo_bank hs0 hst hL3.m _)) ym_Mo_bank qM_La_156 qI_Mo_bank qV_Mo_Mo_bank zc_Mo hL3.m.mo d_La_law_745 rfl (Nat.le_of_ble_eq_true rfl) ⟨by show _ ≤ 601024; omega, by show _ ≤ 7293034; omega⟩ ⟨Nat.le_of_ble_eq_true rfl, Nat.le_of_ble_eq_true rfl⟩ (fun r_745 G_745 hp_745 => ?_)
          obtain ⟨⟨b6, rfl⟩, W4, hM4, hK4, hF4⟩ := hp_745
          have hL4 := hL3.mod hM4 mNw.rf hF4
          have hI4 := ((hI.c hK3).m hK4).up (N' := j + 1) (by omega)
          have eB4 : B 0 = B 0 := rfl
          refine z_istore (L' := [(6, _), (5, _), (4, _), (3, _), (2, _), (1, _), (0, _)]) d_La_law_748 (by decide) rfl ?_
          refine z_goto 1088 d_La_law_750 (by decide) ?_
          refine z_iinc (v := nI (6 * (j + 1))) (L' := [(4, _), (6, _), (5, _), (3, _), (2, _), (1, _), (0, _)]) 2 d_La_law_1088 rfl (by rw [show 6 * (j + 1) = 6 * j + 6 by omega]; exact nI_add _ _) (by decide) rfl ?_
          refine z_goto 27 d_La_law_1091 (by decide) ?_
          refine z_sub (L' := [(4, _), (3, _), (2, _), (1, _), (0, _)]) [0, 3, 4, 5, 6] rfl ?_
          refine z_widen (k := 100 + 1000 * (j + 1)) (n := 1000 + 12000 * (j + 1)) (by omega) (by omega) ?_
          first
            | exact ih_27 (j + 1) _ hm1 hm2 ⟨_, _, _, _, _, _, _, _, _, eA4, eB4, hL4, hI4⟩
            | exact ih_27 (j + 1) _ hm1 hm2 ⟨_, _, _, _, _, _, _, _, _, rfl, rfl, hL, hI.up (by omega)⟩
        by_cases e14 : w9 = 14
        · subst e14
          refine z_tableIn 753 d_La_law_44 (by decide) (by decide) rfl (by decide) ?_
          refine z_aload_n 3 d_La_law_753 rfl rfl ?_
          refine z_aload_n 4 d_La_law_754 rfl rfl ?_
          refine z_iload 0 d_La_law_755 rfl ?_
          refine z_iconst (v := (nI 1)) d_La_law_757 (by decide) ?_
          refine z_iadd d_La_law_758 ?_
          refine z_topv (v := nI (6 * j + 1)) (nI_add _ _) ?_
          refine z_sld hX hbl (vp_in_nI (show 6 * j + 1 < NN by omega) (by omega)) d_La_law_759 ?_
          refine z_aload_n 4 d_La_law_760 rfl rfl ?_
          refine z_iload 0 d_La_law_761 rfl ?_
          refine z_iconst (v := (nI 2)) d_La_law_763 (by decide) ?_
          refine z_iadd d_La_law_764 ?_
          refine z_topv (v := nI (6 * j + 2)) (nI_add _ _) ?_
          refine z_sld hX hbl (vp_in_nI (show 6 * j + 2 < NN by omega) (by omega)) d_La_law_765 ?_
          refine z_aload_n 1 d_La_law_766 rfl rfl ?_
          refine z_callSWp1 ((m_La_ofEntry hs0 hst hL.t hNc hL.o hL.o1 _ _)) ymw_La_ofEntry qM_La_157 qS_La_ofEntry d_La_law_767 rfl (Nat.le_of_ble_eq_true rfl) ⟨by show _ ≤ 601024; omega, by show _ ≤ 7293034; omega⟩ ⟨Nat.le_of_ble_eq_true rfl, Nat.le_of_ble_eq_true rfl⟩ (fun r_767 G_767 hp_767 => ?_)
          obtain ⟨⟨k5, rfl⟩, D3, V3, hT3, hK3, hO3, hF3⟩ := hp_767
          have hL3 := hL.cls hT3 zNw.rf hO3 hF3
          have eA4 : A 0 = A 0 := rfl
          refine z_istore (L' := [(5, _), (4, _), (3, _), (2, _), (1, _), (0, _)]) d_La_law_770 (by decide) rfl ?_
          refine z_aload_n 3 d_La_law_772 rfl rfl ?_
          refine z_aload_n 5 d_La_law_773 rfl rfl ?_
          refine z_iload 1 d_La_law_774 rfl ?_
          refine z_iconst (v := (nI 1)) d_La_law_776 (by decide) ?_
          refine z_iadd d_La_law_777 ?_
          refine z_topv (v := nI (6 * j + 1)) (nI_add _ _) ?_
          refine z_sld hX hbl (vp_in_nI (show 6 * j + 1 < NN by omega) (by omega)) d_La_law_778 ?_
          refine z_aload_n 5 d_La_law_779 rfl rfl ?_
          refine z_iload 1 d_La_law_780 rfl ?_
          refine z_iconst (v := (nI 2)) d_La_law_782 (by decide) ?_
          refine z_iadd d_La_law_783 ?_
          refine z_topv (v := nI (6 * j + 2)) (nI_add _ _) ?_
          refine z_sld hX hbl (vp_in_nI (show 6 * j + 2 < NN by omega) (by omega)) d_La_law_784 ?_
          refine z_callVp1 ((m_Mo_ofEntry hs0 hst hL3.m _ _)) ym_Mo_ofEntry qM_La_159 qI_Mo_ofEntry qV_Mo_Mo_ofEntry zc_Mo hL3.m.mo d_La_law_785 rfl (Nat.le_of_ble_eq_true rfl) ⟨by show _ ≤ 601024; omega, by show _ ≤ 7293034; omega⟩ ⟨Nat.le_of_ble_eq_true rfl, Nat.le_of_ble_eq_true rfl⟩ (fun r_785 G_785 hp_785 => ?_)
          obtain ⟨⟨b6, rfl⟩, W4, hM4, hK4, hF4⟩ := hp_785
          have hL4 := hL3.mod hM4 mNw.rf hF4
          have hI4 := ((hI.c hK3).m hK4).up (N' := j + 1) (by omega)
          have eB4 : B 0 = B 0 := rfl
          refine z_istore (L' := [(6, _), (5, _), (4, _), (3, _), (2, _), (1, _), (0, _)]) d_La_law_788 (by decide) rfl ?_
          refine z_goto 1088 d_La_law_790 (by decide) ?_
          refine z_iinc (v := nI (6 * (j + 1))) (L' := [(4, _), (6, _), (5, _), (3, _), (2, _), (1, _), (0, _)]) 2 d_La_law_1088 rfl (by rw [show 6 * (j + 1) = 6 * j + 6 by omega]; exact nI_add _ _) (by decide) rfl ?_
          refine z_goto 27 d_La_law_1091 (by decide) ?_
          refine z_sub (L' := [(4, _), (3, _), (2, _), (1, _), (0, _)]) [0, 3, 4, 5, 6] rfl ?_
          refine z_widen (k := 100 + 1000 * (j + 1)) (n := 1000 + 12000 * (j + 1)) (by omega) (by omega) ?_
          first
            | exact ih_27 (j + 1) _ hm1 hm2 ⟨_, _, _, _, _, _, _, _, _, eA4, eB4, hL4, hI4⟩
            | exact ih_27 (j + 1) _ hm1 hm2 ⟨_, _, _, _, _, _, _, _, _, rfl, rfl, hL, hI.up (by omega)⟩
        by_cases e15 : w9 = 15
        · subst e15
          refine z_tableIn 793 d_La_law_44 (by decide) (by decide) rfl (by decide) ?_
          refine z_aload_n 3 d_La_law_793 rfl rfl ?_
          refine z_aload_n 4 d_La_law_794 rfl rfl ?_
          refine z_iload 0 d_La_law_795 rfl ?_
          refine z_iconst (v := (nI 1)) d_La_law_797 (by decide) ?_
          refine z_iadd d_La_law_798 ?_
          refine z_topv (v := nI (6 * j + 1)) (nI_add _ _) ?_
          refine z_sld hX hbl (vp_in_nI (show 6 * j + 1 < NN by omega) (by omega)) d_La_law_799 ?_
          refine z_aload_n 4 d_La_law_800 rfl rfl ?_
          refine z_iload 0 d_La_law_801 rfl ?_
          refine z_iconst (v := (nI 2)) d_La_law_803 (by decide) ?_
          refine z_iadd d_La_law_804 ?_
          refine z_topv (v := nI (6 * j + 2)) (nI_add _ _) ?_
          refine z_sld hX hbl (vp_in_nI (show 6 * j + 2 < NN by omega) (by omega)) d_La_law_805 ?_
          refine z_aload_n 1 d_La_law_806 rfl rfl ?_
          refine z_callSWp1 ((m_La_proof hs0 hst hL.t hNc hL.o hL.o1 _ _)) ymw_La_proof qM_La_160 qS_La_proof d_La_law_807 rfl (Nat.le_of_ble_eq_true rfl) ⟨by show _ ≤ 601024; omega, by show _ ≤ 7293034; omega⟩ ⟨Nat.le_of_ble_eq_true rfl, Nat.le_of_ble_eq_true rfl⟩ (fun r_807 G_807 hp_807 => ?_)
          obtain ⟨⟨k5, rfl⟩, D3, V3, hT3, hK3, hO3, hF3⟩ := hp_807
          have hL3 := hL.cls hT3 zNw.rf hO3 hF3
          have eA4 : A 0 = A 0 := rfl
          refine z_istore (L' := [(5, _), (4, _), (3, _), (2, _), (1, _), (0, _)]) d_La_law_810 (by decide) rfl ?_
          refine z_aload_n 3 d_La_law_812 rfl rfl ?_
          refine z_aload_n 5 d_La_law_813 rfl rfl ?_
          refine z_iload 1 d_La_law_814 rfl ?_
          refine z_iconst (v := (nI 1)) d_La_law_816 (by decide) ?_
          refine z_iadd d_La_law_817 ?_
          refine z_topv (v := nI (6 * j + 1)) (nI_add _ _) ?_
          refine z_sld hX hbl (vp_in_nI (show 6 * j + 1 < NN by omega) (by omega)) d_La_law_818 ?_
          refine z_aload_n 5 d_La_law_819 rfl rfl ?_
          refine z_iload 1 d_La_law_820 rfl ?_
          refine z_iconst (v := (nI 2)) d_La_law_822 (by decide) ?_
          refine z_iadd d_La_law_823 ?_
          refine z_topv (v := nI (6 * j + 2)) (nI_add _ _) ?_
          refine z_sld hX hbl (vp_in_nI (show 6 * j + 2 < NN by omega) (by omega)) d_La_law_824 ?_
          refine z_callVp1 ((m_Mo_proof hs0 hst hL3.m _ _)) ym_Mo_proof qM_La_162 qI_Mo_proof qV_Mo_Mo_proof zc_Mo hL3.m.mo d_La_law_825 rfl (Nat.le_of_ble_eq_true rfl) ⟨by show _ ≤ 601024; omega, by show _ ≤ 7293034; omega⟩ ⟨Nat.le_of_ble_eq_true rfl, Nat.le_of_ble_eq_true rfl⟩ (fun r_825 G_825 hp_825 => ?_)
          obtain ⟨⟨b6, rfl⟩, W4, hM4, hK4, hF4⟩ := hp_825
          have hL4 := hL3.mod hM4 mNw.rf hF4
          have hI4 := ((hI.c hK3).m hK4).up (N' := j + 1) (by omega)
          have eB4 : B 0 = B 0 := rfl
          refine z_istore (L' := [(6, _), (5, _), (4, _), (3, _), (2, _), (1, _), (0, _)]) d_La_law_828 (by decide) rfl ?_
          refine z_goto 1088 d_La_law_830 (by decide) ?_
          refine z_iinc (v := nI (6 * (j + 1))) (L' := [(4, _), (6, _), (5, _), (3, _), (2, _), (1, _), (0, _)]) 2 d_La_law_1088 rfl (by rw [show 6 * (j + 1) = 6 * j + 6 by omega]; exact nI_add _ _) (by decide) rfl ?_
          refine z_goto 27 d_La_law_1091 (by decide) ?_
          refine z_sub (L' := [(4, _), (3, _), (2, _), (1, _), (0, _)]) [0, 3, 4, 5, 6] rfl ?_
          refine z_widen (k := 100 + 1000 * (j + 1)) (n := 1000 + 12000 * (j + 1)) (by omega) (by omega) ?_
          first
            | exact ih_27 (j + 1) _ hm1 hm2 ⟨_, _, _, _, _, _, _, _, _, eA4, eB4, hL4, hI4⟩
            | exact ih_27 (j + 1) _ hm1 hm2 ⟨_, _, _, _, _, _, _, _, _, rfl, rfl, hL, hI.up (by omega)⟩
        by_cases e16 : w9 = 16
        · subst e16
          refine z_tableIn 833 d_La_law_44 (by decide) (by decide) rfl (by decide) ?_
          refine z_aload_n 3 d_La_law_833 rfl rfl ?_
          refine z_aload_n 4 d_La_law_834 rfl rfl ?_
          refine z_iload 0 d_La_law_835 rfl ?_
          refine z_iconst (v := (nI 1)) d_La_law_837 (by decide) ?_
          refine z_iadd d_La_law_838 ?_
          refine z_topv (v := nI (6 * j + 1)) (nI_add _ _) ?_
          refine z_sld hX hbl (vp_in_nI (show 6 * j + 1 < NN by omega) (by omega)) d_La_law_839 ?_
          refine z_aload_n 1 d_La_law_840 rfl rfl ?_
          refine z_callSWp1 ((m_La_row hs0 hst hL.t hNc hL.o hL.o1 _)) ymw_La_row qM_La_163 qS_La_row d_La_law_841 rfl (Nat.le_of_ble_eq_true rfl) ⟨by show _ ≤ 601024; omega, by show _ ≤ 7293034; omega⟩ ⟨Nat.le_of_ble_eq_true rfl, Nat.le_of_ble_eq_true rfl⟩ (fun r_841 G_841 hp_841 => ?_)
          obtain ⟨⟨k5, rfl⟩, D3, V3, hT3, hK3, hO3, hF3⟩ := hp_841
          have hL3 := hL.cls hT3 zNw.rf hO3 hF3
          have eA4 : A 0 = A 0 := rfl
          refine z_istore (L' := [(5, _), (4, _), (3, _), (2, _), (1, _), (0, _)]) d_La_law_844 (by decide) rfl ?_
          refine z_aload_n 3 d_La_law_846 rfl rfl ?_
          refine z_aload_n 5 d_La_law_847 rfl rfl ?_
          refine z_iload 1 d_La_law_848 rfl ?_
          refine z_iconst (v := (nI 1)) d_La_law_850 (by decide) ?_
          refine z_iadd d_La_law_851 ?_
          refine z_topv (v := nI (6 * j + 1)) (nI_add _ _) ?_
          refine z_sld hX hbl (vp_in_nI (show 6 * j + 1 < NN by omega) (by omega)) d_La_law_852 ?_
          refine z_callVp1 ((m_Mo_row hs0 hst hL3.m _)) ym_Mo_row qM_La_165 qI_Mo_row qV_Mo_Mo_row zc_Mo hL3.m.mo d_La_law_853 rfl (Nat.le_of_ble_eq_true rfl) ⟨by show _ ≤ 601024; omega, by show _ ≤ 7293034; omega⟩ ⟨Nat.le_of_ble_eq_true rfl, Nat.le_of_ble_eq_true rfl⟩ (fun r_853 G_853 hp_853 => ?_)
          obtain ⟨⟨b6, rfl⟩, W4, hM4, hK4, hF4⟩ := hp_853
          have hL4 := hL3.mod hM4 mNw.rf hF4
          have hI4 := ((hI.c hK3).m hK4).up (N' := j + 1) (by omega)
          have eB4 : B 0 = B 0 := rfl
          refine z_astore (L' := [(6, _), (5, _), (4, _), (3, _), (2, _), (1, _), (0, _)]) d_La_law_856 (by decide) rfl ?_
          refine z_goto 1088 d_La_law_858 (by decide) ?_
          refine z_iinc (v := nI (6 * (j + 1))) (L' := [(4, _), (6, _), (5, _), (3, _), (2, _), (1, _), (0, _)]) 2 d_La_law_1088 rfl (by rw [show 6 * (j + 1) = 6 * j + 6 by omega]; exact nI_add _ _) (by decide) rfl ?_
          refine z_goto 27 d_La_law_1091 (by decide) ?_
          refine z_sub (L' := [(4, _), (3, _), (2, _), (1, _), (0, _)]) [0, 3, 4, 5, 6] rfl ?_
          refine z_widen (k := 100 + 1000 * (j + 1)) (n := 1000 + 12000 * (j + 1)) (by omega) (by omega) ?_
          first
            | exact ih_27 (j + 1) _ hm1 hm2 ⟨_, _, _, _, _, _, _, _, _, eA4, eB4, hL4, hI4⟩
            | exact ih_27 (j + 1) _ hm1 hm2 ⟨_, _, _, _, _, _, _, _, _, rfl, rfl, hL, hI.up (by omega)⟩
        by_cases e17 : w9 = 17
        · subst e17
          refine z_tableIn 861 d_La_law_44 (by decide) (by decide) rfl (by decide) ?_
          refine z_aload_n 3 d_La_law_861 rfl rfl ?_
          refine z_aload_n 4 d_La_law_862 rfl rfl ?_
          refine z_iload 0 d_La_law_863 rfl ?_
          refine z_iconst (v := (nI 1)) d_La_law_865 (by decide) ?_
          refine z_iadd d_La_law_866 ?_
          refine z_topv (v := nI (6 * j + 1)) (nI_add _ _) ?_
          refine z_sld hX hbl (vp_in_nI (show 6 * j + 1 < NN by omega) (by omega)) d_La_law_867 ?_
          refine z_aload_n 4 d_La_law_868 rfl rfl ?_
          refine z_iload 0 d_La_law_869 rfl ?_
          refine z_iconst (v := (nI 2)) d_La_law_871 (by decide) ?_
          refine z_iadd d_La_law_872 ?_
          refine z_topv (v := nI (6 * j + 2)) (nI_add _ _) ?_
          refine z_sld hX hbl (vp_in_nI (show 6 * j + 2 < NN by omega) (by omega)) d_La_law_873 ?_
          refine z_aload_n 4 d_La_law_874 rfl rfl ?_
          refine z_iload 0 d_La_law_875 rfl ?_
          refine z_iconst (v := (nI 3)) d_La_law_877 (by decide) ?_
          refine z_iadd d_La_law_878 ?_
          refine z_topv (v := nI (6 * j + 3)) (nI_add _ _) ?_
          refine z_sld hX hbl (vp_in_nI (show 6 * j + 3 < NN by omega) (by omega)) d_La_law_879 ?_
          refine z_aload_n 1 d_La_law_880 rfl rfl ?_
          refine z_callSWp1 ((m_La_would hs0 hst hL.t hNc hL.o hL.o1 _ _ _)) ymw_La_would qM_La_166 qS_La_would d_La_law_881 rfl (Nat.le_of_ble_eq_true rfl) ⟨by show _ ≤ 601024; omega, by show _ ≤ 7293034; omega⟩ ⟨Nat.le_of_ble_eq_true rfl, Nat.le_of_ble_eq_true rfl⟩ (fun r_881 G_881 hp_881 => ?_)
          obtain ⟨⟨k5, rfl⟩, D3, V3, hT3, hK3, hO3, hF3⟩ := hp_881
          have hL3 := hL.cls hT3 zNw.rf hO3 hF3
          have eA4 : A 0 = A 0 := rfl
          refine z_istore (L' := [(5, _), (4, _), (3, _), (2, _), (1, _), (0, _)]) d_La_law_884 (by decide) rfl ?_
          refine z_aload_n 3 d_La_law_886 rfl rfl ?_
          refine z_aload_n 5 d_La_law_887 rfl rfl ?_
          refine z_iload 1 d_La_law_888 rfl ?_
          refine z_iconst (v := (nI 1)) d_La_law_890 (by decide) ?_
          refine z_iadd d_La_law_891 ?_
          refine z_topv (v := nI (6 * j + 1)) (nI_add _ _) ?_
          refine z_sld hX hbl (vp_in_nI (show 6 * j + 1 < NN by omega) (by omega)) d_La_law_892 ?_
          refine z_aload_n 5 d_La_law_893 rfl rfl ?_
          refine z_iload 1 d_La_law_894 rfl ?_
          refine z_iconst (v := (nI 2)) d_La_law_896 (by decide) ?_
          refine z_iadd d_La_law_897 ?_
          refine z_topv (v := nI (6 * j + 2)) (nI_add _ _) ?_
          refine z_sld hX hbl (vp_in_nI (show 6 * j + 2 < NN by omega) (by omega)) d_La_law_898 ?_
          refine z_aload_n 5 d_La_law_899 rfl rfl ?_
          refine z_iload 1 d_La_law_900 rfl ?_
          refine z_iconst (v := (nI 3)) d_La_law_902 (by decide) ?_
          refine z_iadd d_La_law_903 ?_
          refine z_topv (v := nI (6 * j + 3)) (nI_add _ _) ?_
          refine z_sld hX hbl (vp_in_nI (show 6 * j + 3 < NN by omega) (by omega)) d_La_law_904 ?_
          refine z_callVp1 ((m_Mo_would hs0 hst hL3.m _ _ _)) ym_Mo_would qM_La_168 qI_Mo_would qV_Mo_Mo_would zc_Mo hL3.m.mo d_La_law_905 rfl (Nat.le_of_ble_eq_true rfl) ⟨by show _ ≤ 601024; omega, by show _ ≤ 7293034; omega⟩ ⟨Nat.le_of_ble_eq_true rfl, Nat.le_of_ble_eq_true rfl⟩ (fun r_905 G_905 hp_905 => ?_)
          obtain ⟨⟨b6, rfl⟩, W4, hM4, hK4, hF4⟩ := hp_905
          have hL4 := hL3.mod hM4 mNw.rf hF4
          have hI4 := ((hI.c hK3).m hK4).up (N' := j + 1) (by omega)
          have eB4 : B 0 = B 0 := rfl
          refine z_istore (L' := [(6, _), (5, _), (4, _), (3, _), (2, _), (1, _), (0, _)]) d_La_law_908 (by decide) rfl ?_
          refine z_goto 1088 d_La_law_910 (by decide) ?_
          refine z_iinc (v := nI (6 * (j + 1))) (L' := [(4, _), (6, _), (5, _), (3, _), (2, _), (1, _), (0, _)]) 2 d_La_law_1088 rfl (by rw [show 6 * (j + 1) = 6 * j + 6 by omega]; exact nI_add _ _) (by decide) rfl ?_
          refine z_goto 27 d_La_law_1091 (by decide) ?_
          refine z_sub (L' := [(4, _), (3, _), (2, _), (1, _), (0, _)]) [0, 3, 4, 5, 6] rfl ?_
          refine z_widen (k := 100 + 1000 * (j + 1)) (n := 1000 + 12000 * (j + 1)) (by omega) (by omega) ?_
          first
            | exact ih_27 (j + 1) _ hm1 hm2 ⟨_, _, _, _, _, _, _, _, _, eA4, eB4, hL4, hI4⟩
            | exact ih_27 (j + 1) _ hm1 hm2 ⟨_, _, _, _, _, _, _, _, _, rfl, rfl, hL, hI.up (by omega)⟩
        by_cases e18 : w9 = 18
        · subst e18
          refine z_tableIn 913 d_La_law_44 (by decide) (by decide) rfl (by decide) ?_
          refine z_aload_n 3 d_La_law_913 rfl rfl ?_
          refine z_aload_n 4 d_La_law_914 rfl rfl ?_
          refine z_iload 0 d_La_law_915 rfl ?_
          refine z_iconst (v := (nI 1)) d_La_law_917 (by decide) ?_
          refine z_iadd d_La_law_918 ?_
          refine z_topv (v := nI (6 * j + 1)) (nI_add _ _) ?_
          refine z_sld hX hbl (vp_in_nI (show 6 * j + 1 < NN by omega) (by omega)) d_La_law_919 ?_
          refine z_aload_n 4 d_La_law_920 rfl rfl ?_
          refine z_iload 0 d_La_law_921 rfl ?_
          refine z_iconst (v := (nI 2)) d_La_law_923 (by decide) ?_
          refine z_iadd d_La_law_924 ?_
          refine z_topv (v := nI (6 * j + 2)) (nI_add _ _) ?_
          refine z_sld hX hbl (vp_in_nI (show 6 * j + 2 < NN by omega) (by omega)) d_La_law_925 ?_
          refine z_aload_n 4 d_La_law_926 rfl rfl ?_
          refine z_iload 0 d_La_law_927 rfl ?_
          refine z_iconst (v := (nI 3)) d_La_law_929 (by decide) ?_
          refine z_iadd d_La_law_930 ?_
          refine z_topv (v := nI (6 * j + 3)) (nI_add _ _) ?_
          refine z_sld hX hbl (vp_in_nI (show 6 * j + 3 < NN by omega) (by omega)) d_La_law_931 ?_
          refine z_aload_n 1 d_La_law_932 rfl rfl ?_
          refine z_callSWp1 ((m_La_may hs0 hst hL.t hNc hL.o hL.o1 _ _ _)) ymw_La_may qM_La_169 qS_La_may d_La_law_933 rfl (Nat.le_of_ble_eq_true rfl) ⟨by show _ ≤ 601024; omega, by show _ ≤ 7293034; omega⟩ ⟨Nat.le_of_ble_eq_true rfl, Nat.le_of_ble_eq_true rfl⟩ (fun r_933 G_933 hp_933 => ?_)
          obtain ⟨⟨k5, rfl⟩, D3, V3, hT3, hK3, hO3, hF3⟩ := hp_933
          have hL3 := hL.cls hT3 zNw.rf hO3 hF3
          have eA4 : A 0 = A 0 := rfl
          refine z_istore (L' := [(5, _), (4, _), (3, _), (2, _), (1, _), (0, _)]) d_La_law_936 (by decide) rfl ?_
          refine z_aload_n 3 d_La_law_938 rfl rfl ?_
          refine z_aload_n 5 d_La_law_939 rfl rfl ?_
          refine z_iload 1 d_La_law_940 rfl ?_
          refine z_iconst (v := (nI 1)) d_La_law_942 (by decide) ?_
          refine z_iadd d_La_law_943 ?_
          refine z_topv (v := nI (6 * j + 1)) (nI_add _ _) ?_
          refine z_sld hX hbl (vp_in_nI (show 6 * j + 1 < NN by omega) (by omega)) d_La_law_944 ?_
          refine z_aload_n 5 d_La_law_945 rfl rfl ?_
          refine z_iload 1 d_La_law_946 rfl ?_
          refine z_iconst (v := (nI 2)) d_La_law_948 (by decide) ?_
          refine z_iadd d_La_law_949 ?_
          refine z_topv (v := nI (6 * j + 2)) (nI_add _ _) ?_
          refine z_sld hX hbl (vp_in_nI (show 6 * j + 2 < NN by omega) (by omega)) d_La_law_950 ?_
          refine z_aload_n 5 d_La_law_951 rfl rfl ?_
          refine z_iload 1 d_La_law_952 rfl ?_
          refine z_iconst (v := (nI 3)) d_La_law_954 (by decide) ?_
          refine z_iadd d_La_law_955 ?_
          refine z_topv (v := nI (6 * j + 3)) (nI_add _ _) ?_
          refine z_sld hX hbl (vp_in_nI (show 6 * j + 3 < NN by omega) (by omega)) d_La_law_956 ?_
          refine z_callVp1 ((m_Mo_may hs0 hst hL3.m _ _ _)) ym_Mo_may qM_La_171 qI_Mo_may qV_Mo_Mo_may zc_Mo hL3.m.mo d_La_law_957 rfl (Nat.le_of_ble_eq_true rfl) ⟨by show _ ≤ 601024; omega, by show _ ≤ 7293034; omega⟩ ⟨Nat.le_of_ble_eq_true rfl, Nat.le_of_ble_eq_true rfl⟩ (fun r_957 G_957 hp_957 => ?_)
          obtain ⟨⟨b6, rfl⟩, W4, hM4, hK4, hF4⟩ := hp_957
          have hL4 := hL3.mod hM4 mNw.rf hF4
          have hI4 := ((hI.c hK3).m hK4).up (N' := j + 1) (by omega)
          have eB4 : B 0 = B 0 := rfl
          refine z_istore (L' := [(6, _), (5, _), (4, _), (3, _), (2, _), (1, _), (0, _)]) d_La_law_960 (by decide) rfl ?_
          refine z_goto 1088 d_La_law_962 (by decide) ?_
          refine z_iinc (v := nI (6 * (j + 1))) (L' := [(4, _), (6, _), (5, _), (3, _), (2, _), (1, _), (0, _)]) 2 d_La_law_1088 rfl (by rw [show 6 * (j + 1) = 6 * j + 6 by omega]; exact nI_add _ _) (by decide) rfl ?_
          refine z_goto 27 d_La_law_1091 (by decide) ?_
          refine z_sub (L' := [(4, _), (3, _), (2, _), (1, _), (0, _)]) [0, 3, 4, 5, 6] rfl ?_
          refine z_widen (k := 100 + 1000 * (j + 1)) (n := 1000 + 12000 * (j + 1)) (by omega) (by omega) ?_
          first
            | exact ih_27 (j + 1) _ hm1 hm2 ⟨_, _, _, _, _, _, _, _, _, eA4, eB4, hL4, hI4⟩
            | exact ih_27 (j + 1) _ hm1 hm2 ⟨_, _, _, _, _, _, _, _, _, rfl, rfl, hL, hI.up (by omega)⟩
        by_cases e19 : w9 = 19
        · subst e19
          refine z_tableIn 965 d_La_law_44 (by decide) (by decide) rfl (by decide) ?_
          refine z_aload_n 3 d_La_law_965 rfl rfl ?_
          refine z_aload_n 4 d_La_law_966 rfl rfl ?_
          refine z_iload 0 d_La_law_967 rfl ?_
          refine z_iconst (v := (nI 1)) d_La_law_969 (by decide) ?_
          refine z_iadd d_La_law_970 ?_
          refine z_topv (v := nI (6 * j + 1)) (nI_add _ _) ?_
          refine z_sld hX hbl (vp_in_nI (show 6 * j + 1 < NN by omega) (by omega)) d_La_law_971 ?_
          refine z_aload_n 1 d_La_law_972 rfl rfl ?_
          refine z_callSWp1 ((m_La_lost hs0 hst hL.t hNc hL.o hL.o1 _)) ymw_La_lost qM_La_172 qS_La_lost d_La_law_973 rfl (Nat.le_of_ble_eq_true rfl) ⟨by show _ ≤ 601024; omega, by show _ ≤ 7293034; omega⟩ ⟨Nat.le_of_ble_eq_true rfl, Nat.le_of_ble_eq_true rfl⟩ (fun r_973 G_973 hp_973 => ?_)
          obtain ⟨⟨k5, rfl⟩, D3, V3, hT3, hK3, hO3, hF3⟩ := hp_973
          have hL3 := hL.cls hT3 zNw.rf hO3 hF3
          have eA4 : A 0 = A 0 := rfl
          refine z_istore (L' := [(5, _), (4, _), (3, _), (2, _), (1, _), (0, _)]) d_La_law_976 (by decide) rfl ?_
          refine z_aload_n 3 d_La_law_978 rfl rfl ?_
          refine z_aload_n 5 d_La_law_979 rfl rfl ?_
          refine z_iload 1 d_La_law_980 rfl ?_
          refine z_iconst (v := (nI 1)) d_La_law_982 (by decide) ?_
          refine z_iadd d_La_law_983 ?_
          refine z_topv (v := nI (6 * j + 1)) (nI_add _ _) ?_
          refine z_sld hX hbl (vp_in_nI (show 6 * j + 1 < NN by omega) (by omega)) d_La_law_984 ?_
          refine z_callVp1 ((m_Mo_lost hs0 hst hL3.m _)) ym_Mo_lost qM_La_174 qI_Mo_lost qV_Mo_Mo_lost zc_Mo hL3.m.mo d_La_law_985 rfl (Nat.le_of_ble_eq_true rfl) ⟨by show _ ≤ 601024; omega, by show _ ≤ 7293034; omega⟩ ⟨Nat.le_of_ble_eq_true rfl, Nat.le_of_ble_eq_true rfl⟩ (fun r_985 G_985 hp_985 => ?_)
          obtain ⟨⟨b6, rfl⟩, W4, hM4, hK4, hF4⟩ := hp_985
          have hL4 := hL3.mod hM4 mNw.rf hF4
          have hI4 := ((hI.c hK3).m hK4).up (N' := j + 1) (by omega)
          have eB4 : B 0 = B 0 := rfl
          refine z_dstore (L' := [(6, _), (5, _), (4, _), (3, _), (2, _), (1, _), (0, _)]) d_La_law_988 (by decide) rfl ?_
          refine z_goto 1088 d_La_law_990 (by decide) ?_
          refine z_iinc (v := nI (6 * (j + 1))) (L' := [(4, _), (6, _), (5, _), (3, _), (2, _), (1, _), (0, _)]) 2 d_La_law_1088 rfl (by rw [show 6 * (j + 1) = 6 * j + 6 by omega]; exact nI_add _ _) (by decide) rfl ?_
          refine z_goto 27 d_La_law_1091 (by decide) ?_
          refine z_sub (L' := [(4, _), (3, _), (2, _), (1, _), (0, _)]) [0, 3, 4, 5, 6] rfl ?_
          refine z_widen (k := 100 + 1000 * (j + 1)) (n := 1000 + 12000 * (j + 1)) (by omega) (by omega) ?_
          first
            | exact ih_27 (j + 1) _ hm1 hm2 ⟨_, _, _, _, _, _, _, _, _, eA4, eB4, hL4, hI4⟩
            | exact ih_27 (j + 1) _ hm1 hm2 ⟨_, _, _, _, _, _, _, _, _, rfl, rfl, hL, hI.up (by omega)⟩
        by_cases e20 : w9 = 20
        · subst e20
          refine z_tableIn 993 d_La_law_44 (by decide) (by decide) rfl (by decide) ?_
          refine z_aload_n 3 d_La_law_993 rfl rfl ?_
          refine z_aload_n 4 d_La_law_994 rfl rfl ?_
          refine z_iload 0 d_La_law_995 rfl ?_
          refine z_iconst (v := (nI 1)) d_La_law_997 (by decide) ?_
          refine z_iadd d_La_law_998 ?_
          refine z_topv (v := nI (6 * j + 1)) (nI_add _ _) ?_
          refine z_sld hX hbl (vp_in_nI (show 6 * j + 1 < NN by omega) (by omega)) d_La_law_999 ?_
          refine z_aload_n 1 d_La_law_1000 rfl rfl ?_
          refine z_callSWp1 ((m_La_fewest hs0 hst hL.t hNc hL.o hL.o1 _)) ymw_La_fewest qM_La_175 qS_La_fewest d_La_law_1001 rfl (Nat.le_of_ble_eq_true rfl) ⟨by show _ ≤ 601024; omega, by show _ ≤ 7293034; omega⟩ ⟨Nat.le_of_ble_eq_true rfl, Nat.le_of_ble_eq_true rfl⟩ (fun r_1001 G_1001 hp_1001 => ?_)
          obtain ⟨⟨k5, rfl⟩, D3, V3, hT3, hK3, hO3, hF3⟩ := hp_1001
          have hL3 := hL.cls hT3 zNw.rf hO3 hF3
          have eA4 : A 0 = A 0 := rfl
          refine z_istore (L' := [(5, _), (4, _), (3, _), (2, _), (1, _), (0, _)]) d_La_law_1004 (by decide) rfl ?_
          refine z_aload_n 3 d_La_law_1006 rfl rfl ?_
          refine z_aload_n 5 d_La_law_1007 rfl rfl ?_
          refine z_iload 1 d_La_law_1008 rfl ?_
          refine z_iconst (v := (nI 1)) d_La_law_1010 (by decide) ?_
          refine z_iadd d_La_law_1011 ?_
          refine z_topv (v := nI (6 * j + 1)) (nI_add _ _) ?_
          refine z_sld hX hbl (vp_in_nI (show 6 * j + 1 < NN by omega) (by omega)) d_La_law_1012 ?_
          refine z_callVp1 ((m_Mo_fewest hs0 hst hL3.m _)) ym_Mo_fewest qM_La_177 qI_Mo_fewest qV_Mo_Mo_fewest zc_Mo hL3.m.mo d_La_law_1013 rfl (Nat.le_of_ble_eq_true rfl) ⟨by show _ ≤ 601024; omega, by show _ ≤ 7293034; omega⟩ ⟨Nat.le_of_ble_eq_true rfl, Nat.le_of_ble_eq_true rfl⟩ (fun r_1013 G_1013 hp_1013 => ?_)
          obtain ⟨⟨b6, rfl⟩, W4, hM4, hK4, hF4⟩ := hp_1013
          have hL4 := hL3.mod hM4 mNw.rf hF4
          have hI4 := ((hI.c hK3).m hK4).up (N' := j + 1) (by omega)
          have eB4 : B 0 = B 0 := rfl
          refine z_istore (L' := [(6, _), (5, _), (4, _), (3, _), (2, _), (1, _), (0, _)]) d_La_law_1016 (by decide) rfl ?_
          refine z_goto 1088 d_La_law_1018 (by decide) ?_
          refine z_iinc (v := nI (6 * (j + 1))) (L' := [(4, _), (6, _), (5, _), (3, _), (2, _), (1, _), (0, _)]) 2 d_La_law_1088 rfl (by rw [show 6 * (j + 1) = 6 * j + 6 by omega]; exact nI_add _ _) (by decide) rfl ?_
          refine z_goto 27 d_La_law_1091 (by decide) ?_
          refine z_sub (L' := [(4, _), (3, _), (2, _), (1, _), (0, _)]) [0, 3, 4, 5, 6] rfl ?_
          refine z_widen (k := 100 + 1000 * (j + 1)) (n := 1000 + 12000 * (j + 1)) (by omega) (by omega) ?_
          first
            | exact ih_27 (j + 1) _ hm1 hm2 ⟨_, _, _, _, _, _, _, _, _, eA4, eB4, hL4, hI4⟩
            | exact ih_27 (j + 1) _ hm1 hm2 ⟨_, _, _, _, _, _, _, _, _, rfl, rfl, hL, hI.up (by omega)⟩
        by_cases e21 : w9 = 21
        · subst e21
          refine z_tableIn 1021 d_La_law_44 (by decide) (by decide) rfl (by decide) ?_
          refine z_aload_n 3 d_La_law_1021 rfl rfl ?_
          refine z_aload_n 4 d_La_law_1022 rfl rfl ?_
          refine z_iload 0 d_La_law_1023 rfl ?_
          refine z_iconst (v := (nI 1)) d_La_law_1025 (by decide) ?_
          refine z_iadd d_La_law_1026 ?_
          refine z_topv (v := nI (6 * j + 1)) (nI_add _ _) ?_
          refine z_sld hX hbl (vp_in_nI (show 6 * j + 1 < NN by omega) (by omega)) d_La_law_1027 ?_
          refine z_aload_n 4 d_La_law_1028 rfl rfl ?_
          refine z_iload 0 d_La_law_1029 rfl ?_
          refine z_iconst (v := (nI 2)) d_La_law_1031 (by decide) ?_
          refine z_iadd d_La_law_1032 ?_
          refine z_topv (v := nI (6 * j + 2)) (nI_add _ _) ?_
          refine z_sld hX hbl (vp_in_nI (show 6 * j + 2 < NN by omega) (by omega)) d_La_law_1033 ?_
          refine z_aload_n 1 d_La_law_1034 rfl rfl ?_
          refine z_callSWp1 ((m_La_proves hs0 hst hL.t hNc hL.o hL.o1 _ _)) ymw_La_proves qM_La_178 qS_La_proves d_La_law_1035 rfl (Nat.le_of_ble_eq_true rfl) ⟨by show _ ≤ 601024; omega, by show _ ≤ 7293034; omega⟩ ⟨Nat.le_of_ble_eq_true rfl, Nat.le_of_ble_eq_true rfl⟩ (fun r_1035 G_1035 hp_1035 => ?_)
          obtain ⟨⟨k5, rfl⟩, D3, V3, hT3, hK3, hO3, hF3⟩ := hp_1035
          have hL3 := hL.cls hT3 zNw.rf hO3 hF3
          have eA4 : A 0 = A 0 := rfl
          refine z_istore (L' := [(5, _), (4, _), (3, _), (2, _), (1, _), (0, _)]) d_La_law_1038 (by decide) rfl ?_
          refine z_aload_n 3 d_La_law_1040 rfl rfl ?_
          refine z_aload_n 5 d_La_law_1041 rfl rfl ?_
          refine z_iload 1 d_La_law_1042 rfl ?_
          refine z_iconst (v := (nI 1)) d_La_law_1044 (by decide) ?_
          refine z_iadd d_La_law_1045 ?_
          refine z_topv (v := nI (6 * j + 1)) (nI_add _ _) ?_
          refine z_sld hX hbl (vp_in_nI (show 6 * j + 1 < NN by omega) (by omega)) d_La_law_1046 ?_
          refine z_aload_n 5 d_La_law_1047 rfl rfl ?_
          refine z_iload 1 d_La_law_1048 rfl ?_
          refine z_iconst (v := (nI 2)) d_La_law_1050 (by decide) ?_
          refine z_iadd d_La_law_1051 ?_
          refine z_topv (v := nI (6 * j + 2)) (nI_add _ _) ?_
          refine z_sld hX hbl (vp_in_nI (show 6 * j + 2 < NN by omega) (by omega)) d_La_law_1052 ?_
          refine z_callVp1 ((m_Mo_proves hs0 hst hL3.m _ _)) ym_Mo_proves qM_La_180 qI_Mo_proves qV_Mo_Mo_proves zc_Mo hL3.m.mo d_La_law_1053 rfl (Nat.le_of_ble_eq_true rfl) ⟨by show _ ≤ 601024; omega, by show _ ≤ 7293034; omega⟩ ⟨Nat.le_of_ble_eq_true rfl, Nat.le_of_ble_eq_true rfl⟩ (fun r_1053 G_1053 hp_1053 => ?_)
          obtain ⟨⟨b6, rfl⟩, W4, hM4, hK4, hF4⟩ := hp_1053
          have hL4 := hL3.mod hM4 mNw.rf hF4
          have hI4 := ((hI.c hK3).m hK4).up (N' := j + 1) (by omega)
          have eB4 : B 0 = B 0 := rfl
          refine z_istore (L' := [(6, _), (5, _), (4, _), (3, _), (2, _), (1, _), (0, _)]) d_La_law_1056 (by decide) rfl ?_
          refine z_goto 1088 d_La_law_1058 (by decide) ?_
          refine z_iinc (v := nI (6 * (j + 1))) (L' := [(4, _), (6, _), (5, _), (3, _), (2, _), (1, _), (0, _)]) 2 d_La_law_1088 rfl (by rw [show 6 * (j + 1) = 6 * j + 6 by omega]; exact nI_add _ _) (by decide) rfl ?_
          refine z_goto 27 d_La_law_1091 (by decide) ?_
          refine z_sub (L' := [(4, _), (3, _), (2, _), (1, _), (0, _)]) [0, 3, 4, 5, 6] rfl ?_
          refine z_widen (k := 100 + 1000 * (j + 1)) (n := 1000 + 12000 * (j + 1)) (by omega) (by omega) ?_
          first
            | exact ih_27 (j + 1) _ hm1 hm2 ⟨_, _, _, _, _, _, _, _, _, eA4, eB4, hL4, hI4⟩
            | exact ih_27 (j + 1) _ hm1 hm2 ⟨_, _, _, _, _, _, _, _, _, rfl, rfl, hL, hI.up (by omega)⟩
        by_cases e22 : w9 = 22
        · subst e22
          refine z_tableIn 1061 d_La_law_44 (by decide) (by decide) rfl (by decide) ?_
          refine z_aload_n 3 d_La_law_1061 rfl rfl ?_
          refine z_callVp1 ((m_Tb_isSound hs0 hst hL.t)) ym_Tb_isSound qM_La_181 qI_Tb_isSound qV_Tb_Tb_isSound zc_Tb hL.t.tb d_La_law_1062 rfl (Nat.le_of_ble_eq_true rfl) ⟨by show _ ≤ 601024; omega, by show _ ≤ 7293034; omega⟩ ⟨Nat.le_of_ble_eq_true rfl, Nat.le_of_ble_eq_true rfl⟩ (fun r_1062 G_1062 hp_1062 => ?_)
          obtain ⟨⟨v5, rfl⟩, D3, V3, hT3, hK3, hF3⟩ := hp_1062
          have hL3 := hL.cls hT3 zNw.rf (hL.out hF3) (lFr.of hF3)
          have eA4 : A 0 = A 0 := rfl
          refine z_pop d_La_law_1065 rfl ?_
          refine z_aload_n 2 d_La_law_1066 rfl rfl ?_
          refine z_callVp1 ((m_Mo_isSound hs0 hst hL3.m)) ym_Mo_isSound qM_La_185 qI_Mo_isSound qV_Mo_Mo_isSound zc_Mo hL3.m.mo d_La_law_1067 rfl (Nat.le_of_ble_eq_true rfl) ⟨by show _ ≤ 601024; omega, by show _ ≤ 7293034; omega⟩ ⟨Nat.le_of_ble_eq_true rfl, Nat.le_of_ble_eq_true rfl⟩ (fun r_1067 G_1067 hp_1067 => ?_)
          obtain ⟨⟨b6, rfl⟩, W4, hM4, hK4, hF4⟩ := hp_1067
          have hL4 := hL3.mod hM4 mNw.rf hF4
          have hI4 := ((hI.c hK3).m hK4).up (N' := j + 1) (by omega)
          have eB4 : B 0 = B 0 := rfl
          refine z_pop d_La_law_1070 rfl ?_
          refine z_goto 1088 d_La_law_1071 (by decide) ?_
          refine z_iinc (v := nI (6 * (j + 1))) (L' := [(4, _), (3, _), (2, _), (1, _), (0, _)]) 0 d_La_law_1088 rfl (by rw [show 6 * (j + 1) = 6 * j + 6 by omega]; exact nI_add _ _) (by decide) rfl ?_
          refine z_goto 27 d_La_law_1091 (by decide) ?_
          refine z_widen (k := 100 + 1000 * (j + 1)) (n := 1000 + 12000 * (j + 1)) (by omega) (by omega) ?_
          first
            | exact ih_27 (j + 1) _ hm1 hm2 ⟨_, _, _, _, _, _, _, _, _, eA4, eB4, hL4, hI4⟩
            | exact ih_27 (j + 1) _ hm1 hm2 ⟨_, _, _, _, _, _, _, _, _, rfl, rfl, hL, hI.up (by omega)⟩
        by_cases e23 : w9 = 23
        · subst e23
          refine z_tableIn 1074 d_La_law_44 (by decide) (by decide) rfl (by decide) ?_
          refine z_aload_n 3 d_La_law_1074 rfl rfl ?_
          refine z_callVp1 ((m_Tb_digestE hs0 hst hL.t (gq := gqW W nk) (hI.gq (by omega) hL.bk.1 (fun i hi => hL.m.tn hi)) (hI.sd (by omega)) hI.2.2.2.2.1 zinv_v hI.lie)) ym_Tb_digest qM_La_186 qI_Tb_digest qV_Tb_Tb_digest zc_Tb hL.t.tb d_La_law_1075 rfl (Nat.le_of_ble_eq_true rfl) ⟨by show _ ≤ 601024; omega, by show _ ≤ 7293034; omega⟩ ⟨Nat.le_of_ble_eq_true rfl, Nat.le_of_ble_eq_true rfl⟩ (fun r_1075 G_1075 hp_1075 => ?_)
          obtain ⟨⟨c9, hc9, ec9, rfl⟩, D3, V3, hT3, hK3, hF3⟩ := hp_1075
          have hL3 := hL.cls hT3 zNw.rf (hL.out hF3) (lFr.of hF3)
          have eA4 : A 0 = A 0 := rfl
          refine z_aload_n 2 d_La_law_1078 rfl rfl ?_
          refine z_callVp1 ((m_Mo_digestE hs0 hst hL3.m hI.ok (hI.rd (by omega)) hI.wf)) ym_Mo_digest qM_La_190 qI_Mo_digest qV_Mo_Mo_digest zc_Mo hL3.m.mo d_La_law_1079 rfl (Nat.le_of_ble_eq_true rfl) ⟨by show _ ≤ 601024; omega, by show _ ≤ 7293034; omega⟩ ⟨Nat.le_of_ble_eq_true rfl, Nat.le_of_ble_eq_true rfl⟩ (fun r_1079 G_1079 hp_1079 => ?_)
          obtain ⟨W1, W4, rfl, k1, hM4, hK4, hF4⟩ := hp_1079
          obtain rfl : c9 = ne := (nI_eq (by omega) (by have := hI.2.2.2.1.2.1.1; omega)).mp (ec9.symm.trans hI.2.2.2.1.1)
          have eKn := j_digest hI k1 (by omega) hL.bk.1 hL.bk.2 (fun i hi => hL.m.tn hi)
          have hL4 := hL3.mod hM4 mNw.rf hF4
          have hI4 := ((hI.c hK3).m hK4).up (N' := j + 1) (by omega)
          have eB4 : B 0 = B 0 := rfl
          refine z_lcmp d_La_law_1082 ?_
          refine z_if_eq 1088 d_La_law_1083 (by decide) (fun c_1083 => ?_) (fun c_1083 => absurd ((lg_cmp_eq _ _).mpr eKn) c_1083)
          refine z_iinc (v := nI (6 * (j + 1))) (L' := [(4, _), (3, _), (2, _), (1, _), (0, _)]) 0 d_La_law_1088 rfl (by rw [show 6 * (j + 1) = 6 * j + 6 by omega]; exact nI_add _ _) (by decide) rfl ?_
          refine z_goto 27 d_La_law_1091 (by decide) ?_
          refine z_widen (k := 100 + 1000 * (j + 1)) (n := 1000 + 12000 * (j + 1)) (by omega) (by omega) ?_
          first
            | exact ih_27 (j + 1) _ hm1 hm2 ⟨_, _, _, _, _, _, _, _, _, eA4, eB4, hL4, hI4⟩
            | exact ih_27 (j + 1) _ hm1 hm2 ⟨_, _, _, _, _, _, _, _, _, rfl, rfl, hL, hI.up (by omega)⟩
        have ed : w9.toInt < 0 ∨ 23 < w9.toInt := by
          simp only [← Int32.toInt_inj, Int32.reduceToInt] at e0 e1 e2 e3 e4 e5 e6 e7 e8 e9 e10 e11 e12 e13 e14 e15 e16 e17 e18 e19 e20 e21 e22 e23
          omega
        · skip
          refine z_tableOut 1088 d_La_law_44 (ed) (by decide) ?_
          refine z_iinc (v := nI (6 * (j + 1))) (L' := [(4, _), (3, _), (2, _), (1, _), (0, _)]) 0 d_La_law_1088 rfl (by rw [show 6 * (j + 1) = 6 * j + 6 by omega]; exact nI_add _ _) (by decide) rfl ?_
          refine z_goto 27 d_La_law_1091 (by decide) ?_
          refine z_widen (k := 100 + 1000 * (j + 1)) (n := 1000 + 12000 * (j + 1)) (by omega) (by omega) ?_
          first
            | exact ih_27 (j + 1) _ hm1 hm2 ⟨_, _, _, _, _, _, _, _, _, eA4, eB4, hL4, hI4⟩
            | exact ih_27 (j + 1) _ hm1 hm2 ⟨_, _, _, _, _, _, _, _, _, rfl, rfl, hL, hI.up (by omega)⟩
  refine z_widen (k := 100 + 1000 * 0) (n := 1000 + 12000 * 0) (by decide) (by decide) ?_
  exact key_27 514 0 _ (by omega) (by omega) hLw0
