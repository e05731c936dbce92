theorem dc_law_0 : decode code 0 = .ok (.new 8, 3) := by decide +kernel
theorem dc_law_3 : decode code 3 = .ok (.dup, 1) := by decide +kernel
theorem dc_law_4 : decode code 4 = .ok (.invokespecial 82, 3) := by decide +kernel
theorem dc_law_7 : decode code 7 = .ok (.astore_n 1, 1) := by decide +kernel
theorem dc_law_8 : decode code 8 = .ok (.new 83, 3) := by decide +kernel
theorem dc_law_11 : decode code 11 = .ok (.dup, 1) := by decide +kernel
theorem dc_law_12 : decode code 12 = .ok (.invokespecial 85, 3) := by decide +kernel
theorem dc_law_15 : decode code 15 = .ok (.astore_n 2, 1) := by decide +kernel
theorem dc_law_16 : decode code 16 = .ok (.iconst 1, 1) := by decide +kernel
theorem dc_law_17 : decode code 17 = .ok (.newarray .long, 2) := by decide +kernel
theorem dc_law_19 : decode code 19 = .ok (.astore_n 3, 1) := by decide +kernel
theorem dc_law_20 : decode code 20 = .ok (.iconst 0, 1) := by decide +kernel
theorem dc_law_21 : decode code 21 = .ok (.istore 4, 2) := by decide +kernel
theorem dc_law_23 : decode code 23 = .ok (.iload 4, 2) := by decide +kernel
theorem dc_law_25 : decode code 25 = .ok (.aload_n 0, 1) := by decide +kernel
theorem dc_law_26 : decode code 26 = .ok (.arraylength, 1) := by decide +kernel
theorem dc_law_27 : decode code 27 = .ok (.iconst 5, 1) := by decide +kernel
theorem dc_law_28 : decode code 28 = .ok (.isub, 1) := by decide +kernel
theorem dc_law_29 : decode code 29 = .ok (.if_icmp .gt 1433, 3) := by decide +kernel
theorem dc_law_32 : decode code 32 = .ok (.aload_n 0, 1) := by decide +kernel
theorem dc_law_33 : decode code 33 = .ok (.iload 4, 2) := by decide +kernel
theorem dc_law_35 : decode code 35 = .ok (.iaload, 1) := by decide +kernel
theorem dc_law_36 : decode code 36 = .ok (.bipush 31, 2) := by decide +kernel
theorem dc_law_38 : decode code 38 = .ok (.iand, 1) := by decide +kernel
theorem dc_law_39 : decode code 39 = .ok (.tableswitch 1417 0 18 #[89, 164, 239, 295, 387, 479, 575, 655, 715, 778, 858, 914, 982, 1038, 1113, 1181, 1249, 1305, 1361], 89) := by decide +kernel
theorem dc_law_128 : decode code 128 = .ok (.aload_n 1, 1) := by decide +kernel
theorem dc_law_129 : decode code 129 = .ok (.aload_n 0, 1) := by decide +kernel
theorem dc_law_130 : decode code 130 = .ok (.iload 4, 2) := by decide +kernel
theorem dc_law_132 : decode code 132 = .ok (.iconst 1, 1) := by decide +kernel
theorem dc_law_133 : decode code 133 = .ok (.iadd, 1) := by decide +kernel
theorem dc_law_134 : decode code 134 = .ok (.iaload, 1) := by decide +kernel
theorem dc_law_135 : decode code 135 = .ok (.aload_n 0, 1) := by decide +kernel
theorem dc_law_136 : decode code 136 = .ok (.iload 4, 2) := by decide +kernel
theorem dc_law_138 : decode code 138 = .ok (.iconst 2, 1) := by decide +kernel
theorem dc_law_139 : decode code 139 = .ok (.iadd, 1) := by decide +kernel
theorem dc_law_140 : decode code 140 = .ok (.iaload, 1) := by decide +kernel
theorem dc_law_141 : decode code 141 = .ok (.aload_n 3, 1) := by decide +kernel
theorem dc_law_142 : decode code 142 = .ok (.invokestatic 86, 3) := by decide +kernel
theorem dc_law_145 : decode code 145 = .ok (.istore 5, 2) := by decide +kernel
theorem dc_law_147 : decode code 147 = .ok (.aload_n 2, 1) := by decide +kernel
theorem dc_law_148 : decode code 148 = .ok (.aload_n 0, 1) := by decide +kernel
theorem dc_law_149 : decode code 149 = .ok (.iload 4, 2) := by decide +kernel
theorem dc_law_151 : decode code 151 = .ok (.iconst 1, 1) := by decide +kernel
theorem dc_law_152 : decode code 152 = .ok (.iadd, 1) := by decide +kernel
theorem dc_law_153 : decode code 153 = .ok (.iaload, 1) := by decide +kernel
theorem dc_law_154 : decode code 154 = .ok (.aload_n 0, 1) := by decide +kernel
theorem dc_law_155 : decode code 155 = .ok (.iload 4, 2) := by decide +kernel
theorem dc_law_157 : decode code 157 = .ok (.iconst 2, 1) := by decide +kernel
theorem dc_law_158 : decode code 158 = .ok (.iadd, 1) := by decide +kernel
theorem dc_law_159 : decode code 159 = .ok (.iaload, 1) := by decide +kernel
theorem dc_law_160 : decode code 160 = .ok (.invokevirtual 91, 3) := by decide +kernel
theorem dc_law_163 : decode code 163 = .ok (.istore 6, 2) := by decide +kernel
theorem dc_law_165 : decode code 165 = .ok (.aload_n 2, 1) := by decide +kernel
theorem dc_law_166 : decode code 166 = .ok (.invokevirtual 92, 3) := by decide +kernel
theorem dc_law_169 : decode code 169 = .ok (.iload 5, 2) := by decide +kernel
theorem dc_law_171 : decode code 171 = .ok (.if_icmp .eq 5, 3) := by decide +kernel
theorem dc_law_174 : decode code 174 = .ok (.iconst 0, 1) := by decide +kernel
theorem dc_law_175 : decode code 175 = .ok (.ireturn, 1) := by decide +kernel
theorem dc_law_176 : decode code 176 = .ok (.iload 5, 2) := by decide +kernel
theorem dc_law_178 : decode code 178 = .ok (.ifCond .ne 22, 3) := by decide +kernel
theorem dc_law_181 : decode code 181 = .ok (.aload_n 3, 1) := by decide +kernel
theorem dc_law_182 : decode code 182 = .ok (.iconst 0, 1) := by decide +kernel
theorem dc_law_183 : decode code 183 = .ok (.laload, 1) := by decide +kernel
theorem dc_law_184 : decode code 184 = .ok (.iload 6, 2) := by decide +kernel
theorem dc_law_186 : decode code 186 = .ok (.ifCond .eq 7, 3) := by decide +kernel
theorem dc_law_189 : decode code 189 = .ok (.lconst 1, 1) := by decide +kernel
theorem dc_law_190 : decode code 190 = .ok (.goto 4, 3) := by decide +kernel
theorem dc_law_193 : decode code 193 = .ok (.lconst 0, 1) := by decide +kernel
theorem dc_law_194 : decode code 194 = .ok (.lcmp, 1) := by decide +kernel
theorem dc_law_195 : decode code 195 = .ok (.ifCond .eq 5, 3) := by decide +kernel
theorem dc_law_198 : decode code 198 = .ok (.iconst 0, 1) := by decide +kernel
theorem dc_law_199 : decode code 199 = .ok (.ireturn, 1) := by decide +kernel
theorem dc_law_200 : decode code 200 = .ok (.goto 1256, 3) := by decide +kernel
theorem dc_law_203 : decode code 203 = .ok (.aload_n 1, 1) := by decide +kernel
theorem dc_law_204 : decode code 204 = .ok (.aload_n 0, 1) := by decide +kernel
theorem dc_law_205 : decode code 205 = .ok (.iload 4, 2) := by decide +kernel
theorem dc_law_207 : decode code 207 = .ok (.iconst 1, 1) := by decide +kernel
theorem dc_law_208 : decode code 208 = .ok (.iadd, 1) := by decide +kernel
theorem dc_law_209 : decode code 209 = .ok (.iaload, 1) := by decide +kernel
theorem dc_law_210 : decode code 210 = .ok (.aload_n 0, 1) := by decide +kernel
theorem dc_law_211 : decode code 211 = .ok (.iload 4, 2) := by decide +kernel
theorem dc_law_213 : decode code 213 = .ok (.iconst 2, 1) := by decide +kernel
theorem dc_law_214 : decode code 214 = .ok (.iadd, 1) := by decide +kernel
theorem dc_law_215 : decode code 215 = .ok (.iaload, 1) := by decide +kernel
theorem dc_law_216 : decode code 216 = .ok (.aload_n 3, 1) := by decide +kernel
theorem dc_law_217 : decode code 217 = .ok (.invokestatic 96, 3) := by decide +kernel
theorem dc_law_220 : decode code 220 = .ok (.istore 5, 2) := by decide +kernel
theorem dc_law_222 : decode code 222 = .ok (.aload_n 2, 1) := by decide +kernel
theorem dc_law_223 : decode code 223 = .ok (.aload_n 0, 1) := by decide +kernel
theorem dc_law_224 : decode code 224 = .ok (.iload 4, 2) := by decide +kernel
theorem dc_law_226 : decode code 226 = .ok (.iconst 1, 1) := by decide +kernel
theorem dc_law_227 : decode code 227 = .ok (.iadd, 1) := by decide +kernel
theorem dc_law_228 : decode code 228 = .ok (.iaload, 1) := by decide +kernel
theorem dc_law_229 : decode code 229 = .ok (.aload_n 0, 1) := by decide +kernel
theorem dc_law_230 : decode code 230 = .ok (.iload 4, 2) := by decide +kernel
theorem dc_law_232 : decode code 232 = .ok (.iconst 2, 1) := by decide +kernel
theorem dc_law_233 : decode code 233 = .ok (.iadd, 1) := by decide +kernel
theorem dc_law_234 : decode code 234 = .ok (.iaload, 1) := by decide +kernel
theorem dc_law_235 : decode code 235 = .ok (.invokevirtual 98, 3) := by decide +kernel
theorem dc_law_238 : decode code 238 = .ok (.istore 6, 2) := by decide +kernel
theorem dc_law_240 : decode code 240 = .ok (.aload_n 2, 1) := by decide +kernel
theorem dc_law_241 : decode code 241 = .ok (.invokevirtual 92, 3) := by decide +kernel
theorem dc_law_244 : decode code 244 = .ok (.iload 5, 2) := by decide +kernel
theorem dc_law_246 : decode code 246 = .ok (.if_icmp .eq 5, 3) := by decide +kernel
theorem dc_law_249 : decode code 249 = .ok (.iconst 0, 1) := by decide +kernel
theorem dc_law_250 : decode code 250 = .ok (.ireturn, 1) := by decide +kernel
theorem dc_law_251 : decode code 251 = .ok (.iload 5, 2) := by decide +kernel
theorem dc_law_253 : decode code 253 = .ok (.ifCond .ne 22, 3) := by decide +kernel
theorem dc_law_256 : decode code 256 = .ok (.aload_n 3, 1) := by decide +kernel
theorem dc_law_257 : decode code 257 = .ok (.iconst 0, 1) := by decide +kernel
theorem dc_law_258 : decode code 258 = .ok (.laload, 1) := by decide +kernel
theorem dc_law_259 : decode code 259 = .ok (.iload 6, 2) := by decide +kernel
theorem dc_law_261 : decode code 261 = .ok (.ifCond .eq 7, 3) := by decide +kernel
theorem dc_law_264 : decode code 264 = .ok (.lconst 1, 1) := by decide +kernel
theorem dc_law_265 : decode code 265 = .ok (.goto 4, 3) := by decide +kernel
theorem dc_law_268 : decode code 268 = .ok (.lconst 0, 1) := by decide +kernel
theorem dc_law_269 : decode code 269 = .ok (.lcmp, 1) := by decide +kernel
theorem dc_law_270 : decode code 270 = .ok (.ifCond .eq 5, 3) := by decide +kernel
theorem dc_law_273 : decode code 273 = .ok (.iconst 0, 1) := by decide +kernel
theorem dc_law_274 : decode code 274 = .ok (.ireturn, 1) := by decide +kernel
theorem dc_law_275 : decode code 275 = .ok (.goto 1181, 3) := by decide +kernel
theorem dc_law_278 : decode code 278 = .ok (.aload_n 1, 1) := by decide +kernel
theorem dc_law_279 : decode code 279 = .ok (.aload_n 0, 1) := by decide +kernel
theorem dc_law_280 : decode code 280 = .ok (.iload 4, 2) := by decide +kernel
theorem dc_law_282 : decode code 282 = .ok (.iconst 1, 1) := by decide +kernel
theorem dc_law_283 : decode code 283 = .ok (.iadd, 1) := by decide +kernel
theorem dc_law_284 : decode code 284 = .ok (.iaload, 1) := by decide +kernel
theorem dc_law_285 : decode code 285 = .ok (.aload_n 3, 1) := by decide +kernel
theorem dc_law_286 : decode code 286 = .ok (.invokestatic 99, 3) := by decide +kernel
theorem dc_law_289 : decode code 289 = .ok (.istore 5, 2) := by decide +kernel
theorem dc_law_291 : decode code 291 = .ok (.aload_n 2, 1) := by decide +kernel
theorem dc_law_292 : decode code 292 = .ok (.aload_n 0, 1) := by decide +kernel
theorem dc_law_293 : decode code 293 = .ok (.iload 4, 2) := by decide +kernel
theorem dc_law_295 : decode code 295 = .ok (.iconst 1, 1) := by decide +kernel
theorem dc_law_296 : decode code 296 = .ok (.iadd, 1) := by decide +kernel
theorem dc_law_297 : decode code 297 = .ok (.iaload, 1) := by decide +kernel
theorem dc_law_298 : decode code 298 = .ok (.invokevirtual 102, 3) := by decide +kernel
theorem dc_law_301 : decode code 301 = .ok (.istore 6, 2) := by decide +kernel
theorem dc_law_303 : decode code 303 = .ok (.aload_n 2, 1) := by decide +kernel
theorem dc_law_304 : decode code 304 = .ok (.invokevirtual 92, 3) := by decide +kernel
theorem dc_law_307 : decode code 307 = .ok (.iload 5, 2) := by decide +kernel
theorem dc_law_309 : decode code 309 = .ok (.if_icmp .eq 5, 3) := by decide +kernel
theorem dc_law_312 : decode code 312 = .ok (.iconst 0, 1) := by decide +kernel
theorem dc_law_313 : decode code 313 = .ok (.ireturn, 1) := by decide +kernel
theorem dc_law_314 : decode code 314 = .ok (.iload 5, 2) := by decide +kernel
theorem dc_law_316 : decode code 316 = .ok (.ifCond .ne 15, 3) := by decide +kernel
theorem dc_law_319 : decode code 319 = .ok (.aload_n 3, 1) := by decide +kernel
theorem dc_law_320 : decode code 320 = .ok (.iconst 0, 1) := by decide +kernel
theorem dc_law_321 : decode code 321 = .ok (.laload, 1) := by decide +kernel
theorem dc_law_322 : decode code 322 = .ok (.iload 6, 2) := by decide +kernel
theorem dc_law_324 : decode code 324 = .ok (.i2l, 1) := by decide +kernel
theorem dc_law_325 : decode code 325 = .ok (.lcmp, 1) := by decide +kernel
theorem dc_law_326 : decode code 326 = .ok (.ifCond .eq 5, 3) := by decide +kernel
theorem dc_law_329 : decode code 329 = .ok (.iconst 0, 1) := by decide +kernel
theorem dc_law_330 : decode code 330 = .ok (.ireturn, 1) := by decide +kernel
theorem dc_law_331 : decode code 331 = .ok (.goto 1125, 3) := by decide +kernel
theorem dc_law_334 : decode code 334 = .ok (.aload_n 1, 1) := by decide +kernel
theorem dc_law_335 : decode code 335 = .ok (.aload_n 0, 1) := by decide +kernel
theorem dc_law_336 : decode code 336 = .ok (.iload 4, 2) := by decide +kernel
theorem dc_law_338 : decode code 338 = .ok (.iconst 1, 1) := by decide +kernel
theorem dc_law_339 : decode code 339 = .ok (.iadd, 1) := by decide +kernel
theorem dc_law_340 : decode code 340 = .ok (.iaload, 1) := by decide +kernel
theorem dc_law_341 : decode code 341 = .ok (.aload_n 0, 1) := by decide +kernel
theorem dc_law_342 : decode code 342 = .ok (.iload 4, 2) := by decide +kernel
theorem dc_law_344 : decode code 344 = .ok (.iconst 2, 1) := by decide +kernel
theorem dc_law_345 : decode code 345 = .ok (.iadd, 1) := by decide +kernel
theorem dc_law_346 : decode code 346 = .ok (.iaload, 1) := by decide +kernel
theorem dc_law_347 : decode code 347 = .ok (.aload_n 0, 1) := by decide +kernel
theorem dc_law_348 : decode code 348 = .ok (.iload 4, 2) := by decide +kernel
theorem dc_law_350 : decode code 350 = .ok (.iconst 3, 1) := by decide +kernel
theorem dc_law_351 : decode code 351 = .ok (.iadd, 1) := by decide +kernel
theorem dc_law_352 : decode code 352 = .ok (.iaload, 1) := by decide +kernel
theorem dc_law_353 : decode code 353 = .ok (.aload_n 0, 1) := by decide +kernel
theorem dc_law_354 : decode code 354 = .ok (.iload 4, 2) := by decide +kernel
theorem dc_law_356 : decode code 356 = .ok (.iconst 4, 1) := by decide +kernel
theorem dc_law_357 : decode code 357 = .ok (.iadd, 1) := by decide +kernel
theorem dc_law_358 : decode code 358 = .ok (.iaload, 1) := by decide +kernel
theorem dc_law_359 : decode code 359 = .ok (.aload_n 3, 1) := by decide +kernel
theorem dc_law_360 : decode code 360 = .ok (.invokestatic 103, 3) := by decide +kernel
theorem dc_law_363 : decode code 363 = .ok (.istore 5, 2) := by decide +kernel
theorem dc_law_365 : decode code 365 = .ok (.aload_n 2, 1) := by decide +kernel
theorem dc_law_366 : decode code 366 = .ok (.aload_n 0, 1) := by decide +kernel
theorem dc_law_367 : decode code 367 = .ok (.iload 4, 2) := by decide +kernel
theorem dc_law_369 : decode code 369 = .ok (.iconst 1, 1) := by decide +kernel
theorem dc_law_370 : decode code 370 = .ok (.iadd, 1) := by decide +kernel
theorem dc_law_371 : decode code 371 = .ok (.iaload, 1) := by decide +kernel
theorem dc_law_372 : decode code 372 = .ok (.aload_n 0, 1) := by decide +kernel
theorem dc_law_373 : decode code 373 = .ok (.iload 4, 2) := by decide +kernel
theorem dc_law_375 : decode code 375 = .ok (.iconst 2, 1) := by decide +kernel
theorem dc_law_376 : decode code 376 = .ok (.iadd, 1) := by decide +kernel
theorem dc_law_377 : decode code 377 = .ok (.iaload, 1) := by decide +kernel
theorem dc_law_378 : decode code 378 = .ok (.aload_n 0, 1) := by decide +kernel
theorem dc_law_379 : decode code 379 = .ok (.iload 4, 2) := by decide +kernel
theorem dc_law_381 : decode code 381 = .ok (.iconst 3, 1) := by decide +kernel
theorem dc_law_382 : decode code 382 = .ok (.iadd, 1) := by decide +kernel
theorem dc_law_383 : decode code 383 = .ok (.iaload, 1) := by decide +kernel
theorem dc_law_384 : decode code 384 = .ok (.aload_n 0, 1) := by decide +kernel
theorem dc_law_385 : decode code 385 = .ok (.iload 4, 2) := by decide +kernel
theorem dc_law_387 : decode code 387 = .ok (.iconst 4, 1) := by decide +kernel
theorem dc_law_388 : decode code 388 = .ok (.iadd, 1) := by decide +kernel
theorem dc_law_389 : decode code 389 = .ok (.iaload, 1) := by decide +kernel
theorem dc_law_390 : decode code 390 = .ok (.invokevirtual 106, 3) := by decide +kernel
theorem dc_law_393 : decode code 393 = .ok (.istore 6, 2) := by decide +kernel
theorem dc_law_395 : decode code 395 = .ok (.aload_n 2, 1) := by decide +kernel
theorem dc_law_396 : decode code 396 = .ok (.invokevirtual 92, 3) := by decide +kernel
theorem dc_law_399 : decode code 399 = .ok (.iload 5, 2) := by decide +kernel
theorem dc_law_401 : decode code 401 = .ok (.if_icmp .eq 5, 3) := by decide +kernel
theorem dc_law_404 : decode code 404 = .ok (.iconst 0, 1) := by decide +kernel
theorem dc_law_405 : decode code 405 = .ok (.ireturn, 1) := by decide +kernel
theorem dc_law_406 : decode code 406 = .ok (.iload 5, 2) := by decide +kernel
theorem dc_law_408 : decode code 408 = .ok (.ifCond .ne 15, 3) := by decide +kernel
theorem dc_law_411 : decode code 411 = .ok (.aload_n 3, 1) := by decide +kernel
theorem dc_law_412 : decode code 412 = .ok (.iconst 0, 1) := by decide +kernel
theorem dc_law_413 : decode code 413 = .ok (.laload, 1) := by decide +kernel
theorem dc_law_414 : decode code 414 = .ok (.iload 6, 2) := by decide +kernel
theorem dc_law_416 : decode code 416 = .ok (.i2l, 1) := by decide +kernel
theorem dc_law_417 : decode code 417 = .ok (.lcmp, 1) := by decide +kernel
theorem dc_law_418 : decode code 418 = .ok (.ifCond .eq 5, 3) := by decide +kernel
theorem dc_law_421 : decode code 421 = .ok (.iconst 0, 1) := by decide +kernel
theorem dc_law_422 : decode code 422 = .ok (.ireturn, 1) := by decide +kernel
theorem dc_law_423 : decode code 423 = .ok (.goto 1033, 3) := by decide +kernel
theorem dc_law_426 : decode code 426 = .ok (.aload_n 1, 1) := by decide +kernel
theorem dc_law_427 : decode code 427 = .ok (.aload_n 0, 1) := by decide +kernel
theorem dc_law_428 : decode code 428 = .ok (.iload 4, 2) := by decide +kernel
theorem dc_law_430 : decode code 430 = .ok (.iconst 1, 1) := by decide +kernel
theorem dc_law_431 : decode code 431 = .ok (.iadd, 1) := by decide +kernel
theorem dc_law_432 : decode code 432 = .ok (.iaload, 1) := by decide +kernel
theorem dc_law_433 : decode code 433 = .ok (.aload_n 0, 1) := by decide +kernel
theorem dc_law_434 : decode code 434 = .ok (.iload 4, 2) := by decide +kernel
theorem dc_law_436 : decode code 436 = .ok (.iconst 2, 1) := by decide +kernel
theorem dc_law_437 : decode code 437 = .ok (.iadd, 1) := by decide +kernel
theorem dc_law_438 : decode code 438 = .ok (.iaload, 1) := by decide +kernel
theorem dc_law_439 : decode code 439 = .ok (.aload_n 0, 1) := by decide +kernel
theorem dc_law_440 : decode code 440 = .ok (.iload 4, 2) := by decide +kernel
theorem dc_law_442 : decode code 442 = .ok (.iconst 3, 1) := by decide +kernel
theorem dc_law_443 : decode code 443 = .ok (.iadd, 1) := by decide +kernel
theorem dc_law_444 : decode code 444 = .ok (.iaload, 1) := by decide +kernel
theorem dc_law_445 : decode code 445 = .ok (.aload_n 0, 1) := by decide +kernel
theorem dc_law_446 : decode code 446 = .ok (.iload 4, 2) := by decide +kernel
theorem dc_law_448 : decode code 448 = .ok (.iconst 4, 1) := by decide +kernel
theorem dc_law_449 : decode code 449 = .ok (.iadd, 1) := by decide +kernel
theorem dc_law_450 : decode code 450 = .ok (.iaload, 1) := by decide +kernel
theorem dc_law_451 : decode code 451 = .ok (.aload_n 3, 1) := by decide +kernel
theorem dc_law_452 : decode code 452 = .ok (.invokestatic 107, 3) := by decide +kernel
theorem dc_law_455 : decode code 455 = .ok (.istore 5, 2) := by decide +kernel
theorem dc_law_457 : decode code 457 = .ok (.aload_n 2, 1) := by decide +kernel
theorem dc_law_458 : decode code 458 = .ok (.aload_n 0, 1) := by decide +kernel
theorem dc_law_459 : decode code 459 = .ok (.iload 4, 2) := by decide +kernel
theorem dc_law_461 : decode code 461 = .ok (.iconst 1, 1) := by decide +kernel
theorem dc_law_462 : decode code 462 = .ok (.iadd, 1) := by decide +kernel
theorem dc_law_463 : decode code 463 = .ok (.iaload, 1) := by decide +kernel
theorem dc_law_464 : decode code 464 = .ok (.aload_n 0, 1) := by decide +kernel
theorem dc_law_465 : decode code 465 = .ok (.iload 4, 2) := by decide +kernel
theorem dc_law_467 : decode code 467 = .ok (.iconst 2, 1) := by decide +kernel
theorem dc_law_468 : decode code 468 = .ok (.iadd, 1) := by decide +kernel
theorem dc_law_469 : decode code 469 = .ok (.iaload, 1) := by decide +kernel
theorem dc_law_470 : decode code 470 = .ok (.aload_n 0, 1) := by decide +kernel
theorem dc_law_471 : decode code 471 = .ok (.iload 4, 2) := by decide +kernel
theorem dc_law_473 : decode code 473 = .ok (.iconst 3, 1) := by decide +kernel
theorem dc_law_474 : decode code 474 = .ok (.iadd, 1) := by decide +kernel
theorem dc_law_475 : decode code 475 = .ok (.iaload, 1) := by decide +kernel
theorem dc_law_476 : decode code 476 = .ok (.aload_n 0, 1) := by decide +kernel
theorem dc_law_477 : decode code 477 = .ok (.iload 4, 2) := by decide +kernel
theorem dc_law_479 : decode code 479 = .ok (.iconst 4, 1) := by decide +kernel
theorem dc_law_480 : decode code 480 = .ok (.iadd, 1) := by decide +kernel
theorem dc_law_481 : decode code 481 = .ok (.iaload, 1) := by decide +kernel
theorem dc_law_482 : decode code 482 = .ok (.invokevirtual 109, 3) := by decide +kernel
theorem dc_law_485 : decode code 485 = .ok (.istore 6, 2) := by decide +kernel
theorem dc_law_487 : decode code 487 = .ok (.aload_n 2, 1) := by decide +kernel
theorem dc_law_488 : decode code 488 = .ok (.invokevirtual 92, 3) := by decide +kernel
theorem dc_law_491 : decode code 491 = .ok (.iload 5, 2) := by decide +kernel
theorem dc_law_493 : decode code 493 = .ok (.if_icmp .eq 5, 3) := by decide +kernel
theorem dc_law_496 : decode code 496 = .ok (.iconst 0, 1) := by decide +kernel
theorem dc_law_497 : decode code 497 = .ok (.ireturn, 1) := by decide +kernel
theorem dc_law_498 : decode code 498 = .ok (.iload 5, 2) := by decide +kernel
theorem dc_law_500 : decode code 500 = .ok (.ifCond .ne 15, 3) := by decide +kernel
theorem dc_law_503 : decode code 503 = .ok (.aload_n 3, 1) := by decide +kernel
theorem dc_law_504 : decode code 504 = .ok (.iconst 0, 1) := by decide +kernel
theorem dc_law_505 : decode code 505 = .ok (.laload, 1) := by decide +kernel
theorem dc_law_506 : decode code 506 = .ok (.iload 6, 2) := by decide +kernel
theorem dc_law_508 : decode code 508 = .ok (.i2l, 1) := by decide +kernel
theorem dc_law_509 : decode code 509 = .ok (.lcmp, 1) := by decide +kernel
theorem dc_law_510 : decode code 510 = .ok (.ifCond .eq 5, 3) := by decide +kernel
theorem dc_law_513 : decode code 513 = .ok (.iconst 0, 1) := by decide +kernel
theorem dc_law_514 : decode code 514 = .ok (.ireturn, 1) := by decide +kernel
theorem dc_law_515 : decode code 515 = .ok (.goto 941, 3) := by decide +kernel
theorem dc_law_518 : decode code 518 = .ok (.aload_n 1, 1) := by decide +kernel
theorem dc_law_519 : decode code 519 = .ok (.aload_n 0, 1) := by decide +kernel
theorem dc_law_520 : decode code 520 = .ok (.iload 4, 2) := by decide +kernel
theorem dc_law_522 : decode code 522 = .ok (.iconst 1, 1) := by decide +kernel
theorem dc_law_523 : decode code 523 = .ok (.iadd, 1) := by decide +kernel
theorem dc_law_524 : decode code 524 = .ok (.iaload, 1) := by decide +kernel
theorem dc_law_525 : decode code 525 = .ok (.aload_n 0, 1) := by decide +kernel
theorem dc_law_526 : decode code 526 = .ok (.iload 4, 2) := by decide +kernel
theorem dc_law_528 : decode code 528 = .ok (.iconst 2, 1) := by decide +kernel
theorem dc_law_529 : decode code 529 = .ok (.iadd, 1) := by decide +kernel
theorem dc_law_530 : decode code 530 = .ok (.iaload, 1) := by decide +kernel
theorem dc_law_531 : decode code 531 = .ok (.aload_n 0, 1) := by decide +kernel
theorem dc_law_532 : decode code 532 = .ok (.iload 4, 2) := by decide +kernel
theorem dc_law_534 : decode code 534 = .ok (.iconst 3, 1) := by decide +kernel
theorem dc_law_535 : decode code 535 = .ok (.iadd, 1) := by decide +kernel
theorem dc_law_536 : decode code 536 = .ok (.iaload, 1) := by decide +kernel
theorem dc_law_537 : decode code 537 = .ok (.ifCond .eq 7, 3) := by decide +kernel
theorem dc_law_540 : decode code 540 = .ok (.iconst 1, 1) := by decide +kernel
theorem dc_law_541 : decode code 541 = .ok (.goto 4, 3) := by decide +kernel
theorem dc_law_544 : decode code 544 = .ok (.iconst 0, 1) := by decide +kernel
theorem dc_law_545 : decode code 545 = .ok (.aload_n 3, 1) := by decide +kernel
theorem dc_law_546 : decode code 546 = .ok (.invokestatic 110, 3) := by decide +kernel
theorem dc_law_549 : decode code 549 = .ok (.istore 5, 2) := by decide +kernel
theorem dc_law_551 : decode code 551 = .ok (.aload_n 2, 1) := by decide +kernel
theorem dc_law_552 : decode code 552 = .ok (.aload_n 0, 1) := by decide +kernel
theorem dc_law_553 : decode code 553 = .ok (.iload 4, 2) := by decide +kernel
theorem dc_law_555 : decode code 555 = .ok (.iconst 1, 1) := by decide +kernel
theorem dc_law_556 : decode code 556 = .ok (.iadd, 1) := by decide +kernel
theorem dc_law_557 : decode code 557 = .ok (.iaload, 1) := by decide +kernel
theorem dc_law_558 : decode code 558 = .ok (.aload_n 0, 1) := by decide +kernel
theorem dc_law_559 : decode code 559 = .ok (.iload 4, 2) := by decide +kernel
theorem dc_law_561 : decode code 561 = .ok (.iconst 2, 1) := by decide +kernel
theorem dc_law_562 : decode code 562 = .ok (.iadd, 1) := by decide +kernel
theorem dc_law_563 : decode code 563 = .ok (.iaload, 1) := by decide +kernel
theorem dc_law_564 : decode code 564 = .ok (.aload_n 0, 1) := by decide +kernel
theorem dc_law_565 : decode code 565 = .ok (.iload 4, 2) := by decide +kernel
theorem dc_law_567 : decode code 567 = .ok (.iconst 3, 1) := by decide +kernel
theorem dc_law_568 : decode code 568 = .ok (.iadd, 1) := by decide +kernel
theorem dc_law_569 : decode code 569 = .ok (.iaload, 1) := by decide +kernel
theorem dc_law_570 : decode code 570 = .ok (.ifCond .eq 7, 3) := by decide +kernel
theorem dc_law_573 : decode code 573 = .ok (.iconst 1, 1) := by decide +kernel
theorem dc_law_574 : decode code 574 = .ok (.goto 4, 3) := by decide +kernel
theorem dc_law_577 : decode code 577 = .ok (.iconst 0, 1) := by decide +kernel
theorem dc_law_578 : decode code 578 = .ok (.invokevirtual 113, 3) := by decide +kernel
theorem dc_law_581 : decode code 581 = .ok (.istore 6, 2) := by decide +kernel
theorem dc_law_583 : decode code 583 = .ok (.aload_n 2, 1) := by decide +kernel
theorem dc_law_584 : decode code 584 = .ok (.invokevirtual 92, 3) := by decide +kernel
theorem dc_law_587 : decode code 587 = .ok (.iload 5, 2) := by decide +kernel
theorem dc_law_589 : decode code 589 = .ok (.if_icmp .eq 5, 3) := by decide +kernel
theorem dc_law_592 : decode code 592 = .ok (.iconst 0, 1) := by decide +kernel
theorem dc_law_593 : decode code 593 = .ok (.ireturn, 1) := by decide +kernel
theorem dc_law_594 : decode code 594 = .ok (.iload 5, 2) := by decide +kernel
theorem dc_law_596 : decode code 596 = .ok (.ifCond .ne 15, 3) := by decide +kernel
theorem dc_law_599 : decode code 599 = .ok (.aload_n 3, 1) := by decide +kernel
theorem dc_law_600 : decode code 600 = .ok (.iconst 0, 1) := by decide +kernel
theorem dc_law_601 : decode code 601 = .ok (.laload, 1) := by decide +kernel
theorem dc_law_602 : decode code 602 = .ok (.iload 6, 2) := by decide +kernel
theorem dc_law_604 : decode code 604 = .ok (.i2l, 1) := by decide +kernel
theorem dc_law_605 : decode code 605 = .ok (.lcmp, 1) := by decide +kernel
theorem dc_law_606 : decode code 606 = .ok (.ifCond .eq 5, 3) := by decide +kernel
theorem dc_law_609 : decode code 609 = .ok (.iconst 0, 1) := by decide +kernel
theorem dc_law_610 : decode code 610 = .ok (.ireturn, 1) := by decide +kernel
theorem dc_law_611 : decode code 611 = .ok (.goto 845, 3) := by decide +kernel
theorem dc_law_614 : decode code 614 = .ok (.aload_n 1, 1) := by decide +kernel
theorem dc_law_615 : decode code 615 = .ok (.aload_n 0, 1) := by decide +kernel
theorem dc_law_616 : decode code 616 = .ok (.iload 4, 2) := by decide +kernel
theorem dc_law_618 : decode code 618 = .ok (.iconst 1, 1) := by decide +kernel
theorem dc_law_619 : decode code 619 = .ok (.iadd, 1) := by decide +kernel
theorem dc_law_620 : decode code 620 = .ok (.iaload, 1) := by decide +kernel
theorem dc_law_621 : decode code 621 = .ok (.aload_n 0, 1) := by decide +kernel
theorem dc_law_622 : decode code 622 = .ok (.iload 4, 2) := by decide +kernel
theorem dc_law_624 : decode code 624 = .ok (.iconst 2, 1) := by decide +kernel
theorem dc_law_625 : decode code 625 = .ok (.iadd, 1) := by decide +kernel
theorem dc_law_626 : decode code 626 = .ok (.iaload, 1) := by decide +kernel
theorem dc_law_627 : decode code 627 = .ok (.aload_n 0, 1) := by decide +kernel
theorem dc_law_628 : decode code 628 = .ok (.iload 4, 2) := by decide +kernel
theorem dc_law_630 : decode code 630 = .ok (.iconst 3, 1) := by decide +kernel
theorem dc_law_631 : decode code 631 = .ok (.iadd, 1) := by decide +kernel
theorem dc_law_632 : decode code 632 = .ok (.iaload, 1) := by decide +kernel
theorem dc_law_633 : decode code 633 = .ok (.aload_n 3, 1) := by decide +kernel
theorem dc_law_634 : decode code 634 = .ok (.invokestatic 114, 3) := by decide +kernel
theorem dc_law_637 : decode code 637 = .ok (.istore 5, 2) := by decide +kernel
theorem dc_law_639 : decode code 639 = .ok (.aload_n 2, 1) := by decide +kernel
theorem dc_law_640 : decode code 640 = .ok (.aload_n 0, 1) := by decide +kernel
theorem dc_law_641 : decode code 641 = .ok (.iload 4, 2) := by decide +kernel
theorem dc_law_643 : decode code 643 = .ok (.iconst 1, 1) := by decide +kernel
theorem dc_law_644 : decode code 644 = .ok (.iadd, 1) := by decide +kernel
theorem dc_law_645 : decode code 645 = .ok (.iaload, 1) := by decide +kernel
theorem dc_law_646 : decode code 646 = .ok (.aload_n 0, 1) := by decide +kernel
theorem dc_law_647 : decode code 647 = .ok (.iload 4, 2) := by decide +kernel
theorem dc_law_649 : decode code 649 = .ok (.iconst 2, 1) := by decide +kernel
theorem dc_law_650 : decode code 650 = .ok (.iadd, 1) := by decide +kernel
theorem dc_law_651 : decode code 651 = .ok (.iaload, 1) := by decide +kernel
theorem dc_law_652 : decode code 652 = .ok (.aload_n 0, 1) := by decide +kernel
theorem dc_law_653 : decode code 653 = .ok (.iload 4, 2) := by decide +kernel
theorem dc_law_655 : decode code 655 = .ok (.iconst 3, 1) := by decide +kernel
theorem dc_law_656 : decode code 656 = .ok (.iadd, 1) := by decide +kernel
theorem dc_law_657 : decode code 657 = .ok (.iaload, 1) := by decide +kernel
theorem dc_law_658 : decode code 658 = .ok (.invokevirtual 117, 3) := by decide +kernel
theorem dc_law_661 : decode code 661 = .ok (.istore 6, 2) := by decide +kernel
theorem dc_law_663 : decode code 663 = .ok (.aload_n 2, 1) := by decide +kernel
theorem dc_law_664 : decode code 664 = .ok (.invokevirtual 92, 3) := by decide +kernel
theorem dc_law_667 : decode code 667 = .ok (.iload 5, 2) := by decide +kernel
theorem dc_law_669 : decode code 669 = .ok (.if_icmp .eq 5, 3) := by decide +kernel
theorem dc_law_672 : decode code 672 = .ok (.iconst 0, 1) := by decide +kernel
theorem dc_law_673 : decode code 673 = .ok (.ireturn, 1) := by decide +kernel
theorem dc_law_674 : decode code 674 = .ok (.iload 5, 2) := by decide +kernel
theorem dc_law_676 : decode code 676 = .ok (.ifCond .ne 15, 3) := by decide +kernel
theorem dc_law_679 : decode code 679 = .ok (.aload_n 3, 1) := by decide +kernel
theorem dc_law_680 : decode code 680 = .ok (.iconst 0, 1) := by decide +kernel
theorem dc_law_681 : decode code 681 = .ok (.laload, 1) := by decide +kernel
theorem dc_law_682 : decode code 682 = .ok (.iload 6, 2) := by decide +kernel
theorem dc_law_684 : decode code 684 = .ok (.i2l, 1) := by decide +kernel
theorem dc_law_685 : decode code 685 = .ok (.lcmp, 1) := by decide +kernel
theorem dc_law_686 : decode code 686 = .ok (.ifCond .eq 5, 3) := by decide +kernel
theorem dc_law_689 : decode code 689 = .ok (.iconst 0, 1) := by decide +kernel
theorem dc_law_690 : decode code 690 = .ok (.ireturn, 1) := by decide +kernel
theorem dc_law_691 : decode code 691 = .ok (.goto 765, 3) := by decide +kernel
theorem dc_law_694 : decode code 694 = .ok (.aload_n 1, 1) := by decide +kernel
theorem dc_law_695 : decode code 695 = .ok (.aload_n 0, 1) := by decide +kernel
theorem dc_law_696 : decode code 696 = .ok (.iload 4, 2) := by decide +kernel
theorem dc_law_698 : decode code 698 = .ok (.iconst 1, 1) := by decide +kernel
theorem dc_law_699 : decode code 699 = .ok (.iadd, 1) := by decide +kernel
theorem dc_law_700 : decode code 700 = .ok (.iaload, 1) := by decide +kernel
theorem dc_law_701 : decode code 701 = .ok (.aload_n 0, 1) := by decide +kernel
theorem dc_law_702 : decode code 702 = .ok (.iload 4, 2) := by decide +kernel
theorem dc_law_704 : decode code 704 = .ok (.iconst 2, 1) := by decide +kernel
theorem dc_law_705 : decode code 705 = .ok (.iadd, 1) := by decide +kernel
theorem dc_law_706 : decode code 706 = .ok (.iaload, 1) := by decide +kernel
theorem dc_law_707 : decode code 707 = .ok (.aload_n 0, 1) := by decide +kernel
theorem dc_law_708 : decode code 708 = .ok (.iload 4, 2) := by decide +kernel
theorem dc_law_710 : decode code 710 = .ok (.iconst 3, 1) := by decide +kernel
theorem dc_law_711 : decode code 711 = .ok (.iadd, 1) := by decide +kernel
theorem dc_law_712 : decode code 712 = .ok (.iaload, 1) := by decide +kernel
theorem dc_law_713 : decode code 713 = .ok (.invokestatic 118, 3) := by decide +kernel
theorem dc_law_716 : decode code 716 = .ok (.istore 5, 2) := by decide +kernel
theorem dc_law_718 : decode code 718 = .ok (.aload_n 2, 1) := by decide +kernel
theorem dc_law_719 : decode code 719 = .ok (.aload_n 0, 1) := by decide +kernel
theorem dc_law_720 : decode code 720 = .ok (.iload 4, 2) := by decide +kernel
theorem dc_law_722 : decode code 722 = .ok (.iconst 1, 1) := by decide +kernel
theorem dc_law_723 : decode code 723 = .ok (.iadd, 1) := by decide +kernel
theorem dc_law_724 : decode code 724 = .ok (.iaload, 1) := by decide +kernel
theorem dc_law_725 : decode code 725 = .ok (.aload_n 0, 1) := by decide +kernel
theorem dc_law_726 : decode code 726 = .ok (.iload 4, 2) := by decide +kernel
theorem dc_law_728 : decode code 728 = .ok (.iconst 2, 1) := by decide +kernel
theorem dc_law_729 : decode code 729 = .ok (.iadd, 1) := by decide +kernel
theorem dc_law_730 : decode code 730 = .ok (.iaload, 1) := by decide +kernel
theorem dc_law_731 : decode code 731 = .ok (.aload_n 0, 1) := by decide +kernel
theorem dc_law_732 : decode code 732 = .ok (.iload 4, 2) := by decide +kernel
theorem dc_law_734 : decode code 734 = .ok (.iconst 3, 1) := by decide +kernel
theorem dc_law_735 : decode code 735 = .ok (.iadd, 1) := by decide +kernel
theorem dc_law_736 : decode code 736 = .ok (.iaload, 1) := by decide +kernel
theorem dc_law_737 : decode code 737 = .ok (.invokevirtual 121, 3) := by decide +kernel
theorem dc_law_740 : decode code 740 = .ok (.aload_n 2, 1) := by decide +kernel
theorem dc_law_741 : decode code 741 = .ok (.invokevirtual 92, 3) := by decide +kernel
theorem dc_law_744 : decode code 744 = .ok (.iload 5, 2) := by decide +kernel
theorem dc_law_746 : decode code 746 = .ok (.if_icmp .eq 5, 3) := by decide +kernel
theorem dc_law_749 : decode code 749 = .ok (.iconst 0, 1) := by decide +kernel
theorem dc_law_750 : decode code 750 = .ok (.ireturn, 1) := by decide +kernel
theorem dc_law_751 : decode code 751 = .ok (.goto 705, 3) := by decide +kernel
theorem dc_law_754 : decode code 754 = .ok (.aload_n 1, 1) := by decide +kernel
theorem dc_law_755 : decode code 755 = .ok (.aload_n 0, 1) := by decide +kernel
theorem dc_law_756 : decode code 756 = .ok (.iload 4, 2) := by decide +kernel
theorem dc_law_758 : decode code 758 = .ok (.iconst 1, 1) := by decide +kernel
theorem dc_law_759 : decode code 759 = .ok (.iadd, 1) := by decide +kernel
theorem dc_law_760 : decode code 760 = .ok (.iaload, 1) := by decide +kernel
theorem dc_law_761 : decode code 761 = .ok (.aload_n 3, 1) := by decide +kernel
theorem dc_law_762 : decode code 762 = .ok (.invokestatic 122, 3) := by decide +kernel
theorem dc_law_765 : decode code 765 = .ok (.istore 5, 2) := by decide +kernel
theorem dc_law_767 : decode code 767 = .ok (.aload_n 2, 1) := by decide +kernel
theorem dc_law_768 : decode code 768 = .ok (.aload_n 0, 1) := by decide +kernel
theorem dc_law_769 : decode code 769 = .ok (.iload 4, 2) := by decide +kernel
theorem dc_law_771 : decode code 771 = .ok (.iconst 1, 1) := by decide +kernel
theorem dc_law_772 : decode code 772 = .ok (.iadd, 1) := by decide +kernel
theorem dc_law_773 : decode code 773 = .ok (.iaload, 1) := by decide +kernel
theorem dc_law_774 : decode code 774 = .ok (.invokevirtual 124, 3) := by decide +kernel
theorem dc_law_777 : decode code 777 = .ok (.istore 6, 2) := by decide +kernel
theorem dc_law_779 : decode code 779 = .ok (.aload_n 2, 1) := by decide +kernel
theorem dc_law_780 : decode code 780 = .ok (.invokevirtual 92, 3) := by decide +kernel
theorem dc_law_783 : decode code 783 = .ok (.iload 5, 2) := by decide +kernel
theorem dc_law_785 : decode code 785 = .ok (.if_icmp .eq 5, 3) := by decide +kernel
theorem dc_law_788 : decode code 788 = .ok (.iconst 0, 1) := by decide +kernel
theorem dc_law_789 : decode code 789 = .ok (.ireturn, 1) := by decide +kernel
theorem dc_law_790 : decode code 790 = .ok (.iload 5, 2) := by decide +kernel
theorem dc_law_792 : decode code 792 = .ok (.ifCond .ne 22, 3) := by decide +kernel
theorem dc_law_795 : decode code 795 = .ok (.aload_n 3, 1) := by decide +kernel
theorem dc_law_796 : decode code 796 = .ok (.iconst 0, 1) := by decide +kernel
theorem dc_law_797 : decode code 797 = .ok (.laload, 1) := by decide +kernel
theorem dc_law_798 : decode code 798 = .ok (.iload 6, 2) := by decide +kernel
theorem dc_law_800 : decode code 800 = .ok (.ifCond .eq 7, 3) := by decide +kernel
theorem dc_law_803 : decode code 803 = .ok (.lconst 1, 1) := by decide +kernel
theorem dc_law_804 : decode code 804 = .ok (.goto 4, 3) := by decide +kernel
theorem dc_law_807 : decode code 807 = .ok (.lconst 0, 1) := by decide +kernel
theorem dc_law_808 : decode code 808 = .ok (.lcmp, 1) := by decide +kernel
theorem dc_law_809 : decode code 809 = .ok (.ifCond .eq 5, 3) := by decide +kernel
theorem dc_law_812 : decode code 812 = .ok (.iconst 0, 1) := by decide +kernel
theorem dc_law_813 : decode code 813 = .ok (.ireturn, 1) := by decide +kernel
theorem dc_law_814 : decode code 814 = .ok (.goto 642, 3) := by decide +kernel
theorem dc_law_817 : decode code 817 = .ok (.aload_n 1, 1) := by decide +kernel
theorem dc_law_818 : decode code 818 = .ok (.aload_n 0, 1) := by decide +kernel
theorem dc_law_819 : decode code 819 = .ok (.iload 4, 2) := by decide +kernel
theorem dc_law_821 : decode code 821 = .ok (.iconst 1, 1) := by decide +kernel
theorem dc_law_822 : decode code 822 = .ok (.iadd, 1) := by decide +kernel
theorem dc_law_823 : decode code 823 = .ok (.iaload, 1) := by decide +kernel
theorem dc_law_824 : decode code 824 = .ok (.aload_n 0, 1) := by decide +kernel
theorem dc_law_825 : decode code 825 = .ok (.iload 4, 2) := by decide +kernel
theorem dc_law_827 : decode code 827 = .ok (.iconst 2, 1) := by decide +kernel
theorem dc_law_828 : decode code 828 = .ok (.iadd, 1) := by decide +kernel
theorem dc_law_829 : decode code 829 = .ok (.iaload, 1) := by decide +kernel
theorem dc_law_830 : decode code 830 = .ok (.aload_n 0, 1) := by decide +kernel
theorem dc_law_831 : decode code 831 = .ok (.iload 4, 2) := by decide +kernel
theorem dc_law_833 : decode code 833 = .ok (.iconst 3, 1) := by decide +kernel
theorem dc_law_834 : decode code 834 = .ok (.iadd, 1) := by decide +kernel
theorem dc_law_835 : decode code 835 = .ok (.iaload, 1) := by decide +kernel
theorem dc_law_836 : decode code 836 = .ok (.aload_n 3, 1) := by decide +kernel
theorem dc_law_837 : decode code 837 = .ok (.invokestatic 125, 3) := by decide +kernel
theorem dc_law_840 : decode code 840 = .ok (.istore 5, 2) := by decide +kernel
theorem dc_law_842 : decode code 842 = .ok (.aload_n 2, 1) := by decide +kernel
theorem dc_law_843 : decode code 843 = .ok (.aload_n 0, 1) := by decide +kernel
theorem dc_law_844 : decode code 844 = .ok (.iload 4, 2) := by decide +kernel
theorem dc_law_846 : decode code 846 = .ok (.iconst 1, 1) := by decide +kernel
theorem dc_law_847 : decode code 847 = .ok (.iadd, 1) := by decide +kernel
theorem dc_law_848 : decode code 848 = .ok (.iaload, 1) := by decide +kernel
theorem dc_law_849 : decode code 849 = .ok (.aload_n 0, 1) := by decide +kernel
theorem dc_law_850 : decode code 850 = .ok (.iload 4, 2) := by decide +kernel
theorem dc_law_852 : decode code 852 = .ok (.iconst 2, 1) := by decide +kernel
theorem dc_law_853 : decode code 853 = .ok (.iadd, 1) := by decide +kernel
theorem dc_law_854 : decode code 854 = .ok (.iaload, 1) := by decide +kernel
theorem dc_law_855 : decode code 855 = .ok (.aload_n 0, 1) := by decide +kernel
theorem dc_law_856 : decode code 856 = .ok (.iload 4, 2) := by decide +kernel
theorem dc_law_858 : decode code 858 = .ok (.iconst 3, 1) := by decide +kernel
theorem dc_law_859 : decode code 859 = .ok (.iadd, 1) := by decide +kernel
theorem dc_law_860 : decode code 860 = .ok (.iaload, 1) := by decide +kernel
theorem dc_law_861 : decode code 861 = .ok (.invokevirtual 127, 3) := by decide +kernel
theorem dc_law_864 : decode code 864 = .ok (.istore 6, 2) := by decide +kernel
theorem dc_law_866 : decode code 866 = .ok (.aload_n 2, 1) := by decide +kernel
theorem dc_law_867 : decode code 867 = .ok (.invokevirtual 92, 3) := by decide +kernel
theorem dc_law_870 : decode code 870 = .ok (.iload 5, 2) := by decide +kernel
theorem dc_law_872 : decode code 872 = .ok (.if_icmp .eq 5, 3) := by decide +kernel
theorem dc_law_875 : decode code 875 = .ok (.iconst 0, 1) := by decide +kernel
theorem dc_law_876 : decode code 876 = .ok (.ireturn, 1) := by decide +kernel
theorem dc_law_877 : decode code 877 = .ok (.iload 5, 2) := by decide +kernel
theorem dc_law_879 : decode code 879 = .ok (.ifCond .ne 15, 3) := by decide +kernel
theorem dc_law_882 : decode code 882 = .ok (.aload_n 3, 1) := by decide +kernel
theorem dc_law_883 : decode code 883 = .ok (.iconst 0, 1) := by decide +kernel
theorem dc_law_884 : decode code 884 = .ok (.laload, 1) := by decide +kernel
theorem dc_law_885 : decode code 885 = .ok (.iload 6, 2) := by decide +kernel
theorem dc_law_887 : decode code 887 = .ok (.i2l, 1) := by decide +kernel
theorem dc_law_888 : decode code 888 = .ok (.lcmp, 1) := by decide +kernel
theorem dc_law_889 : decode code 889 = .ok (.ifCond .eq 5, 3) := by decide +kernel
theorem dc_law_892 : decode code 892 = .ok (.iconst 0, 1) := by decide +kernel
theorem dc_law_893 : decode code 893 = .ok (.ireturn, 1) := by decide +kernel
theorem dc_law_894 : decode code 894 = .ok (.goto 562, 3) := by decide +kernel
theorem dc_law_897 : decode code 897 = .ok (.aload_n 1, 1) := by decide +kernel
theorem dc_law_898 : decode code 898 = .ok (.aload_n 0, 1) := by decide +kernel
theorem dc_law_899 : decode code 899 = .ok (.iload 4, 2) := by decide +kernel
theorem dc_law_901 : decode code 901 = .ok (.iconst 1, 1) := by decide +kernel
theorem dc_law_902 : decode code 902 = .ok (.iadd, 1) := by decide +kernel
theorem dc_law_903 : decode code 903 = .ok (.iaload, 1) := by decide +kernel
theorem dc_law_904 : decode code 904 = .ok (.aload_n 3, 1) := by decide +kernel
theorem dc_law_905 : decode code 905 = .ok (.invokestatic 128, 3) := by decide +kernel
theorem dc_law_908 : decode code 908 = .ok (.istore 5, 2) := by decide +kernel
theorem dc_law_910 : decode code 910 = .ok (.aload_n 2, 1) := by decide +kernel
theorem dc_law_911 : decode code 911 = .ok (.aload_n 0, 1) := by decide +kernel
theorem dc_law_912 : decode code 912 = .ok (.iload 4, 2) := by decide +kernel
theorem dc_law_914 : decode code 914 = .ok (.iconst 1, 1) := by decide +kernel
theorem dc_law_915 : decode code 915 = .ok (.iadd, 1) := by decide +kernel
theorem dc_law_916 : decode code 916 = .ok (.iaload, 1) := by decide +kernel
theorem dc_law_917 : decode code 917 = .ok (.invokevirtual 130, 3) := by decide +kernel
theorem dc_law_920 : decode code 920 = .ok (.istore 6, 2) := by decide +kernel
theorem dc_law_922 : decode code 922 = .ok (.aload_n 2, 1) := by decide +kernel
theorem dc_law_923 : decode code 923 = .ok (.invokevirtual 92, 3) := by decide +kernel
theorem dc_law_926 : decode code 926 = .ok (.iload 5, 2) := by decide +kernel
theorem dc_law_928 : decode code 928 = .ok (.if_icmp .eq 5, 3) := by decide +kernel
theorem dc_law_931 : decode code 931 = .ok (.iconst 0, 1) := by decide +kernel
theorem dc_law_932 : decode code 932 = .ok (.ireturn, 1) := by decide +kernel
theorem dc_law_933 : decode code 933 = .ok (.iload 5, 2) := by decide +kernel
theorem dc_law_935 : decode code 935 = .ok (.ifCond .ne 15, 3) := by decide +kernel
theorem dc_law_938 : decode code 938 = .ok (.aload_n 3, 1) := by decide +kernel
theorem dc_law_939 : decode code 939 = .ok (.iconst 0, 1) := by decide +kernel
theorem dc_law_940 : decode code 940 = .ok (.laload, 1) := by decide +kernel
theorem dc_law_941 : decode code 941 = .ok (.iload 6, 2) := by decide +kernel
theorem dc_law_943 : decode code 943 = .ok (.i2l, 1) := by decide +kernel
theorem dc_law_944 : decode code 944 = .ok (.lcmp, 1) := by decide +kernel
theorem dc_law_945 : decode code 945 = .ok (.ifCond .eq 5, 3) := by decide +kernel
theorem dc_law_948 : decode code 948 = .ok (.iconst 0, 1) := by decide +kernel
theorem dc_law_949 : decode code 949 = .ok (.ireturn, 1) := by decide +kernel
theorem dc_law_950 : decode code 950 = .ok (.goto 506, 3) := by decide +kernel
theorem dc_law_953 : decode code 953 = .ok (.aload_n 1, 1) := by decide +kernel
theorem dc_law_954 : decode code 954 = .ok (.aload_n 0, 1) := by decide +kernel
theorem dc_law_955 : decode code 955 = .ok (.iload 4, 2) := by decide +kernel
theorem dc_law_957 : decode code 957 = .ok (.iconst 1, 1) := by decide +kernel
theorem dc_law_958 : decode code 958 = .ok (.iadd, 1) := by decide +kernel
theorem dc_law_959 : decode code 959 = .ok (.iaload, 1) := by decide +kernel
theorem dc_law_960 : decode code 960 = .ok (.aload_n 0, 1) := by decide +kernel
theorem dc_law_961 : decode code 961 = .ok (.iload 4, 2) := by decide +kernel
theorem dc_law_963 : decode code 963 = .ok (.iconst 2, 1) := by decide +kernel
theorem dc_law_964 : decode code 964 = .ok (.iadd, 1) := by decide +kernel
theorem dc_law_965 : decode code 965 = .ok (.iaload, 1) := by decide +kernel
theorem dc_law_966 : decode code 966 = .ok (.aload_n 3, 1) := by decide +kernel
theorem dc_law_967 : decode code 967 = .ok (.invokestatic 131, 3) := by decide +kernel
theorem dc_law_970 : decode code 970 = .ok (.istore 5, 2) := by decide +kernel
theorem dc_law_972 : decode code 972 = .ok (.aload_n 2, 1) := by decide +kernel
theorem dc_law_973 : decode code 973 = .ok (.aload_n 0, 1) := by decide +kernel
theorem dc_law_974 : decode code 974 = .ok (.iload 4, 2) := by decide +kernel
theorem dc_law_976 : decode code 976 = .ok (.iconst 1, 1) := by decide +kernel
theorem dc_law_977 : decode code 977 = .ok (.iadd, 1) := by decide +kernel
theorem dc_law_978 : decode code 978 = .ok (.iaload, 1) := by decide +kernel
theorem dc_law_979 : decode code 979 = .ok (.aload_n 0, 1) := by decide +kernel
theorem dc_law_980 : decode code 980 = .ok (.iload 4, 2) := by decide +kernel
theorem dc_law_982 : decode code 982 = .ok (.iconst 2, 1) := by decide +kernel
theorem dc_law_983 : decode code 983 = .ok (.iadd, 1) := by decide +kernel
theorem dc_law_984 : decode code 984 = .ok (.iaload, 1) := by decide +kernel
theorem dc_law_985 : decode code 985 = .ok (.invokevirtual 133, 3) := by decide +kernel
theorem dc_law_988 : decode code 988 = .ok (.istore 6, 2) := by decide +kernel
theorem dc_law_990 : decode code 990 = .ok (.aload_n 2, 1) := by decide +kernel
theorem dc_law_991 : decode code 991 = .ok (.invokevirtual 92, 3) := by decide +kernel
theorem dc_law_994 : decode code 994 = .ok (.iload 5, 2) := by decide +kernel
theorem dc_law_996 : decode code 996 = .ok (.if_icmp .eq 5, 3) := by decide +kernel
theorem dc_law_999 : decode code 999 = .ok (.iconst 0, 1) := by decide +kernel
theorem dc_law_1000 : decode code 1000 = .ok (.ireturn, 1) := by decide +kernel
theorem dc_law_1001 : decode code 1001 = .ok (.iload 5, 2) := by decide +kernel
theorem dc_law_1003 : decode code 1003 = .ok (.ifCond .ne 15, 3) := by decide +kernel
theorem dc_law_1006 : decode code 1006 = .ok (.aload_n 3, 1) := by decide +kernel
theorem dc_law_1007 : decode code 1007 = .ok (.iconst 0, 1) := by decide +kernel
theorem dc_law_1008 : decode code 1008 = .ok (.laload, 1) := by decide +kernel
theorem dc_law_1009 : decode code 1009 = .ok (.iload 6, 2) := by decide +kernel
theorem dc_law_1011 : decode code 1011 = .ok (.i2l, 1) := by decide +kernel
theorem dc_law_1012 : decode code 1012 = .ok (.lcmp, 1) := by decide +kernel
theorem dc_law_1013 : decode code 1013 = .ok (.ifCond .eq 5, 3) := by decide +kernel
theorem dc_law_1016 : decode code 1016 = .ok (.iconst 0, 1) := by decide +kernel
theorem dc_law_1017 : decode code 1017 = .ok (.ireturn, 1) := by decide +kernel
theorem dc_law_1018 : decode code 1018 = .ok (.goto 438, 3) := by decide +kernel
theorem dc_law_1021 : decode code 1021 = .ok (.aload_n 1, 1) := by decide +kernel
theorem dc_law_1022 : decode code 1022 = .ok (.aload_n 0, 1) := by decide +kernel
theorem dc_law_1023 : decode code 1023 = .ok (.iload 4, 2) := by decide +kernel
theorem dc_law_1025 : decode code 1025 = .ok (.iconst 1, 1) := by decide +kernel
theorem dc_law_1026 : decode code 1026 = .ok (.iadd, 1) := by decide +kernel
theorem dc_law_1027 : decode code 1027 = .ok (.iaload, 1) := by decide +kernel
theorem dc_law_1028 : decode code 1028 = .ok (.aload_n 3, 1) := by decide +kernel
theorem dc_law_1029 : decode code 1029 = .ok (.invokestatic 134, 3) := by decide +kernel
theorem dc_law_1032 : decode code 1032 = .ok (.istore 5, 2) := by decide +kernel
theorem dc_law_1034 : decode code 1034 = .ok (.aload_n 2, 1) := by decide +kernel
theorem dc_law_1035 : decode code 1035 = .ok (.aload_n 0, 1) := by decide +kernel
theorem dc_law_1036 : decode code 1036 = .ok (.iload 4, 2) := by decide +kernel
theorem dc_law_1038 : decode code 1038 = .ok (.iconst 1, 1) := by decide +kernel
theorem dc_law_1039 : decode code 1039 = .ok (.iadd, 1) := by decide +kernel
theorem dc_law_1040 : decode code 1040 = .ok (.iaload, 1) := by decide +kernel
theorem dc_law_1041 : decode code 1041 = .ok (.invokevirtual 136, 3) := by decide +kernel
theorem dc_law_1044 : decode code 1044 = .ok (.istore 6, 2) := by decide +kernel
theorem dc_law_1046 : decode code 1046 = .ok (.aload_n 2, 1) := by decide +kernel
theorem dc_law_1047 : decode code 1047 = .ok (.invokevirtual 92, 3) := by decide +kernel
theorem dc_law_1050 : decode code 1050 = .ok (.iload 5, 2) := by decide +kernel
theorem dc_law_1052 : decode code 1052 = .ok (.if_icmp .eq 5, 3) := by decide +kernel
theorem dc_law_1055 : decode code 1055 = .ok (.iconst 0, 1) := by decide +kernel
theorem dc_law_1056 : decode code 1056 = .ok (.ireturn, 1) := by decide +kernel
theorem dc_law_1057 : decode code 1057 = .ok (.iload 5, 2) := by decide +kernel
theorem dc_law_1059 : decode code 1059 = .ok (.ifCond .ne 15, 3) := by decide +kernel
theorem dc_law_1062 : decode code 1062 = .ok (.aload_n 3, 1) := by decide +kernel
theorem dc_law_1063 : decode code 1063 = .ok (.iconst 0, 1) := by decide +kernel
theorem dc_law_1064 : decode code 1064 = .ok (.laload, 1) := by decide +kernel
theorem dc_law_1065 : decode code 1065 = .ok (.iload 6, 2) := by decide +kernel
theorem dc_law_1067 : decode code 1067 = .ok (.i2l, 1) := by decide +kernel
theorem dc_law_1068 : decode code 1068 = .ok (.lcmp, 1) := by decide +kernel
theorem dc_law_1069 : decode code 1069 = .ok (.ifCond .eq 5, 3) := by decide +kernel
theorem dc_law_1072 : decode code 1072 = .ok (.iconst 0, 1) := by decide +kernel
theorem dc_law_1073 : decode code 1073 = .ok (.ireturn, 1) := by decide +kernel
theorem dc_law_1074 : decode code 1074 = .ok (.goto 382, 3) := by decide +kernel
theorem dc_law_1077 : decode code 1077 = .ok (.aload_n 1, 1) := by decide +kernel
theorem dc_law_1078 : decode code 1078 = .ok (.aload_n 0, 1) := by decide +kernel
theorem dc_law_1079 : decode code 1079 = .ok (.iload 4, 2) := by decide +kernel
theorem dc_law_1081 : decode code 1081 = .ok (.iconst 1, 1) := by decide +kernel
theorem dc_law_1082 : decode code 1082 = .ok (.iadd, 1) := by decide +kernel
theorem dc_law_1083 : decode code 1083 = .ok (.iaload, 1) := by decide +kernel
theorem dc_law_1084 : decode code 1084 = .ok (.aload_n 0, 1) := by decide +kernel
theorem dc_law_1085 : decode code 1085 = .ok (.iload 4, 2) := by decide +kernel
theorem dc_law_1087 : decode code 1087 = .ok (.iconst 2, 1) := by decide +kernel
theorem dc_law_1088 : decode code 1088 = .ok (.iadd, 1) := by decide +kernel
theorem dc_law_1089 : decode code 1089 = .ok (.iaload, 1) := by decide +kernel
theorem dc_law_1090 : decode code 1090 = .ok (.aload_n 3, 1) := by decide +kernel
theorem dc_law_1091 : decode code 1091 = .ok (.invokestatic 137, 3) := by decide +kernel
theorem dc_law_1094 : decode code 1094 = .ok (.istore 5, 2) := by decide +kernel
theorem dc_law_1096 : decode code 1096 = .ok (.aload_n 2, 1) := by decide +kernel
theorem dc_law_1097 : decode code 1097 = .ok (.aload_n 0, 1) := by decide +kernel
theorem dc_law_1098 : decode code 1098 = .ok (.iload 4, 2) := by decide +kernel
theorem dc_law_1100 : decode code 1100 = .ok (.iconst 1, 1) := by decide +kernel
theorem dc_law_1101 : decode code 1101 = .ok (.iadd, 1) := by decide +kernel
theorem dc_law_1102 : decode code 1102 = .ok (.iaload, 1) := by decide +kernel
theorem dc_law_1103 : decode code 1103 = .ok (.aload_n 0, 1) := by decide +kernel
theorem dc_law_1104 : decode code 1104 = .ok (.iload 4, 2) := by decide +kernel
theorem dc_law_1106 : decode code 1106 = .ok (.iconst 2, 1) := by decide +kernel
theorem dc_law_1107 : decode code 1107 = .ok (.iadd, 1) := by decide +kernel
theorem dc_law_1108 : decode code 1108 = .ok (.iaload, 1) := by decide +kernel
theorem dc_law_1109 : decode code 1109 = .ok (.invokevirtual 139, 3) := by decide +kernel
theorem dc_law_1112 : decode code 1112 = .ok (.istore 6, 2) := by decide +kernel
theorem dc_law_1114 : decode code 1114 = .ok (.aload_n 2, 1) := by decide +kernel
theorem dc_law_1115 : decode code 1115 = .ok (.invokevirtual 92, 3) := by decide +kernel
theorem dc_law_1118 : decode code 1118 = .ok (.iload 5, 2) := by decide +kernel
theorem dc_law_1120 : decode code 1120 = .ok (.if_icmp .eq 5, 3) := by decide +kernel
theorem dc_law_1123 : decode code 1123 = .ok (.iconst 0, 1) := by decide +kernel
theorem dc_law_1124 : decode code 1124 = .ok (.ireturn, 1) := by decide +kernel
theorem dc_law_1125 : decode code 1125 = .ok (.iload 5, 2) := by decide +kernel
theorem dc_law_1127 : decode code 1127 = .ok (.ifCond .ne 22, 3) := by decide +kernel
theorem dc_law_1130 : decode code 1130 = .ok (.aload_n 3, 1) := by decide +kernel
theorem dc_law_1131 : decode code 1131 = .ok (.iconst 0, 1) := by decide +kernel
theorem dc_law_1132 : decode code 1132 = .ok (.laload, 1) := by decide +kernel
theorem dc_law_1133 : decode code 1133 = .ok (.iload 6, 2) := by decide +kernel
theorem dc_law_1135 : decode code 1135 = .ok (.ifCond .eq 7, 3) := by decide +kernel
theorem dc_law_1138 : decode code 1138 = .ok (.lconst 1, 1) := by decide +kernel
theorem dc_law_1139 : decode code 1139 = .ok (.goto 4, 3) := by decide +kernel
theorem dc_law_1142 : decode code 1142 = .ok (.lconst 0, 1) := by decide +kernel
theorem dc_law_1143 : decode code 1143 = .ok (.lcmp, 1) := by decide +kernel
theorem dc_law_1144 : decode code 1144 = .ok (.ifCond .eq 5, 3) := by decide +kernel
theorem dc_law_1147 : decode code 1147 = .ok (.iconst 0, 1) := by decide +kernel
theorem dc_law_1148 : decode code 1148 = .ok (.ireturn, 1) := by decide +kernel
theorem dc_law_1149 : decode code 1149 = .ok (.goto 307, 3) := by decide +kernel
theorem dc_law_1152 : decode code 1152 = .ok (.aload_n 1, 1) := by decide +kernel
theorem dc_law_1153 : decode code 1153 = .ok (.aload_n 0, 1) := by decide +kernel
theorem dc_law_1154 : decode code 1154 = .ok (.iload 4, 2) := by decide +kernel
theorem dc_law_1156 : decode code 1156 = .ok (.iconst 1, 1) := by decide +kernel
theorem dc_law_1157 : decode code 1157 = .ok (.iadd, 1) := by decide +kernel
theorem dc_law_1158 : decode code 1158 = .ok (.iaload, 1) := by decide +kernel
theorem dc_law_1159 : decode code 1159 = .ok (.aload_n 0, 1) := by decide +kernel
theorem dc_law_1160 : decode code 1160 = .ok (.iload 4, 2) := by decide +kernel
theorem dc_law_1162 : decode code 1162 = .ok (.iconst 2, 1) := by decide +kernel
theorem dc_law_1163 : decode code 1163 = .ok (.iadd, 1) := by decide +kernel
theorem dc_law_1164 : decode code 1164 = .ok (.iaload, 1) := by decide +kernel
theorem dc_law_1165 : decode code 1165 = .ok (.aload_n 3, 1) := by decide +kernel
theorem dc_law_1166 : decode code 1166 = .ok (.invokestatic 140, 3) := by decide +kernel
theorem dc_law_1169 : decode code 1169 = .ok (.istore 5, 2) := by decide +kernel
theorem dc_law_1171 : decode code 1171 = .ok (.aload_n 2, 1) := by decide +kernel
theorem dc_law_1172 : decode code 1172 = .ok (.aload_n 0, 1) := by decide +kernel
theorem dc_law_1173 : decode code 1173 = .ok (.iload 4, 2) := by decide +kernel
theorem dc_law_1175 : decode code 1175 = .ok (.iconst 1, 1) := by decide +kernel
theorem dc_law_1176 : decode code 1176 = .ok (.iadd, 1) := by decide +kernel
theorem dc_law_1177 : decode code 1177 = .ok (.iaload, 1) := by decide +kernel
theorem dc_law_1178 : decode code 1178 = .ok (.aload_n 0, 1) := by decide +kernel
theorem dc_law_1179 : decode code 1179 = .ok (.iload 4, 2) := by decide +kernel
theorem dc_law_1181 : decode code 1181 = .ok (.iconst 2, 1) := by decide +kernel
theorem dc_law_1182 : decode code 1182 = .ok (.iadd, 1) := by decide +kernel
theorem dc_law_1183 : decode code 1183 = .ok (.iaload, 1) := by decide +kernel
theorem dc_law_1184 : decode code 1184 = .ok (.invokevirtual 142, 3) := by decide +kernel
theorem dc_law_1187 : decode code 1187 = .ok (.istore 6, 2) := by decide +kernel
theorem dc_law_1189 : decode code 1189 = .ok (.aload_n 2, 1) := by decide +kernel
theorem dc_law_1190 : decode code 1190 = .ok (.invokevirtual 92, 3) := by decide +kernel
theorem dc_law_1193 : decode code 1193 = .ok (.iload 5, 2) := by decide +kernel
theorem dc_law_1195 : decode code 1195 = .ok (.if_icmp .eq 5, 3) := by decide +kernel
theorem dc_law_1198 : decode code 1198 = .ok (.iconst 0, 1) := by decide +kernel
theorem dc_law_1199 : decode code 1199 = .ok (.ireturn, 1) := by decide +kernel
theorem dc_law_1200 : decode code 1200 = .ok (.iload 5, 2) := by decide +kernel
theorem dc_law_1202 : decode code 1202 = .ok (.ifCond .ne 15, 3) := by decide +kernel
theorem dc_law_1205 : decode code 1205 = .ok (.aload_n 3, 1) := by decide +kernel
theorem dc_law_1206 : decode code 1206 = .ok (.iconst 0, 1) := by decide +kernel
theorem dc_law_1207 : decode code 1207 = .ok (.laload, 1) := by decide +kernel
theorem dc_law_1208 : decode code 1208 = .ok (.iload 6, 2) := by decide +kernel
theorem dc_law_1210 : decode code 1210 = .ok (.i2l, 1) := by decide +kernel
theorem dc_law_1211 : decode code 1211 = .ok (.lcmp, 1) := by decide +kernel
theorem dc_law_1212 : decode code 1212 = .ok (.ifCond .eq 5, 3) := by decide +kernel
theorem dc_law_1215 : decode code 1215 = .ok (.iconst 0, 1) := by decide +kernel
theorem dc_law_1216 : decode code 1216 = .ok (.ireturn, 1) := by decide +kernel
theorem dc_law_1217 : decode code 1217 = .ok (.goto 239, 3) := by decide +kernel
theorem dc_law_1220 : decode code 1220 = .ok (.aload_n 1, 1) := by decide +kernel
theorem dc_law_1221 : decode code 1221 = .ok (.aload_n 0, 1) := by decide +kernel
theorem dc_law_1222 : decode code 1222 = .ok (.iload 4, 2) := by decide +kernel
theorem dc_law_1224 : decode code 1224 = .ok (.iconst 1, 1) := by decide +kernel
theorem dc_law_1225 : decode code 1225 = .ok (.iadd, 1) := by decide +kernel
theorem dc_law_1226 : decode code 1226 = .ok (.iaload, 1) := by decide +kernel
theorem dc_law_1227 : decode code 1227 = .ok (.aload_n 0, 1) := by decide +kernel
theorem dc_law_1228 : decode code 1228 = .ok (.iload 4, 2) := by decide +kernel
theorem dc_law_1230 : decode code 1230 = .ok (.iconst 2, 1) := by decide +kernel
theorem dc_law_1231 : decode code 1231 = .ok (.iadd, 1) := by decide +kernel
theorem dc_law_1232 : decode code 1232 = .ok (.iaload, 1) := by decide +kernel
theorem dc_law_1233 : decode code 1233 = .ok (.aload_n 3, 1) := by decide +kernel
theorem dc_law_1234 : decode code 1234 = .ok (.invokestatic 143, 3) := by decide +kernel
theorem dc_law_1237 : decode code 1237 = .ok (.istore 5, 2) := by decide +kernel
theorem dc_law_1239 : decode code 1239 = .ok (.aload_n 2, 1) := by decide +kernel
theorem dc_law_1240 : decode code 1240 = .ok (.aload_n 0, 1) := by decide +kernel
theorem dc_law_1241 : decode code 1241 = .ok (.iload 4, 2) := by decide +kernel
theorem dc_law_1243 : decode code 1243 = .ok (.iconst 1, 1) := by decide +kernel
theorem dc_law_1244 : decode code 1244 = .ok (.iadd, 1) := by decide +kernel
theorem dc_law_1245 : decode code 1245 = .ok (.iaload, 1) := by decide +kernel
theorem dc_law_1246 : decode code 1246 = .ok (.aload_n 0, 1) := by decide +kernel
theorem dc_law_1247 : decode code 1247 = .ok (.iload 4, 2) := by decide +kernel
theorem dc_law_1249 : decode code 1249 = .ok (.iconst 2, 1) := by decide +kernel
theorem dc_law_1250 : decode code 1250 = .ok (.iadd, 1) := by decide +kernel
theorem dc_law_1251 : decode code 1251 = .ok (.iaload, 1) := by decide +kernel
theorem dc_law_1252 : decode code 1252 = .ok (.invokevirtual 145, 3) := by decide +kernel
theorem dc_law_1255 : decode code 1255 = .ok (.istore 6, 2) := by decide +kernel
theorem dc_law_1257 : decode code 1257 = .ok (.aload_n 2, 1) := by decide +kernel
theorem dc_law_1258 : decode code 1258 = .ok (.invokevirtual 92, 3) := by decide +kernel
theorem dc_law_1261 : decode code 1261 = .ok (.iload 5, 2) := by decide +kernel
theorem dc_law_1263 : decode code 1263 = .ok (.if_icmp .eq 5, 3) := by decide +kernel
theorem dc_law_1266 : decode code 1266 = .ok (.iconst 0, 1) := by decide +kernel
theorem dc_law_1267 : decode code 1267 = .ok (.ireturn, 1) := by decide +kernel
theorem dc_law_1268 : decode code 1268 = .ok (.iload 5, 2) := by decide +kernel
theorem dc_law_1270 : decode code 1270 = .ok (.ifCond .ne 15, 3) := by decide +kernel
theorem dc_law_1273 : decode code 1273 = .ok (.aload_n 3, 1) := by decide +kernel
theorem dc_law_1274 : decode code 1274 = .ok (.iconst 0, 1) := by decide +kernel
theorem dc_law_1275 : decode code 1275 = .ok (.laload, 1) := by decide +kernel
theorem dc_law_1276 : decode code 1276 = .ok (.iload 6, 2) := by decide +kernel
theorem dc_law_1278 : decode code 1278 = .ok (.i2l, 1) := by decide +kernel
theorem dc_law_1279 : decode code 1279 = .ok (.lcmp, 1) := by decide +kernel
theorem dc_law_1280 : decode code 1280 = .ok (.ifCond .eq 5, 3) := by decide +kernel
theorem dc_law_1283 : decode code 1283 = .ok (.iconst 0, 1) := by decide +kernel
theorem dc_law_1284 : decode code 1284 = .ok (.ireturn, 1) := by decide +kernel
theorem dc_law_1285 : decode code 1285 = .ok (.goto 171, 3) := by decide +kernel
theorem dc_law_1288 : decode code 1288 = .ok (.aload_n 1, 1) := by decide +kernel
theorem dc_law_1289 : decode code 1289 = .ok (.aload_n 0, 1) := by decide +kernel
theorem dc_law_1290 : decode code 1290 = .ok (.iload 4, 2) := by decide +kernel
theorem dc_law_1292 : decode code 1292 = .ok (.iconst 1, 1) := by decide +kernel
theorem dc_law_1293 : decode code 1293 = .ok (.iadd, 1) := by decide +kernel
theorem dc_law_1294 : decode code 1294 = .ok (.iaload, 1) := by decide +kernel
theorem dc_law_1295 : decode code 1295 = .ok (.aload_n 3, 1) := by decide +kernel
theorem dc_law_1296 : decode code 1296 = .ok (.invokestatic 146, 3) := by decide +kernel
theorem dc_law_1299 : decode code 1299 = .ok (.istore 5, 2) := by decide +kernel
theorem dc_law_1301 : decode code 1301 = .ok (.aload_n 2, 1) := by decide +kernel
theorem dc_law_1302 : decode code 1302 = .ok (.aload_n 0, 1) := by decide +kernel
theorem dc_law_1303 : decode code 1303 = .ok (.iload 4, 2) := by decide +kernel
theorem dc_law_1305 : decode code 1305 = .ok (.iconst 1, 1) := by decide +kernel
theorem dc_law_1306 : decode code 1306 = .ok (.iadd, 1) := by decide +kernel
theorem dc_law_1307 : decode code 1307 = .ok (.iaload, 1) := by decide +kernel
theorem dc_law_1308 : decode code 1308 = .ok (.invokevirtual 148, 3) := by decide +kernel
theorem dc_law_1311 : decode code 1311 = .ok (.istore 6, 2) := by decide +kernel
theorem dc_law_1313 : decode code 1313 = .ok (.aload_n 2, 1) := by decide +kernel
theorem dc_law_1314 : decode code 1314 = .ok (.invokevirtual 92, 3) := by decide +kernel
theorem dc_law_1317 : decode code 1317 = .ok (.iload 5, 2) := by decide +kernel
theorem dc_law_1319 : decode code 1319 = .ok (.if_icmp .eq 5, 3) := by decide +kernel
theorem dc_law_1322 : decode code 1322 = .ok (.iconst 0, 1) := by decide +kernel
theorem dc_law_1323 : decode code 1323 = .ok (.ireturn, 1) := by decide +kernel
theorem dc_law_1324 : decode code 1324 = .ok (.iload 5, 2) := by decide +kernel
theorem dc_law_1326 : decode code 1326 = .ok (.ifCond .ne 15, 3) := by decide +kernel
theorem dc_law_1329 : decode code 1329 = .ok (.aload_n 3, 1) := by decide +kernel
theorem dc_law_1330 : decode code 1330 = .ok (.iconst 0, 1) := by decide +kernel
theorem dc_law_1331 : decode code 1331 = .ok (.laload, 1) := by decide +kernel
theorem dc_law_1332 : decode code 1332 = .ok (.iload 6, 2) := by decide +kernel
theorem dc_law_1334 : decode code 1334 = .ok (.i2l, 1) := by decide +kernel
theorem dc_law_1335 : decode code 1335 = .ok (.lcmp, 1) := by decide +kernel
theorem dc_law_1336 : decode code 1336 = .ok (.ifCond .eq 5, 3) := by decide +kernel
theorem dc_law_1339 : decode code 1339 = .ok (.iconst 0, 1) := by decide +kernel
theorem dc_law_1340 : decode code 1340 = .ok (.ireturn, 1) := by decide +kernel
theorem dc_law_1341 : decode code 1341 = .ok (.goto 115, 3) := by decide +kernel
theorem dc_law_1344 : decode code 1344 = .ok (.aload_n 1, 1) := by decide +kernel
theorem dc_law_1345 : decode code 1345 = .ok (.aload_n 0, 1) := by decide +kernel
theorem dc_law_1346 : decode code 1346 = .ok (.iload 4, 2) := by decide +kernel
theorem dc_law_1348 : decode code 1348 = .ok (.iconst 1, 1) := by decide +kernel
theorem dc_law_1349 : decode code 1349 = .ok (.iadd, 1) := by decide +kernel
theorem dc_law_1350 : decode code 1350 = .ok (.iaload, 1) := by decide +kernel
theorem dc_law_1351 : decode code 1351 = .ok (.aload_n 3, 1) := by decide +kernel
theorem dc_law_1352 : decode code 1352 = .ok (.invokestatic 149, 3) := by decide +kernel
theorem dc_law_1355 : decode code 1355 = .ok (.istore 5, 2) := by decide +kernel
theorem dc_law_1357 : decode code 1357 = .ok (.aload_n 2, 1) := by decide +kernel
theorem dc_law_1358 : decode code 1358 = .ok (.aload_n 0, 1) := by decide +kernel
theorem dc_law_1359 : decode code 1359 = .ok (.iload 4, 2) := by decide +kernel
theorem dc_law_1361 : decode code 1361 = .ok (.iconst 1, 1) := by decide +kernel
theorem dc_law_1362 : decode code 1362 = .ok (.iadd, 1) := by decide +kernel
theorem dc_law_1363 : decode code 1363 = .ok (.iaload, 1) := by decide +kernel
theorem dc_law_1364 : decode code 1364 = .ok (.invokevirtual 151, 3) := by decide +kernel
theorem dc_law_1367 : decode code 1367 = .ok (.istore 6, 2) := by decide +kernel
theorem dc_law_1369 : decode code 1369 = .ok (.aload_n 2, 1) := by decide +kernel
theorem dc_law_1370 : decode code 1370 = .ok (.invokevirtual 92, 3) := by decide +kernel
theorem dc_law_1373 : decode code 1373 = .ok (.iload 5, 2) := by decide +kernel
theorem dc_law_1375 : decode code 1375 = .ok (.if_icmp .eq 5, 3) := by decide +kernel
theorem dc_law_1378 : decode code 1378 = .ok (.iconst 0, 1) := by decide +kernel
theorem dc_law_1379 : decode code 1379 = .ok (.ireturn, 1) := by decide +kernel
theorem dc_law_1380 : decode code 1380 = .ok (.iload 5, 2) := by decide +kernel
theorem dc_law_1382 : decode code 1382 = .ok (.ifCond .ne 15, 3) := by decide +kernel
theorem dc_law_1385 : decode code 1385 = .ok (.aload_n 3, 1) := by decide +kernel
theorem dc_law_1386 : decode code 1386 = .ok (.iconst 0, 1) := by decide +kernel
theorem dc_law_1387 : decode code 1387 = .ok (.laload, 1) := by decide +kernel
theorem dc_law_1388 : decode code 1388 = .ok (.iload 6, 2) := by decide +kernel
theorem dc_law_1390 : decode code 1390 = .ok (.i2l, 1) := by decide +kernel
theorem dc_law_1391 : decode code 1391 = .ok (.lcmp, 1) := by decide +kernel
theorem dc_law_1392 : decode code 1392 = .ok (.ifCond .eq 5, 3) := by decide +kernel
theorem dc_law_1395 : decode code 1395 = .ok (.iconst 0, 1) := by decide +kernel
theorem dc_law_1396 : decode code 1396 = .ok (.ireturn, 1) := by decide +kernel
theorem dc_law_1397 : decode code 1397 = .ok (.goto 59, 3) := by decide +kernel
theorem dc_law_1400 : decode code 1400 = .ok (.aload_n 1, 1) := by decide +kernel
theorem dc_law_1401 : decode code 1401 = .ok (.aload_n 0, 1) := by decide +kernel
theorem dc_law_1402 : decode code 1402 = .ok (.iload 4, 2) := by decide +kernel
theorem dc_law_1404 : decode code 1404 = .ok (.iconst 1, 1) := by decide +kernel
theorem dc_law_1405 : decode code 1405 = .ok (.iadd, 1) := by decide +kernel
theorem dc_law_1406 : decode code 1406 = .ok (.iaload, 1) := by decide +kernel
theorem dc_law_1407 : decode code 1407 = .ok (.aload_n 3, 1) := by decide +kernel
theorem dc_law_1408 : decode code 1408 = .ok (.invokestatic 152, 3) := by decide +kernel
theorem dc_law_1411 : decode code 1411 = .ok (.istore 5, 2) := by decide +kernel
theorem dc_law_1413 : decode code 1413 = .ok (.aload_n 2, 1) := by decide +kernel
theorem dc_law_1414 : decode code 1414 = .ok (.aload_n 0, 1) := by decide +kernel
theorem dc_law_1415 : decode code 1415 = .ok (.iload 4, 2) := by decide +kernel
theorem dc_law_1417 : decode code 1417 = .ok (.iconst 1, 1) := by decide +kernel
theorem dc_law_1418 : decode code 1418 = .ok (.iadd, 1) := by decide +kernel
theorem dc_law_1419 : decode code 1419 = .ok (.iaload, 1) := by decide +kernel
theorem dc_law_1420 : decode code 1420 = .ok (.invokevirtual 154, 3) := by decide +kernel
theorem dc_law_1423 : decode code 1423 = .ok (.istore 6, 2) := by decide +kernel
theorem dc_law_1425 : decode code 1425 = .ok (.aload_n 2, 1) := by decide +kernel
theorem dc_law_1426 : decode code 1426 = .ok (.invokevirtual 92, 3) := by decide +kernel
theorem dc_law_1429 : decode code 1429 = .ok (.iload 5, 2) := by decide +kernel
theorem dc_law_1431 : decode code 1431 = .ok (.if_icmp .eq 5, 3) := by decide +kernel
theorem dc_law_1434 : decode code 1434 = .ok (.iconst 0, 1) := by decide +kernel
theorem dc_law_1435 : decode code 1435 = .ok (.ireturn, 1) := by decide +kernel
theorem dc_law_1436 : decode code 1436 = .ok (.iload 5, 2) := by decide +kernel
theorem dc_law_1438 : decode code 1438 = .ok (.ifCond .ne 15, 3) := by decide +kernel
theorem dc_law_1441 : decode code 1441 = .ok (.aload_n 3, 1) := by decide +kernel
theorem dc_law_1442 : decode code 1442 = .ok (.iconst 0, 1) := by decide +kernel
theorem dc_law_1443 : decode code 1443 = .ok (.laload, 1) := by decide +kernel
theorem dc_law_1444 : decode code 1444 = .ok (.iload 6, 2) := by decide +kernel
theorem dc_law_1446 : decode code 1446 = .ok (.i2l, 1) := by decide +kernel
theorem dc_law_1447 : decode code 1447 = .ok (.lcmp, 1) := by decide +kernel
theorem dc_law_1448 : decode code 1448 = .ok (.ifCond .eq 5, 3) := by decide +kernel
theorem dc_law_1451 : decode code 1451 = .ok (.iconst 0, 1) := by decide +kernel
theorem dc_law_1452 : decode code 1452 = .ok (.ireturn, 1) := by decide +kernel
theorem dc_law_1453 : decode code 1453 = .ok (.goto 3, 3) := by decide +kernel
theorem dc_law_1456 : decode code 1456 = .ok (.iinc 4 5, 3) := by decide +kernel
theorem dc_law_1459 : decode code 1459 = .ok (.goto (-1436), 3) := by decide +kernel
theorem dc_law_1462 : decode code 1462 = .ok (.iconst 1, 1) := by decide +kernel
theorem dc_law_1463 : decode code 1463 = .ok (.ireturn, 1) := by decide +kernel
