/-! the law: its code, its tools -/
theorem dl_0 : decode code 0 = .ok ((.new 8), 3) := by decide +kernel
theorem dl_3 : decode code 3 = .ok (.dup, 1) := by decide +kernel
theorem dl_4 : decode code 4 = .ok ((.invokespecial 32), 3) := by decide +kernel
theorem dl_7 : decode code 7 = .ok ((.astore_n 1), 1) := by decide +kernel
theorem dl_8 : decode code 8 = .ok ((.new 33), 3) := by decide +kernel
theorem dl_11 : decode code 11 = .ok (.dup, 1) := by decide +kernel
theorem dl_12 : decode code 12 = .ok ((.invokespecial 35), 3) := by decide +kernel
theorem dl_15 : decode code 15 = .ok ((.astore_n 2), 1) := by decide +kernel
theorem dl_16 : decode code 16 = .ok ((.iconst 1), 1) := by decide +kernel
theorem dl_17 : decode code 17 = .ok ((.newarray .long), 2) := by decide +kernel
theorem dl_19 : decode code 19 = .ok ((.astore_n 3), 1) := by decide +kernel
theorem dl_20 : decode code 20 = .ok ((.iconst 0), 1) := by decide +kernel
theorem dl_21 : decode code 21 = .ok ((.istore 4), 2) := by decide +kernel
theorem dl_23 : decode code 23 = .ok ((.iload 4), 2) := by decide +kernel
theorem dl_25 : decode code 25 = .ok ((.aload_n 0), 1) := by decide +kernel
theorem dl_26 : decode code 26 = .ok (.arraylength, 1) := by decide +kernel
theorem dl_27 : decode code 27 = .ok ((.iconst 4), 1) := by decide +kernel
theorem dl_28 : decode code 28 = .ok (.isub, 1) := by decide +kernel
theorem dl_29 : decode code 29 = .ok ((.if_icmp .gt 632), 3) := by decide +kernel
theorem dl_32 : decode code 32 = .ok ((.aload_n 0), 1) := by decide +kernel
theorem dl_33 : decode code 33 = .ok ((.iload 4), 2) := by decide +kernel
theorem dl_35 : decode code 35 = .ok (.iaload, 1) := by decide +kernel
theorem dl_36 : decode code 36 = .ok ((.bipush 15), 2) := by decide +kernel
theorem dl_38 : decode code 38 = .ok (.iand, 1) := by decide +kernel
theorem dl_39 : decode code 39 = .ok ((.tableswitch 616 0 15 #[77, 102, 146, 190, 203, 228, 277, 346, 393, 429, 485, 498, 512, 553, 566, 591]), 77) := by decide +kernel
theorem dl_116 : decode code 116 = .ok ((.aload_n 1), 1) := by decide +kernel
theorem dl_117 : decode code 117 = .ok ((.aload_n 0), 1) := by decide +kernel
theorem dl_118 : decode code 118 = .ok ((.iload 4), 2) := by decide +kernel
theorem dl_120 : decode code 120 = .ok ((.iconst 1), 1) := by decide +kernel
theorem dl_121 : decode code 121 = .ok (.iadd, 1) := by decide +kernel
theorem dl_122 : decode code 122 = .ok (.iaload, 1) := by decide +kernel
theorem dl_123 : decode code 123 = .ok ((.invokevirtual 36), 3) := by decide +kernel
theorem dl_126 : decode code 126 = .ok ((.aload_n 2), 1) := by decide +kernel
theorem dl_127 : decode code 127 = .ok ((.aload_n 0), 1) := by decide +kernel
theorem dl_128 : decode code 128 = .ok ((.iload 4), 2) := by decide +kernel
theorem dl_130 : decode code 130 = .ok ((.iconst 1), 1) := by decide +kernel
theorem dl_131 : decode code 131 = .ok (.iadd, 1) := by decide +kernel
theorem dl_132 : decode code 132 = .ok (.iaload, 1) := by decide +kernel
theorem dl_133 : decode code 133 = .ok ((.invokevirtual 40), 3) := by decide +kernel
theorem dl_136 : decode code 136 = .ok ((.if_icmp .eq 519), 3) := by decide +kernel
theorem dl_139 : decode code 139 = .ok ((.iconst 0), 1) := by decide +kernel
theorem dl_140 : decode code 140 = .ok (.ireturn, 1) := by decide +kernel
theorem dl_141 : decode code 141 = .ok ((.aload_n 1), 1) := by decide +kernel
theorem dl_142 : decode code 142 = .ok ((.aload_n 3), 1) := by decide +kernel
theorem dl_143 : decode code 143 = .ok ((.invokestatic 41), 3) := by decide +kernel
theorem dl_146 : decode code 146 = .ok ((.istore 5), 2) := by decide +kernel
theorem dl_148 : decode code 148 = .ok ((.aload_n 2), 1) := by decide +kernel
theorem dl_149 : decode code 149 = .ok ((.invokevirtual 46), 3) := by decide +kernel
theorem dl_152 : decode code 152 = .ok ((.istore 6), 2) := by decide +kernel
theorem dl_154 : decode code 154 = .ok ((.aload_n 2), 1) := by decide +kernel
theorem dl_155 : decode code 155 = .ok ((.invokevirtual 47), 3) := by decide +kernel
theorem dl_158 : decode code 158 = .ok ((.iload 5), 2) := by decide +kernel
theorem dl_160 : decode code 160 = .ok ((.if_icmp .eq 5), 3) := by decide +kernel
theorem dl_163 : decode code 163 = .ok ((.iconst 0), 1) := by decide +kernel
theorem dl_164 : decode code 164 = .ok (.ireturn, 1) := by decide +kernel
theorem dl_165 : decode code 165 = .ok ((.iload 5), 2) := by decide +kernel
theorem dl_167 : decode code 167 = .ok ((.ifCond .ne 15), 3) := by decide +kernel
theorem dl_170 : decode code 170 = .ok ((.aload_n 3), 1) := by decide +kernel
theorem dl_171 : decode code 171 = .ok ((.iconst 0), 1) := by decide +kernel
theorem dl_172 : decode code 172 = .ok (.laload, 1) := by decide +kernel
theorem dl_173 : decode code 173 = .ok ((.iload 6), 2) := by decide +kernel
theorem dl_175 : decode code 175 = .ok (.i2l, 1) := by decide +kernel
theorem dl_176 : decode code 176 = .ok (.lcmp, 1) := by decide +kernel
theorem dl_177 : decode code 177 = .ok ((.ifCond .eq 5), 3) := by decide +kernel
theorem dl_180 : decode code 180 = .ok ((.iconst 0), 1) := by decide +kernel
theorem dl_181 : decode code 181 = .ok (.ireturn, 1) := by decide +kernel
theorem dl_182 : decode code 182 = .ok ((.goto 473), 3) := by decide +kernel
theorem dl_185 : decode code 185 = .ok ((.aload_n 1), 1) := by decide +kernel
theorem dl_186 : decode code 186 = .ok ((.aload_n 3), 1) := by decide +kernel
theorem dl_187 : decode code 187 = .ok ((.invokestatic 50), 3) := by decide +kernel
theorem dl_190 : decode code 190 = .ok ((.istore 5), 2) := by decide +kernel
theorem dl_192 : decode code 192 = .ok ((.aload_n 2), 1) := by decide +kernel
theorem dl_193 : decode code 193 = .ok ((.invokevirtual 52), 3) := by decide +kernel
theorem dl_196 : decode code 196 = .ok ((.istore 6), 2) := by decide +kernel
theorem dl_198 : decode code 198 = .ok ((.aload_n 2), 1) := by decide +kernel
theorem dl_199 : decode code 199 = .ok ((.invokevirtual 47), 3) := by decide +kernel
theorem dl_202 : decode code 202 = .ok ((.iload 5), 2) := by decide +kernel
theorem dl_204 : decode code 204 = .ok ((.if_icmp .eq 5), 3) := by decide +kernel
theorem dl_207 : decode code 207 = .ok ((.iconst 0), 1) := by decide +kernel
theorem dl_208 : decode code 208 = .ok (.ireturn, 1) := by decide +kernel
theorem dl_209 : decode code 209 = .ok ((.iload 5), 2) := by decide +kernel
theorem dl_211 : decode code 211 = .ok ((.ifCond .ne 15), 3) := by decide +kernel
theorem dl_214 : decode code 214 = .ok ((.aload_n 3), 1) := by decide +kernel
theorem dl_215 : decode code 215 = .ok ((.iconst 0), 1) := by decide +kernel
theorem dl_216 : decode code 216 = .ok (.laload, 1) := by decide +kernel
theorem dl_217 : decode code 217 = .ok ((.iload 6), 2) := by decide +kernel
theorem dl_219 : decode code 219 = .ok (.i2l, 1) := by decide +kernel
theorem dl_220 : decode code 220 = .ok (.lcmp, 1) := by decide +kernel
theorem dl_221 : decode code 221 = .ok ((.ifCond .eq 5), 3) := by decide +kernel
theorem dl_224 : decode code 224 = .ok ((.iconst 0), 1) := by decide +kernel
theorem dl_225 : decode code 225 = .ok (.ireturn, 1) := by decide +kernel
theorem dl_226 : decode code 226 = .ok ((.goto 429), 3) := by decide +kernel
theorem dl_229 : decode code 229 = .ok ((.aload_n 1), 1) := by decide +kernel
theorem dl_230 : decode code 230 = .ok ((.invokevirtual 53), 3) := by decide +kernel
theorem dl_233 : decode code 233 = .ok ((.aload_n 2), 1) := by decide +kernel
theorem dl_234 : decode code 234 = .ok ((.invokevirtual 56), 3) := by decide +kernel
theorem dl_237 : decode code 237 = .ok ((.if_icmp .eq 418), 3) := by decide +kernel
theorem dl_240 : decode code 240 = .ok ((.iconst 0), 1) := by decide +kernel
theorem dl_241 : decode code 241 = .ok (.ireturn, 1) := by decide +kernel
theorem dl_242 : decode code 242 = .ok ((.aload_n 1), 1) := by decide +kernel
theorem dl_243 : decode code 243 = .ok ((.aload_n 0), 1) := by decide +kernel
theorem dl_244 : decode code 244 = .ok ((.iload 4), 2) := by decide +kernel
theorem dl_246 : decode code 246 = .ok ((.iconst 1), 1) := by decide +kernel
theorem dl_247 : decode code 247 = .ok (.iadd, 1) := by decide +kernel
theorem dl_248 : decode code 248 = .ok (.iaload, 1) := by decide +kernel
theorem dl_249 : decode code 249 = .ok ((.invokevirtual 57), 3) := by decide +kernel
theorem dl_252 : decode code 252 = .ok ((.aload_n 2), 1) := by decide +kernel
theorem dl_253 : decode code 253 = .ok ((.aload_n 0), 1) := by decide +kernel
theorem dl_254 : decode code 254 = .ok ((.iload 4), 2) := by decide +kernel
theorem dl_256 : decode code 256 = .ok ((.iconst 1), 1) := by decide +kernel
theorem dl_257 : decode code 257 = .ok (.iadd, 1) := by decide +kernel
theorem dl_258 : decode code 258 = .ok (.iaload, 1) := by decide +kernel
theorem dl_259 : decode code 259 = .ok ((.invokevirtual 60), 3) := by decide +kernel
theorem dl_262 : decode code 262 = .ok ((.if_icmp .eq 393), 3) := by decide +kernel
theorem dl_265 : decode code 265 = .ok ((.iconst 0), 1) := by decide +kernel
theorem dl_266 : decode code 266 = .ok (.ireturn, 1) := by decide +kernel
theorem dl_267 : decode code 267 = .ok ((.aload_n 1), 1) := by decide +kernel
theorem dl_268 : decode code 268 = .ok ((.aload_n 0), 1) := by decide +kernel
theorem dl_269 : decode code 269 = .ok ((.iload 4), 2) := by decide +kernel
theorem dl_271 : decode code 271 = .ok ((.iconst 1), 1) := by decide +kernel
theorem dl_272 : decode code 272 = .ok (.iadd, 1) := by decide +kernel
theorem dl_273 : decode code 273 = .ok (.iaload, 1) := by decide +kernel
theorem dl_274 : decode code 274 = .ok ((.aload_n 0), 1) := by decide +kernel
theorem dl_275 : decode code 275 = .ok ((.iload 4), 2) := by decide +kernel
theorem dl_277 : decode code 277 = .ok ((.iconst 2), 1) := by decide +kernel
theorem dl_278 : decode code 278 = .ok (.iadd, 1) := by decide +kernel
theorem dl_279 : decode code 279 = .ok (.iaload, 1) := by decide +kernel
theorem dl_280 : decode code 280 = .ok ((.aload_n 0), 1) := by decide +kernel
theorem dl_281 : decode code 281 = .ok ((.iload 4), 2) := by decide +kernel
theorem dl_283 : decode code 283 = .ok ((.iconst 3), 1) := by decide +kernel
theorem dl_284 : decode code 284 = .ok (.iadd, 1) := by decide +kernel
theorem dl_285 : decode code 285 = .ok (.iaload, 1) := by decide +kernel
theorem dl_286 : decode code 286 = .ok ((.invokevirtual 61), 3) := by decide +kernel
theorem dl_289 : decode code 289 = .ok ((.aload_n 2), 1) := by decide +kernel
theorem dl_290 : decode code 290 = .ok ((.aload_n 0), 1) := by decide +kernel
theorem dl_291 : decode code 291 = .ok ((.iload 4), 2) := by decide +kernel
theorem dl_293 : decode code 293 = .ok ((.iconst 1), 1) := by decide +kernel
theorem dl_294 : decode code 294 = .ok (.iadd, 1) := by decide +kernel
theorem dl_295 : decode code 295 = .ok (.iaload, 1) := by decide +kernel
theorem dl_296 : decode code 296 = .ok ((.aload_n 0), 1) := by decide +kernel
theorem dl_297 : decode code 297 = .ok ((.iload 4), 2) := by decide +kernel
theorem dl_299 : decode code 299 = .ok ((.iconst 2), 1) := by decide +kernel
theorem dl_300 : decode code 300 = .ok (.iadd, 1) := by decide +kernel
theorem dl_301 : decode code 301 = .ok (.iaload, 1) := by decide +kernel
theorem dl_302 : decode code 302 = .ok ((.aload_n 0), 1) := by decide +kernel
theorem dl_303 : decode code 303 = .ok ((.iload 4), 2) := by decide +kernel
theorem dl_305 : decode code 305 = .ok ((.iconst 3), 1) := by decide +kernel
theorem dl_306 : decode code 306 = .ok (.iadd, 1) := by decide +kernel
theorem dl_307 : decode code 307 = .ok (.iaload, 1) := by decide +kernel
theorem dl_308 : decode code 308 = .ok ((.invokevirtual 65), 3) := by decide +kernel
theorem dl_311 : decode code 311 = .ok ((.if_icmp .eq 344), 3) := by decide +kernel
theorem dl_314 : decode code 314 = .ok ((.iconst 0), 1) := by decide +kernel
theorem dl_315 : decode code 315 = .ok (.ireturn, 1) := by decide +kernel
theorem dl_316 : decode code 316 = .ok ((.aload_n 1), 1) := by decide +kernel
theorem dl_317 : decode code 317 = .ok ((.aload_n 0), 1) := by decide +kernel
theorem dl_318 : decode code 318 = .ok ((.iload 4), 2) := by decide +kernel
theorem dl_320 : decode code 320 = .ok ((.iconst 1), 1) := by decide +kernel
theorem dl_321 : decode code 321 = .ok (.iadd, 1) := by decide +kernel
theorem dl_322 : decode code 322 = .ok (.iaload, 1) := by decide +kernel
theorem dl_323 : decode code 323 = .ok ((.aload_n 0), 1) := by decide +kernel
theorem dl_324 : decode code 324 = .ok ((.iload 4), 2) := by decide +kernel
theorem dl_326 : decode code 326 = .ok ((.iconst 2), 1) := by decide +kernel
theorem dl_327 : decode code 327 = .ok (.iadd, 1) := by decide +kernel
theorem dl_328 : decode code 328 = .ok (.iaload, 1) := by decide +kernel
theorem dl_329 : decode code 329 = .ok (.i2l, 1) := by decide +kernel
theorem dl_330 : decode code 330 = .ok ((.bipush 32), 2) := by decide +kernel
theorem dl_332 : decode code 332 = .ok (.lshl, 1) := by decide +kernel
theorem dl_333 : decode code 333 = .ok ((.aload_n 0), 1) := by decide +kernel
theorem dl_334 : decode code 334 = .ok ((.iload 4), 2) := by decide +kernel
theorem dl_336 : decode code 336 = .ok ((.iconst 3), 1) := by decide +kernel
theorem dl_337 : decode code 337 = .ok (.iadd, 1) := by decide +kernel
theorem dl_338 : decode code 338 = .ok (.iaload, 1) := by decide +kernel
theorem dl_339 : decode code 339 = .ok (.i2l, 1) := by decide +kernel
theorem dl_340 : decode code 340 = .ok ((.ldc2_w 66), 3) := by decide +kernel
theorem dl_343 : decode code 343 = .ok (.land, 1) := by decide +kernel
theorem dl_344 : decode code 344 = .ok (.lor, 1) := by decide +kernel
theorem dl_345 : decode code 345 = .ok ((.invokevirtual 68), 3) := by decide +kernel
theorem dl_348 : decode code 348 = .ok ((.aload_n 2), 1) := by decide +kernel
theorem dl_349 : decode code 349 = .ok ((.aload_n 0), 1) := by decide +kernel
theorem dl_350 : decode code 350 = .ok ((.iload 4), 2) := by decide +kernel
theorem dl_352 : decode code 352 = .ok ((.iconst 1), 1) := by decide +kernel
theorem dl_353 : decode code 353 = .ok (.iadd, 1) := by decide +kernel
theorem dl_354 : decode code 354 = .ok (.iaload, 1) := by decide +kernel
theorem dl_355 : decode code 355 = .ok ((.aload_n 0), 1) := by decide +kernel
theorem dl_356 : decode code 356 = .ok ((.iload 4), 2) := by decide +kernel
theorem dl_358 : decode code 358 = .ok ((.iconst 2), 1) := by decide +kernel
theorem dl_359 : decode code 359 = .ok (.iadd, 1) := by decide +kernel
theorem dl_360 : decode code 360 = .ok (.iaload, 1) := by decide +kernel
theorem dl_361 : decode code 361 = .ok (.i2l, 1) := by decide +kernel
theorem dl_362 : decode code 362 = .ok ((.bipush 32), 2) := by decide +kernel
theorem dl_364 : decode code 364 = .ok (.lshl, 1) := by decide +kernel
theorem dl_365 : decode code 365 = .ok ((.aload_n 0), 1) := by decide +kernel
theorem dl_366 : decode code 366 = .ok ((.iload 4), 2) := by decide +kernel
theorem dl_368 : decode code 368 = .ok ((.iconst 3), 1) := by decide +kernel
theorem dl_369 : decode code 369 = .ok (.iadd, 1) := by decide +kernel
theorem dl_370 : decode code 370 = .ok (.iaload, 1) := by decide +kernel
theorem dl_371 : decode code 371 = .ok (.i2l, 1) := by decide +kernel
theorem dl_372 : decode code 372 = .ok ((.ldc2_w 66), 3) := by decide +kernel
theorem dl_375 : decode code 375 = .ok (.land, 1) := by decide +kernel
theorem dl_376 : decode code 376 = .ok (.lor, 1) := by decide +kernel
theorem dl_377 : decode code 377 = .ok ((.invokevirtual 72), 3) := by decide +kernel
theorem dl_380 : decode code 380 = .ok ((.if_icmp .eq 275), 3) := by decide +kernel
theorem dl_383 : decode code 383 = .ok ((.iconst 0), 1) := by decide +kernel
theorem dl_384 : decode code 384 = .ok (.ireturn, 1) := by decide +kernel
theorem dl_385 : decode code 385 = .ok ((.aload_n 1), 1) := by decide +kernel
theorem dl_386 : decode code 386 = .ok ((.aload_n 0), 1) := by decide +kernel
theorem dl_387 : decode code 387 = .ok ((.iload 4), 2) := by decide +kernel
theorem dl_389 : decode code 389 = .ok ((.iconst 1), 1) := by decide +kernel
theorem dl_390 : decode code 390 = .ok (.iadd, 1) := by decide +kernel
theorem dl_391 : decode code 391 = .ok (.iaload, 1) := by decide +kernel
theorem dl_392 : decode code 392 = .ok ((.aload_n 0), 1) := by decide +kernel
theorem dl_393 : decode code 393 = .ok ((.iload 4), 2) := by decide +kernel
theorem dl_395 : decode code 395 = .ok ((.iconst 2), 1) := by decide +kernel
theorem dl_396 : decode code 396 = .ok (.iadd, 1) := by decide +kernel
theorem dl_397 : decode code 397 = .ok (.iaload, 1) := by decide +kernel
theorem dl_398 : decode code 398 = .ok (.i2d, 1) := by decide +kernel
theorem dl_399 : decode code 399 = .ok ((.ldc2_w 73), 3) := by decide +kernel
theorem dl_402 : decode code 402 = .ok (.dmul, 1) := by decide +kernel
theorem dl_403 : decode code 403 = .ok ((.invokevirtual 75), 3) := by decide +kernel
theorem dl_406 : decode code 406 = .ok ((.aload_n 2), 1) := by decide +kernel
theorem dl_407 : decode code 407 = .ok ((.aload_n 0), 1) := by decide +kernel
theorem dl_408 : decode code 408 = .ok ((.iload 4), 2) := by decide +kernel
theorem dl_410 : decode code 410 = .ok ((.iconst 1), 1) := by decide +kernel
theorem dl_411 : decode code 411 = .ok (.iadd, 1) := by decide +kernel
theorem dl_412 : decode code 412 = .ok (.iaload, 1) := by decide +kernel
theorem dl_413 : decode code 413 = .ok ((.aload_n 0), 1) := by decide +kernel
theorem dl_414 : decode code 414 = .ok ((.iload 4), 2) := by decide +kernel
theorem dl_416 : decode code 416 = .ok ((.iconst 2), 1) := by decide +kernel
theorem dl_417 : decode code 417 = .ok (.iadd, 1) := by decide +kernel
theorem dl_418 : decode code 418 = .ok (.iaload, 1) := by decide +kernel
theorem dl_419 : decode code 419 = .ok (.i2d, 1) := by decide +kernel
theorem dl_420 : decode code 420 = .ok ((.ldc2_w 73), 3) := by decide +kernel
theorem dl_423 : decode code 423 = .ok (.dmul, 1) := by decide +kernel
theorem dl_424 : decode code 424 = .ok ((.invokevirtual 79), 3) := by decide +kernel
theorem dl_427 : decode code 427 = .ok ((.if_icmp .eq 228), 3) := by decide +kernel
theorem dl_430 : decode code 430 = .ok ((.iconst 0), 1) := by decide +kernel
theorem dl_431 : decode code 431 = .ok (.ireturn, 1) := by decide +kernel
theorem dl_432 : decode code 432 = .ok ((.aload_n 1), 1) := by decide +kernel
theorem dl_433 : decode code 433 = .ok ((.aload_n 0), 1) := by decide +kernel
theorem dl_434 : decode code 434 = .ok ((.iload 4), 2) := by decide +kernel
theorem dl_436 : decode code 436 = .ok ((.iconst 1), 1) := by decide +kernel
theorem dl_437 : decode code 437 = .ok (.iadd, 1) := by decide +kernel
theorem dl_438 : decode code 438 = .ok (.iaload, 1) := by decide +kernel
theorem dl_439 : decode code 439 = .ok ((.invokestatic 80), 3) := by decide +kernel
theorem dl_442 : decode code 442 = .ok ((.istore 5), 2) := by decide +kernel
theorem dl_444 : decode code 444 = .ok ((.aload_n 2), 1) := by decide +kernel
theorem dl_445 : decode code 445 = .ok ((.aload_n 0), 1) := by decide +kernel
theorem dl_446 : decode code 446 = .ok ((.iload 4), 2) := by decide +kernel
theorem dl_448 : decode code 448 = .ok ((.iconst 1), 1) := by decide +kernel
theorem dl_449 : decode code 449 = .ok (.iadd, 1) := by decide +kernel
theorem dl_450 : decode code 450 = .ok (.iaload, 1) := by decide +kernel
theorem dl_451 : decode code 451 = .ok ((.invokevirtual 83), 3) := by decide +kernel
theorem dl_454 : decode code 454 = .ok ((.aload_n 2), 1) := by decide +kernel
theorem dl_455 : decode code 455 = .ok ((.invokevirtual 47), 3) := by decide +kernel
theorem dl_458 : decode code 458 = .ok ((.iload 5), 2) := by decide +kernel
theorem dl_460 : decode code 460 = .ok ((.if_icmp .eq 5), 3) := by decide +kernel
theorem dl_463 : decode code 463 = .ok ((.iconst 0), 1) := by decide +kernel
theorem dl_464 : decode code 464 = .ok (.ireturn, 1) := by decide +kernel
theorem dl_465 : decode code 465 = .ok ((.goto 190), 3) := by decide +kernel
theorem dl_468 : decode code 468 = .ok ((.aload_n 1), 1) := by decide +kernel
theorem dl_469 : decode code 469 = .ok ((.aload_n 0), 1) := by decide +kernel
theorem dl_470 : decode code 470 = .ok ((.iload 4), 2) := by decide +kernel
theorem dl_472 : decode code 472 = .ok ((.iconst 1), 1) := by decide +kernel
theorem dl_473 : decode code 473 = .ok (.iadd, 1) := by decide +kernel
theorem dl_474 : decode code 474 = .ok (.iaload, 1) := by decide +kernel
theorem dl_475 : decode code 475 = .ok ((.aload_n 3), 1) := by decide +kernel
theorem dl_476 : decode code 476 = .ok ((.invokestatic 84), 3) := by decide +kernel
theorem dl_479 : decode code 479 = .ok ((.istore 5), 2) := by decide +kernel
theorem dl_481 : decode code 481 = .ok ((.aload_n 2), 1) := by decide +kernel
theorem dl_482 : decode code 482 = .ok ((.aload_n 0), 1) := by decide +kernel
theorem dl_483 : decode code 483 = .ok ((.iload 4), 2) := by decide +kernel
theorem dl_485 : decode code 485 = .ok ((.iconst 1), 1) := by decide +kernel
theorem dl_486 : decode code 486 = .ok (.iadd, 1) := by decide +kernel
theorem dl_487 : decode code 487 = .ok (.iaload, 1) := by decide +kernel
theorem dl_488 : decode code 488 = .ok ((.invokevirtual 87), 3) := by decide +kernel
theorem dl_491 : decode code 491 = .ok ((.istore 6), 2) := by decide +kernel
theorem dl_493 : decode code 493 = .ok ((.aload_n 2), 1) := by decide +kernel
theorem dl_494 : decode code 494 = .ok ((.invokevirtual 47), 3) := by decide +kernel
theorem dl_497 : decode code 497 = .ok ((.iload 5), 2) := by decide +kernel
theorem dl_499 : decode code 499 = .ok ((.if_icmp .eq 5), 3) := by decide +kernel
theorem dl_502 : decode code 502 = .ok ((.iconst 0), 1) := by decide +kernel
theorem dl_503 : decode code 503 = .ok (.ireturn, 1) := by decide +kernel
theorem dl_504 : decode code 504 = .ok ((.iload 5), 2) := by decide +kernel
theorem dl_506 : decode code 506 = .ok ((.ifCond .ne 15), 3) := by decide +kernel
theorem dl_509 : decode code 509 = .ok ((.aload_n 3), 1) := by decide +kernel
theorem dl_510 : decode code 510 = .ok ((.iconst 0), 1) := by decide +kernel
theorem dl_511 : decode code 511 = .ok (.laload, 1) := by decide +kernel
theorem dl_512 : decode code 512 = .ok ((.iload 6), 2) := by decide +kernel
theorem dl_514 : decode code 514 = .ok (.i2l, 1) := by decide +kernel
theorem dl_515 : decode code 515 = .ok (.lcmp, 1) := by decide +kernel
theorem dl_516 : decode code 516 = .ok ((.ifCond .eq 5), 3) := by decide +kernel
theorem dl_519 : decode code 519 = .ok ((.iconst 0), 1) := by decide +kernel
theorem dl_520 : decode code 520 = .ok (.ireturn, 1) := by decide +kernel
theorem dl_521 : decode code 521 = .ok ((.goto 134), 3) := by decide +kernel
theorem dl_524 : decode code 524 = .ok ((.aload_n 1), 1) := by decide +kernel
theorem dl_525 : decode code 525 = .ok ((.invokevirtual 88), 3) := by decide +kernel
theorem dl_528 : decode code 528 = .ok ((.aload_n 2), 1) := by decide +kernel
theorem dl_529 : decode code 529 = .ok ((.invokevirtual 91), 3) := by decide +kernel
theorem dl_532 : decode code 532 = .ok ((.if_icmp .eq 123), 3) := by decide +kernel
theorem dl_535 : decode code 535 = .ok ((.iconst 0), 1) := by decide +kernel
theorem dl_536 : decode code 536 = .ok (.ireturn, 1) := by decide +kernel
theorem dl_537 : decode code 537 = .ok ((.aload_n 1), 1) := by decide +kernel
theorem dl_538 : decode code 538 = .ok ((.invokevirtual 92), 3) := by decide +kernel
theorem dl_541 : decode code 541 = .ok ((.aload_n 2), 1) := by decide +kernel
theorem dl_542 : decode code 542 = .ok ((.invokevirtual 96), 3) := by decide +kernel
theorem dl_545 : decode code 545 = .ok (.lcmp, 1) := by decide +kernel
theorem dl_546 : decode code 546 = .ok ((.ifCond .eq 109), 3) := by decide +kernel
theorem dl_549 : decode code 549 = .ok ((.iconst 0), 1) := by decide +kernel
theorem dl_550 : decode code 550 = .ok (.ireturn, 1) := by decide +kernel
theorem dl_551 : decode code 551 = .ok ((.aload_n 1), 1) := by decide +kernel
theorem dl_552 : decode code 552 = .ok ((.invokevirtual 97), 3) := by decide +kernel
theorem dl_555 : decode code 555 = .ok ((.dstore 5), 2) := by decide +kernel
theorem dl_557 : decode code 557 = .ok ((.aload_n 2), 1) := by decide +kernel
theorem dl_558 : decode code 558 = .ok ((.invokevirtual 101), 3) := by decide +kernel
theorem dl_561 : decode code 561 = .ok ((.dstore 7), 2) := by decide +kernel
theorem dl_563 : decode code 563 = .ok ((.dload 5), 2) := by decide +kernel
theorem dl_565 : decode code 565 = .ok ((.dload 7), 2) := by decide +kernel
theorem dl_567 : decode code 567 = .ok ((.dcmp .l), 1) := by decide +kernel
theorem dl_568 : decode code 568 = .ok ((.ifCond .eq 21), 3) := by decide +kernel
theorem dl_571 : decode code 571 = .ok ((.dload 5), 2) := by decide +kernel
theorem dl_573 : decode code 573 = .ok ((.dload 5), 2) := by decide +kernel
theorem dl_575 : decode code 575 = .ok ((.dcmp .l), 1) := by decide +kernel
theorem dl_576 : decode code 576 = .ok ((.ifCond .eq 11), 3) := by decide +kernel
theorem dl_579 : decode code 579 = .ok ((.dload 7), 2) := by decide +kernel
theorem dl_581 : decode code 581 = .ok ((.dload 7), 2) := by decide +kernel
theorem dl_583 : decode code 583 = .ok ((.dcmp .l), 1) := by decide +kernel
theorem dl_584 : decode code 584 = .ok ((.ifCond .ne 5), 3) := by decide +kernel
theorem dl_587 : decode code 587 = .ok ((.iconst 0), 1) := by decide +kernel
theorem dl_588 : decode code 588 = .ok (.ireturn, 1) := by decide +kernel
theorem dl_589 : decode code 589 = .ok ((.goto 66), 3) := by decide +kernel
theorem dl_592 : decode code 592 = .ok ((.aload_n 1), 1) := by decide +kernel
theorem dl_593 : decode code 593 = .ok ((.invokevirtual 102), 3) := by decide +kernel
theorem dl_596 : decode code 596 = .ok ((.aload_n 2), 1) := by decide +kernel
theorem dl_597 : decode code 597 = .ok ((.invokevirtual 105), 3) := by decide +kernel
theorem dl_600 : decode code 600 = .ok ((.if_icmp .eq 55), 3) := by decide +kernel
theorem dl_603 : decode code 603 = .ok ((.iconst 0), 1) := by decide +kernel
theorem dl_604 : decode code 604 = .ok (.ireturn, 1) := by decide +kernel
theorem dl_605 : decode code 605 = .ok ((.aload_n 1), 1) := by decide +kernel
theorem dl_606 : decode code 606 = .ok ((.aload_n 0), 1) := by decide +kernel
theorem dl_607 : decode code 607 = .ok ((.iload 4), 2) := by decide +kernel
theorem dl_609 : decode code 609 = .ok ((.iconst 1), 1) := by decide +kernel
theorem dl_610 : decode code 610 = .ok (.iadd, 1) := by decide +kernel
theorem dl_611 : decode code 611 = .ok (.iaload, 1) := by decide +kernel
theorem dl_612 : decode code 612 = .ok ((.invokevirtual 106), 3) := by decide +kernel
theorem dl_615 : decode code 615 = .ok ((.aload_n 2), 1) := by decide +kernel
theorem dl_616 : decode code 616 = .ok ((.aload_n 0), 1) := by decide +kernel
theorem dl_617 : decode code 617 = .ok ((.iload 4), 2) := by decide +kernel
theorem dl_619 : decode code 619 = .ok ((.iconst 1), 1) := by decide +kernel
theorem dl_620 : decode code 620 = .ok (.iadd, 1) := by decide +kernel
theorem dl_621 : decode code 621 = .ok (.iaload, 1) := by decide +kernel
theorem dl_622 : decode code 622 = .ok ((.invokevirtual 109), 3) := by decide +kernel
theorem dl_625 : decode code 625 = .ok ((.if_icmp .eq 30), 3) := by decide +kernel
theorem dl_628 : decode code 628 = .ok ((.iconst 0), 1) := by decide +kernel
theorem dl_629 : decode code 629 = .ok (.ireturn, 1) := by decide +kernel
theorem dl_630 : decode code 630 = .ok ((.aload_n 1), 1) := by decide +kernel
theorem dl_631 : decode code 631 = .ok ((.aload_n 0), 1) := by decide +kernel
theorem dl_632 : decode code 632 = .ok ((.iload 4), 2) := by decide +kernel
theorem dl_634 : decode code 634 = .ok ((.iconst 1), 1) := by decide +kernel
theorem dl_635 : decode code 635 = .ok (.iadd, 1) := by decide +kernel
theorem dl_636 : decode code 636 = .ok (.iaload, 1) := by decide +kernel
theorem dl_637 : decode code 637 = .ok ((.invokevirtual 110), 3) := by decide +kernel
theorem dl_640 : decode code 640 = .ok ((.aload_n 2), 1) := by decide +kernel
theorem dl_641 : decode code 641 = .ok ((.aload_n 0), 1) := by decide +kernel
theorem dl_642 : decode code 642 = .ok ((.iload 4), 2) := by decide +kernel
theorem dl_644 : decode code 644 = .ok ((.iconst 1), 1) := by decide +kernel
theorem dl_645 : decode code 645 = .ok (.iadd, 1) := by decide +kernel
theorem dl_646 : decode code 646 = .ok (.iaload, 1) := by decide +kernel
theorem dl_647 : decode code 647 = .ok ((.invokevirtual 113), 3) := by decide +kernel
theorem dl_650 : decode code 650 = .ok ((.if_icmp .eq 5), 3) := by decide +kernel
theorem dl_653 : decode code 653 = .ok ((.iconst 0), 1) := by decide +kernel
theorem dl_654 : decode code 654 = .ok (.ireturn, 1) := by decide +kernel
theorem dl_655 : decode code 655 = .ok ((.iinc 4 4), 3) := by decide +kernel
theorem dl_658 : decode code 658 = .ok ((.goto (-635)), 3) := by decide +kernel
theorem dl_661 : decode code 661 = .ok ((.iconst 1), 1) := by decide +kernel
theorem dl_662 : decode code 662 = .ok (.ireturn, 1) := by decide +kernel
/-- what holds while the law runs -/
def LC (G : fr_G) (p : Program) (s : State) (m : MethodId) (meth : Method) (c : Code) (b L : Nat) (xs : Nat → Int32) : Prop := p.tables.exec = Jvm.exec ∧ c.code = code ∧ c.maxLocals = 9 ∧ s.vm.findClass "PairVmLaw" = some m.cls ∧ (∀ w ∈ al_W, w.before #[Value.ref b] s = true) ∧ TB G s ∧ SX G s ∧ NCx s ∧ va_X b L xs s s.heap ∧ b < s.heap.size ∧ fr_q G = s.heap.size
def LG (G : fr_G) (s : State) (σ : fr_S) (H : Heap) (locs : List Loc) : Prop := Pic G false 742 σ H ∧ va_S (AA (fr_q G)) s.heap H locs ∧ NS G H
def PcH (G : fr_G) (As : List Value) (σ : fr_S) : Array Value → State → Prop := va_Pc (As.map (cv G)) (fun U => ((Pic G false 742 σ U.heap ∧ TB G U) ∧ SX G U) ∧ NCx U)
def QcM (G : fr_G) (PH : Int32 → fr_S → Prop) : Array Value → State → Outcome → State → Prop := fun a st o t => QcH G PH a st o t ∧ ∃ L, FrameEnd st o t L 1 6 ∧ ∀ q ∈ L, AA (fr_q G) q.base
def wsH (Y : fr_Y) (hs : List (Nat × Nat × Nat × Nat)) : List Jvm.Cond := Cond.codeWith Y.1 Y.2.1 Y.2.2.1 Y.2.2.2 hs :: al_W
theorem hm_met {l : Launch} {G : fr_G} {Y : fr_Y} {hs : List (Nat × Nat × Nat × Nat)} {As : List Value} {σ : fr_S} {PH : Int32 → fr_S → Prop} (hy : plainName Y.1.cls = true) (hlen : (As.map fun v => v.category).sum ≤ Y.2.2.1) (h : PX l G Y rx_H (QHx Y G PH) false 742 0 0 0 (lv_args 0 As) [] σ) : MetFree l Y.1 (headSpec (wsH Y hs) rx_H) (PcH G As σ) (fun _ _ _ _ _ => True) (QcM G PH) := by
  refine MetFree.of_bodyS (code := Y.2.1) (maxLocals := Y.2.2.1) (ret := Y.2.2.2) hy ?_ ?_
  · intro args s m hp hn
    obtain ⟨m1, meth, c, h0, h1, h2, h3, h4, h5, h6, h7, -⟩ := Cond.codeWith_spec (atoms_spec (ws := wsH Y hs) hp _ List.mem_cons_self)
    cases h0.symm.trans hn
    exact ⟨meth, c, h1, h2, h3, h4, h6, h7⟩
  · intro p e s m args below meth c s₁ B hml hv _
    obtain ⟨rfl, ⟨⟨hPi, hT⟩, hsx⟩, hnc⟩ := hv
    have hts := atoms_spec (ws := wsH Y hs) B.pre
    have hl := lv_entry (As.map (cv G)) (n := Y.2.2.1) (by rw [lg_len, cv_sum]; exact hlen)
    rw [cv_args] at hl
    have hh0 : s₁.heap = s.heap := by rw [B.state]; rfl
    obtain ⟨t, st, hq⟩ := h p e s m _ below meth c s.heap [] _ ⟨B.exec, B.bytes, hml, B.returns, findClass_of_methodNamed B.named, fun w hw => hts w (List.mem_cons_of_mem _ hw), B.notSynchronized, (name_of_methodNamed B.named B.method).1, hT⟩ hl hPi va_S.rf s₁ hh0 (Stand.of_body B)
    rw [show List.map (cv G) [] = [] from rfl, ← lg_entry_eq] at st
    have hf := (Stand.of_body B).frames
    obtain ⟨o, b1, b2, b3, b4⟩ := hq hsx hnc (fun m' hm' => by
      rw [hf] at hm'
      cases hm'
      exact B.named)
    exact ⟨t, o, st, b1, b2, b3, b4⟩
section LAW
variable {l : Launch} {G : fr_G} {p : Program} {e : Env} {s : State} {m : MethodId} {below : List Frame} {meth : Method} {c : Code} {b L : Nat} {xs : Nat → Int32} {H : Heap} {locs : List Loc} {ls : Array Slot} {lv : List (Nat × Value)} {σ : fr_S} {cells slots pc : Nat} {Q : State → Prop}
/-- the law calls a method -/
theorem w_call {Yc : fr_Y} {Rc : Room} {i ci b0 z : Nat} {As st : List Value} {PR : Option Value → fr_S → Prop} (C : LC G p s m meth c b L xs) (hl : lv_has ls 9 lv) (hG : LG G s σ H locs)
    (hd : decode code pc = .ok (.invokevirtual i, 3)) (hlk : Cond.methodLink "PairVmLaw" i Yc.1 ∈ al_W) (hm : MV Yc) (hcl : ∃ Tt, cl_all[ci]? = some (Yc.1.cls, Tt, nfc ci)) (hci : ci < 10) (hk : kd b0 = (ci, z)) (ho : b0 < 742)
    (hnp : (parseMethodDescriptor Yc.1.desc).map (fun d => d.parameters.length) = some As.length) (hlen : ((.ref b0 :: As).map fun v : Value => v.category).sum ≤ Yc.2.2.1) (hst : (st.map fun v : Value => v.category).sum ≤ 8) (hR : Rc.frames + 1 ≤ room_1.frames ∧ 8 + (Yc.2.2.1 + 11) + Rc.locals ≤ room_1.locals ∧ cells + Rc.cells ≤ room_1.cells ∧ slots + Rc.slots ≤ room_1.slots)
    (hc : CE l G Yc Rc (.ref b0 :: As) σ PR (fun _ _ => False)) (kk : ∀ r σ' H' L', PR r σ' → LG G s σ' H' L' → W p l e room_1 s m #[Value.ref b] below meth c H' L' cells slots Q (F0 m (pc + 3) ls ((r.toList ++ st).map (cv G)))) : W p l e room_1 s m #[Value.ref b] below meth c H locs cells slots Q (F0 m pc ls ((As.reverse ++ .ref b0 :: st).map (cv G))) := by
  intro T hT X
  obtain ⟨c1, c2, c3, c4, c5, c6, c7, c8, c9, c10, c11⟩ := C
  rcases ce_call (Y := (⟨"PairVmLaw", "", ""⟩, code, 9, none)) (lv := []) c1 c2 c3 c4 c5 c6 ⟨hl.1, hl.2.1, fun q h => by cases h⟩ hG.1 hG.2.1 c7 hT X hG.2.2 hd hlk hm hcl hci hk ho hnp hlen hst hR hc with ⟨r, σ', T', L', h1, h2, h0, h3, h4, h5⟩ | ⟨x, E, σ', T', L', h1, _⟩
  · obtain ⟨t, a1, a2⟩ := kk r σ' T'.heap L' h1 ⟨h2, h4, h0⟩ T' rfl h3
    exact ⟨t, h5 t a1, a2⟩
  · exact h1.elim
/-- the law calls a helper -/
theorem w_help {Y : fr_Y} {hs : List (Nat × Nat × Nat × Nat)} {i : Nat} {As st : List Value} {PH : Int32 → fr_S → Prop} (C : LC G p s m meth c b L xs) (hl : lv_has ls 9 lv) (hG : LG G s σ H locs) (hd : decode code pc = .ok (.invokestatic i, 3)) (hlk : Cond.methodLink "PairVmLaw" i Y.1 ∈ al_W) (hcw : Cond.codeWith Y.1 Y.2.1 Y.2.2.1 Y.2.2.2 hs ∈ al_W) (hstt : Cond.static Y.1 ∈ al_W) (hY : Y.1.cls = "PairVmLaw") (hini : Cond.initialized "PairVmLaw" ∈ al_W)
    (hnp : (parseMethodDescriptor Y.1.desc).map (fun d => d.parameters.length) = some As.length) (hlen : (As.map fun v : Value => v.category).sum ≤ Y.2.2.1) (hst : (st.map fun v : Value => v.category).sum ≤ 8) (h4 : Y.2.2.1 ≤ 4) (hR : cells + 1 ≤ room_1.cells ∧ slots + 6 ≤ room_1.slots)
    (hc : PX l G Y rx_H (QHx Y G PH) false 742 0 0 0 (lv_args 0 As) [] σ) (kk : ∀ k σ' H' L', PH k σ' → LG G s σ' H' L' → W p l e room_1 s m #[Value.ref b] below meth c H' L' (cells + 1) (slots + 6) Q (F0 m (pc + 3) ls (.int k :: st.map (cv G)))) : W p l e room_1 s m #[Value.ref b] below meth c H locs cells slots Q (F0 m pc ls ((As.reverse ++ st).map (cv G))) := by
  intro T hT X
  obtain ⟨hx, hcc, hml, hown, hts, hTB, hsx, hnc, -, -, -⟩ := C
  obtain ⟨hP, hS, hN⟩ := hG
  obtain ⟨mk, methM, cM, hnamed, hmethM, hcM, -, hlM, -, -, -, hsigM⟩ := Cond.codeWith_spec (hts _ hcw)
  have hstM : methM.isStatic = true := Cond.static_spec hnamed hmethM (hts _ hstt)
  obtain ⟨kP, hkP, -⟩ := className_of_methodNamed hnamed
  have hkPi : kP.init = .initialized := Cond.initialized_spec (findClass_of_methodNamed hnamed) hkP (by rw [hY]; exact hts _ hini)
  have e0 : (As.reverse ++ st).map (cv G) = (As.map (cv G)).reverse ++ st.map (cv G) := by simp
  have hlenA : (As.map (cv G)).length = methM.sig.parameters.length := by
    rw [hsigM] at hnp
    have : methM.sig.parameters.length = As.length := Option.some.inj hnp
    simp [this]
  rw [e0]
  obtain ⟨vm₁, X₁, hstep₁⟩ := X.invokestatic hx hown (hts _ hlk) hnamed hmethM hstM hkP hkPi (by rw [hY]; exact ⟨by decide, by decide⟩) (g := F0 m pc ls ((As.map (cv G)).reverse ++ st.map (cv G))) rfl (argsL := As.map (cv G)) (rest := st.map (cv G)) hlenA rfl (by rw [hcc]; exact hd)
  have hW₁ := X₁.warmed
  have hS₁ : va_S (AA (fr_q G)) s.heap (T.setVm vm₁).heap locs := by show va_S _ _ T.heap _; rw [hT]; exact hS
  have hMet := hm_met (hs := hs) (by rw [hY]; decide) hlen hc
  have hroom : (F0 m pc ls (st.map (cv G))).monitorRoom = 0 := rfl
  obtain ⟨o, s₂, h1, h2, h3, ⟨⟨⟨k, σ', ho, hph, hpic, hns⟩, hvF⟩, L', hFE, hL⟩⟩ := run_any X₁ (g := F0 m pc ls (st.map (cv G))) rfl (hl.1.trans hml.symm) (ig := .invokestatic i) (len := 3) (by rw [hcc]; exact hd) (X₁.named hnamed) hMet (a := (As.map (cv G)).toArray) (maxL := Y.2.2.1)
    (fun w hw => by
      rcases List.mem_cons.mp hw with rfl | hw
      · exact word_at hW₁ (good_of_word (al_good _ hcw)) (hts _ hcw)
      · exact word_at hW₁ (good_of_word (al_good _ hw)) (hts _ hw))
    ⟨methM, cM, by rw [hW₁.alike.method?]; exact hmethM, hcM, hlM⟩ (by rw [hY]; exact word_at hW₁ (good_of_word (al_good _ hini)) (hts _ hini)) (Nat.le_of_ble_eq_true rfl) (Nat.le_trans (show 8 + (Y.2.2.1 + 11) + rx_H.locals ≤ 8 + (4 + 11) + 175 by show 8 + (Y.2.2.1 + 11) + 175 ≤ _; omega) (Nat.le_of_ble_eq_true rfl)) (by rw [hroom]; show 2 * 0 + ((st.map (cv G)).map fun v => v.category).sum ≤ 8; rw [cv_sum]; omega) hR.1 hR.2
    ⟨rfl, ⟨⟨by show Pic G false 742 σ T.heap; rw [hT]; exact hP, hTB.call hS₁ hW₁⟩, hsx.go hS₁ hW₁ (by show NS G T.heap; rw [hT]; exact hN)⟩, hnc.warm hW₁⟩
  subst ho
  obtain ⟨T', X', hW', hsame', ht⟩ := X₁.outOf (g := F0 m pc ls (st.map (cv G))) rfl (ig := .invokestatic i) (len := 3) (by rw [hcc]; exact hd) h3 hFE.2.1 hFE.2.2
  have hh : s₂.heap = T'.heap := by rw [ht]; exact hp_top _ _
  have hsz : H.size ≤ T'.heap.size := by
    rw [← hh, ← hT]
    exact hvF.1
  obtain ⟨t, a1, a2⟩ := kk k σ' T'.heap (locs ++ L') hph ⟨by rw [← hh]; exact hpic, ⟨Nat.le_trans hS.1 hsz, fun q h1 h2 => by
    rw [← hh]
    have := hvF.2 q (by show q < T.heap.size; rw [hT]; exact Nat.lt_of_lt_of_le h1 hS.1) h2
    rw [this]
    show T.heap[q]? = _
    rw [hT]
    exact hS.2.1 q h1 h2, fun q hq => by
    rcases List.mem_append.mp hq with h | h
    · exact hS.2.2 q h
    · exact hL q h⟩, by rw [← hh]; exact hns⟩ T' rfl X'
  refine ⟨t, hstep₁ _ fun acts => ?_, a2⟩
  rw [doInvoke_state]
  refine h1.trans ?_
  rw [ht]
  exact a1
/-- an int of the script -/
theorem w_el {i j : Nat} {rest : List Value} (C : LC G p s m meth c b L xs) (h0 : ls[0]? = some (.val (.ref b))) (h4 : ls[4]? = some (.val (.int (nI i)))) (hS : va_S (AA (fr_q G)) s.heap H locs) (hi : i + 4 ≤ L) (hL : L ≤ 2048) (hj : j < 4) (d0 : decode code pc = .ok (.aload_n 0, 1)) (d1 : decode code (pc + 1) = .ok (.iload 4, 2)) (d3 : decode code (pc + 1 + 2) = .ok (.iconst (j : Int), 1)) (d4 : decode code (pc + 1 + 2 + 1) = .ok (.iadd, 1)) (d5 : decode code (pc + 1 + 2 + 1 + 1) = .ok (.iaload, 1))
    (kk : W p l e room_1 s m #[Value.ref b] below meth c H locs cells slots Q (F0 m (pc + 1 + 2 + 1 + 1 + 1) ls (.int (xs (i + j)) :: rest))) : W p l e room_1 s m #[Value.ref b] below meth c H locs cells slots Q (F0 m pc ls rest) := by
  obtain ⟨hx, hb, -, -, -, -, -, -, hX, hbl, hq⟩ := C
  refine lv_aload_n hx hb d0 rfl h0 ?_
  refine lv_iload hx hb d1 h4 ?_
  refine lv_iconst (v := nI j) hx hb d3 rfl ?_
  refine lv_iadd hx hb d4 ?_
  have e : nI i + nI j = nI (i + j) := nI_add i j
  rw [e]
  have hb2 : i + j < 2 ^ 31 := by omega
  refine va_sld hx hb hX hbl (fun z => by have : fr_q G ≤ b := z; omega) hS (nI_in (by omega) (by omega)) d5 ?_
  rw [nI_clamp hb2]
  exact kk
/-- the first int of four -/
theorem w_el0 {i : Nat} {rest : List Value} (C : LC G p s m meth c b L xs) (h0 : ls[0]? = some (.val (.ref b))) (h4 : ls[4]? = some (.val (.int (nI i)))) (hS : va_S (AA (fr_q G)) s.heap H locs) (hi : i + 4 ≤ L) (hL : L ≤ 2048) (d0 : decode code pc = .ok (.aload_n 0, 1)) (d1 : decode code (pc + 1) = .ok (.iload 4, 2)) (d5 : decode code (pc + 1 + 2) = .ok (.iaload, 1))
    (kk : W p l e room_1 s m #[Value.ref b] below meth c H locs cells slots Q (F0 m (pc + 1 + 2 + 1) ls (.int (xs i) :: rest))) : W p l e room_1 s m #[Value.ref b] below meth c H locs cells slots Q (F0 m pc ls rest) := by
  obtain ⟨hx, hb, -, -, -, -, -, -, hX, hbl, hq⟩ := C
  refine lv_aload_n hx hb d0 rfl h0 ?_
  refine lv_iload hx hb d1 h4 ?_
  have hb2 : i < 2 ^ 31 := by omega
  refine va_sld hx hb hX hbl (fun z => by have : fr_q G ≤ b := z; omega) hS (nI_in (by omega) (by omega)) d5 ?_
  rw [nI_clamp hb2]
  exact kk
/-- out's first long -/
theorem w_out {rest : List Value} (C : LC G p s m meth c b L xs) (hP : Pic G false 742 σ H) (hd : decode code pc = .ok (.laload, 1)) (kk : W p l e room_1 s m #[Value.ref b] below meth c H locs cells slots Q (F0 m (pc + 1) ls (.long (gL σ 741 0) :: rest))) : W p l e room_1 s m #[Value.ref b] below meth c H locs cells slots Q (F0 m pc ls (.int 0 :: .ref (fr_q G + 741) :: rest)) := by
  have hat := wd_at (G := G) (σ := σ) (show 741 < 742 by decide)
  unfold ce at hat
  rw [show kd 741 = (22, 1) by decide] at hat
  exact va_lald (i := 0) C.1 C.2.1 C.2.2.2.2.2.1.1 hP.1 741 2 hat rfl (by unfold vp_in; decide) hd kk
end LAW

