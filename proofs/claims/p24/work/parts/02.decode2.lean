theorem dL_isStep_96 : decode cL_isStep 96 = .ok (.goto 5, 3) := by decide +kernel
theorem dL_isStep_99 : decode cL_isStep 99 = .ok (.bipush 60, 2) := by decide +kernel
theorem dL_isStep_101 : decode cL_isStep 101 = .ok (.invokestatic 24, 3) := by decide +kernel
theorem dL_isStep_104 : decode cL_isStep 104 = .ok (.iadd, 1) := by decide +kernel
theorem dL_isStep_105 : decode cL_isStep 105 = .ok (.goto 40, 3) := by decide +kernel
theorem dL_isStep_108 : decode cL_isStep 108 = .ok (.iload 6, 2) := by decide +kernel
theorem dL_isStep_110 : decode cL_isStep 110 = .ok (.iconst 1, 1) := by decide +kernel
theorem dL_isStep_111 : decode cL_isStep 111 = .ok (.if_icmp .ne 14, 3) := by decide +kernel
theorem dL_isStep_114 : decode cL_isStep 114 = .ok (.iconst 1, 1) := by decide +kernel
theorem dL_isStep_115 : decode cL_isStep 115 = .ok (.iload_n 3, 1) := by decide +kernel
theorem dL_isStep_116 : decode cL_isStep 116 = .ok (.bipush 20, 2) := by decide +kernel
theorem dL_isStep_118 : decode cL_isStep 118 = .ok (.invokestatic 24, 3) := by decide +kernel
theorem dL_isStep_121 : decode cL_isStep 121 = .ok (.iadd, 1) := by decide +kernel
theorem dL_isStep_122 : decode cL_isStep 122 = .ok (.goto 23, 3) := by decide +kernel
theorem dL_isStep_125 : decode cL_isStep 125 = .ok (.iload 6, 2) := by decide +kernel
theorem dL_isStep_127 : decode cL_isStep 127 = .ok (.iconst 2, 1) := by decide +kernel
theorem dL_isStep_128 : decode cL_isStep 128 = .ok (.if_icmp .ne 12, 3) := by decide +kernel
theorem dL_isStep_131 : decode cL_isStep 131 = .ok (.iload_n 3, 1) := by decide +kernel
theorem dL_isStep_132 : decode cL_isStep 132 = .ok (.bipush 41, 2) := by decide +kernel
theorem dL_isStep_134 : decode cL_isStep 134 = .ok (.invokestatic 24, 3) := by decide +kernel
theorem dL_isStep_137 : decode cL_isStep 137 = .ok (.goto 8, 3) := by decide +kernel
theorem dL_isStep_140 : decode cL_isStep 140 = .ok (.iload_n 3, 1) := by decide +kernel
theorem dL_isStep_141 : decode cL_isStep 141 = .ok (.iconst 2, 1) := by decide +kernel
theorem dL_isStep_142 : decode cL_isStep 142 = .ok (.invokestatic 24, 3) := by decide +kernel
theorem dL_isStep_145 : decode cL_isStep 145 = .ok (.istore 7, 2) := by decide +kernel
theorem dL_isStep_147 : decode cL_isStep 147 = .ok (.aload_n 0, 1) := by decide +kernel
theorem dL_isStep_148 : decode cL_isStep 148 = .ok (.iload 6, 2) := by decide +kernel
theorem dL_isStep_150 : decode cL_isStep 150 = .ok (.invokevirtual 28, 3) := by decide +kernel
theorem dL_isStep_153 : decode cL_isStep 153 = .ok (.istore 8, 2) := by decide +kernel
theorem dL_isStep_155 : decode cL_isStep 155 = .ok (.aload_n 0, 1) := by decide +kernel
theorem dL_isStep_156 : decode cL_isStep 156 = .ok (.iload 6, 2) := by decide +kernel
theorem dL_isStep_158 : decode cL_isStep 158 = .ok (.iload 7, 2) := by decide +kernel
theorem dL_isStep_160 : decode cL_isStep 160 = .ok (.invokevirtual 43, 3) := by decide +kernel
theorem dL_isStep_163 : decode cL_isStep 163 = .ok (.iload 8, 2) := by decide +kernel
theorem dL_isStep_165 : decode cL_isStep 165 = .ok (.if_icmp .ne 31, 3) := by decide +kernel
theorem dL_isStep_168 : decode cL_isStep 168 = .ok (.aload_n 1, 1) := by decide +kernel
theorem dL_isStep_169 : decode cL_isStep 169 = .ok (.iload 6, 2) := by decide +kernel
theorem dL_isStep_171 : decode cL_isStep 171 = .ok (.iload 7, 2) := by decide +kernel
theorem dL_isStep_173 : decode cL_isStep 173 = .ok (.invokevirtual 43, 3) := by decide +kernel
theorem dL_isStep_176 : decode cL_isStep 176 = .ok (.iload 8, 2) := by decide +kernel
theorem dL_isStep_178 : decode cL_isStep 178 = .ok (.if_icmp .ne 18, 3) := by decide +kernel
theorem dL_isStep_181 : decode cL_isStep 181 = .ok (.aload_n 0, 1) := by decide +kernel
theorem dL_isStep_182 : decode cL_isStep 182 = .ok (.iload 6, 2) := by decide +kernel
theorem dL_isStep_184 : decode cL_isStep 184 = .ok (.invokevirtual 28, 3) := by decide +kernel
theorem dL_isStep_187 : decode cL_isStep 187 = .ok (.iload 7, 2) := by decide +kernel
theorem dL_isStep_189 : decode cL_isStep 189 = .ok (.if_icmp .ne 7, 3) := by decide +kernel
theorem dL_isStep_192 : decode cL_isStep 192 = .ok (.iconst 1, 1) := by decide +kernel
theorem dL_isStep_193 : decode cL_isStep 193 = .ok (.goto 4, 3) := by decide +kernel
theorem dL_isStep_196 : decode cL_isStep 196 = .ok (.iconst 0, 1) := by decide +kernel
theorem dL_isStep_197 : decode cL_isStep 197 = .ok (.ireturn, 1) := by decide +kernel
theorem dL_isStep_198 : decode cL_isStep 198 = .ok (.iload 4, 2) := by decide +kernel
theorem dL_isStep_200 : decode cL_isStep 200 = .ok (.bipush 8, 2) := by decide +kernel
theorem dL_isStep_202 : decode cL_isStep 202 = .ok (.invokestatic 24, 3) := by decide +kernel
theorem dL_isStep_205 : decode cL_isStep 205 = .ok (.istore 6, 2) := by decide +kernel
theorem dL_isStep_207 : decode cL_isStep 207 = .ok (.aload_n 0, 1) := by decide +kernel
theorem dL_isStep_208 : decode cL_isStep 208 = .ok (.iload 6, 2) := by decide +kernel
theorem dL_isStep_210 : decode cL_isStep 210 = .ok (.iconst 0, 1) := by decide +kernel
theorem dL_isStep_211 : decode cL_isStep 211 = .ok (.invokevirtual 46, 3) := by decide +kernel
theorem dL_isStep_214 : decode cL_isStep 214 = .ok (.istore 7, 2) := by decide +kernel
theorem dL_isStep_216 : decode cL_isStep 216 = .ok (.iconst 1, 1) := by decide +kernel
theorem dL_isStep_217 : decode cL_isStep 217 = .ok (.iload_n 3, 1) := by decide +kernel
theorem dL_isStep_218 : decode cL_isStep 218 = .ok (.bipush 20, 2) := by decide +kernel
theorem dL_isStep_220 : decode cL_isStep 220 = .ok (.invokestatic 24, 3) := by decide +kernel
theorem dL_isStep_223 : decode cL_isStep 223 = .ok (.iadd, 1) := by decide +kernel
theorem dL_isStep_224 : decode cL_isStep 224 = .ok (.istore 8, 2) := by decide +kernel
theorem dL_isStep_226 : decode cL_isStep 226 = .ok (.iload_n 3, 1) := by decide +kernel
theorem dL_isStep_227 : decode cL_isStep 227 = .ok (.iconst 3, 1) := by decide +kernel
theorem dL_isStep_228 : decode cL_isStep 228 = .ok (.ishr, 1) := by decide +kernel
theorem dL_isStep_229 : decode cL_isStep 229 = .ok (.bipush 101, 2) := by decide +kernel
theorem dL_isStep_231 : decode cL_isStep 231 = .ok (.invokestatic 24, 3) := by decide +kernel
theorem dL_isStep_234 : decode cL_isStep 234 = .ok (.istore 9, 2) := by decide +kernel
theorem dL_isStep_236 : decode cL_isStep 236 = .ok (.iload_n 3, 1) := by decide +kernel
theorem dL_isStep_237 : decode cL_isStep 237 = .ok (.bipush 6, 2) := by decide +kernel
theorem dL_isStep_239 : decode cL_isStep 239 = .ok (.ishr, 1) := by decide +kernel
theorem dL_isStep_240 : decode cL_isStep 240 = .ok (.bipush 101, 2) := by decide +kernel
theorem dL_isStep_242 : decode cL_isStep 242 = .ok (.invokestatic 24, 3) := by decide +kernel
theorem dL_isStep_245 : decode cL_isStep 245 = .ok (.istore 10, 2) := by decide +kernel
theorem dL_isStep_247 : decode cL_isStep 247 = .ok (.aload_n 0, 1) := by decide +kernel
theorem dL_isStep_248 : decode cL_isStep 248 = .ok (.iload 6, 2) := by decide +kernel
theorem dL_isStep_250 : decode cL_isStep 250 = .ok (.iload 8, 2) := by decide +kernel
theorem dL_isStep_252 : decode cL_isStep 252 = .ok (.iload 9, 2) := by decide +kernel
theorem dL_isStep_254 : decode cL_isStep 254 = .ok (.iload 10, 2) := by decide +kernel
theorem dL_isStep_256 : decode cL_isStep 256 = .ok (.invokevirtual 49, 3) := by decide +kernel
theorem dL_isStep_259 : decode cL_isStep 259 = .ok (.iload 7, 2) := by decide +kernel
theorem dL_isStep_261 : decode cL_isStep 261 = .ok (.if_icmp .ne 63, 3) := by decide +kernel
theorem dL_isStep_264 : decode cL_isStep 264 = .ok (.aload_n 1, 1) := by decide +kernel
theorem dL_isStep_265 : decode cL_isStep 265 = .ok (.iload 6, 2) := by decide +kernel
theorem dL_isStep_267 : decode cL_isStep 267 = .ok (.invokestatic 9, 3) := by decide +kernel
theorem dL_isStep_270 : decode cL_isStep 270 = .ok (.iload 8, 2) := by decide +kernel
theorem dL_isStep_272 : decode cL_isStep 272 = .ok (.iload 9, 2) := by decide +kernel
theorem dL_isStep_274 : decode cL_isStep 274 = .ok (.iload 10, 2) := by decide +kernel
theorem dL_isStep_276 : decode cL_isStep 276 = .ok (.invokevirtual 49, 3) := by decide +kernel
theorem dL_isStep_279 : decode cL_isStep 279 = .ok (.iload 7, 2) := by decide +kernel
theorem dL_isStep_281 : decode cL_isStep 281 = .ok (.if_icmp .ne 43, 3) := by decide +kernel
theorem dL_isStep_284 : decode cL_isStep 284 = .ok (.aload_n 0, 1) := by decide +kernel
theorem dL_isStep_285 : decode cL_isStep 285 = .ok (.iload 6, 2) := by decide +kernel
theorem dL_isStep_287 : decode cL_isStep 287 = .ok (.iconst 0, 1) := by decide +kernel
theorem dL_isStep_288 : decode cL_isStep 288 = .ok (.invokevirtual 46, 3) := by decide +kernel
theorem dL_isStep_291 : decode cL_isStep 291 = .ok (.iload 8, 2) := by decide +kernel
theorem dL_isStep_293 : decode cL_isStep 293 = .ok (.if_icmp .ne 31, 3) := by decide +kernel
theorem dL_isStep_296 : decode cL_isStep 296 = .ok (.aload_n 0, 1) := by decide +kernel
theorem dL_isStep_297 : decode cL_isStep 297 = .ok (.iload 6, 2) := by decide +kernel
theorem dL_isStep_299 : decode cL_isStep 299 = .ok (.iconst 1, 1) := by decide +kernel
theorem dL_isStep_300 : decode cL_isStep 300 = .ok (.invokevirtual 46, 3) := by decide +kernel
theorem dL_isStep_303 : decode cL_isStep 303 = .ok (.iload 9, 2) := by decide +kernel
theorem dL_isStep_305 : decode cL_isStep 305 = .ok (.if_icmp .ne 19, 3) := by decide +kernel
theorem dL_isStep_308 : decode cL_isStep 308 = .ok (.aload_n 0, 1) := by decide +kernel
theorem dL_isStep_309 : decode cL_isStep 309 = .ok (.iload 6, 2) := by decide +kernel
theorem dL_isStep_311 : decode cL_isStep 311 = .ok (.iconst 2, 1) := by decide +kernel
theorem dL_isStep_312 : decode cL_isStep 312 = .ok (.invokevirtual 46, 3) := by decide +kernel
theorem dL_isStep_315 : decode cL_isStep 315 = .ok (.iload 10, 2) := by decide +kernel
theorem dL_isStep_317 : decode cL_isStep 317 = .ok (.if_icmp .ne 7, 3) := by decide +kernel
theorem dL_isStep_320 : decode cL_isStep 320 = .ok (.iconst 1, 1) := by decide +kernel
theorem dL_isStep_321 : decode cL_isStep 321 = .ok (.goto 4, 3) := by decide +kernel
theorem dL_isStep_324 : decode cL_isStep 324 = .ok (.iconst 0, 1) := by decide +kernel
theorem dL_isStep_325 : decode cL_isStep 325 = .ok (.ireturn, 1) := by decide +kernel
theorem dL_isStep_326 : decode cL_isStep 326 = .ok (.iload 4, 2) := by decide +kernel
theorem dL_isStep_328 : decode cL_isStep 328 = .ok (.iload 5, 2) := by decide +kernel
theorem dL_isStep_330 : decode cL_isStep 330 = .ok (.iconst 1, 1) := by decide +kernel
theorem dL_isStep_331 : decode cL_isStep 331 = .ok (.iadd, 1) := by decide +kernel
theorem dL_isStep_332 : decode cL_isStep 332 = .ok (.invokestatic 24, 3) := by decide +kernel
theorem dL_isStep_335 : decode cL_isStep 335 = .ok (.istore 6, 2) := by decide +kernel
theorem dL_isStep_337 : decode cL_isStep 337 = .ok (.aload_n 0, 1) := by decide +kernel
theorem dL_isStep_338 : decode cL_isStep 338 = .ok (.iload 6, 2) := by decide +kernel
theorem dL_isStep_340 : decode cL_isStep 340 = .ok (.iconst 1, 1) := by decide +kernel
theorem dL_isStep_341 : decode cL_isStep 341 = .ok (.invokevirtual 53, 3) := by decide +kernel
theorem dL_isStep_344 : decode cL_isStep 344 = .ok (.istore 7, 2) := by decide +kernel
theorem dL_isStep_346 : decode cL_isStep 346 = .ok (.aload_n 0, 1) := by decide +kernel
theorem dL_isStep_347 : decode cL_isStep 347 = .ok (.iload 6, 2) := by decide +kernel
theorem dL_isStep_349 : decode cL_isStep 349 = .ok (.iconst 1, 1) := by decide +kernel
theorem dL_isStep_350 : decode cL_isStep 350 = .ok (.iadd, 1) := by decide +kernel
theorem dL_isStep_351 : decode cL_isStep 351 = .ok (.iconst 1, 1) := by decide +kernel
theorem dL_isStep_352 : decode cL_isStep 352 = .ok (.invokevirtual 53, 3) := by decide +kernel
theorem dL_isStep_355 : decode cL_isStep 355 = .ok (.istore 8, 2) := by decide +kernel
theorem dL_isStep_357 : decode cL_isStep 357 = .ok (.aload_n 0, 1) := by decide +kernel
theorem dL_isStep_358 : decode cL_isStep 358 = .ok (.iload 6, 2) := by decide +kernel
theorem dL_isStep_360 : decode cL_isStep 360 = .ok (.invokevirtual 56, 3) := by decide +kernel
theorem dL_isStep_363 : decode cL_isStep 363 = .ok (.istore 9, 2) := by decide +kernel
theorem dL_isStep_365 : decode cL_isStep 365 = .ok (.iload 9, 2) := by decide +kernel
theorem dL_isStep_367 : decode cL_isStep 367 = .ok (.aload_n 1, 1) := by decide +kernel
theorem dL_isStep_368 : decode cL_isStep 368 = .ok (.iload 6, 2) := by decide +kernel
theorem dL_isStep_370 : decode cL_isStep 370 = .ok (.invokevirtual 56, 3) := by decide +kernel
theorem dL_isStep_373 : decode cL_isStep 373 = .ok (.if_icmp .ne 35, 3) := by decide +kernel
theorem dL_isStep_376 : decode cL_isStep 376 = .ok (.iload 9, 2) := by decide +kernel
theorem dL_isStep_378 : decode cL_isStep 378 = .ok (.iload 7, 2) := by decide +kernel
theorem dL_isStep_380 : decode cL_isStep 380 = .ok (.if_icmp .ne 28, 3) := by decide +kernel
theorem dL_isStep_383 : decode cL_isStep 383 = .ok (.iload 6, 2) := by decide +kernel
theorem dL_isStep_385 : decode cL_isStep 385 = .ok (.iload 5, 2) := by decide +kernel
theorem dL_isStep_387 : decode cL_isStep 387 = .ok (.iconst 1, 1) := by decide +kernel
theorem dL_isStep_388 : decode cL_isStep 388 = .ok (.isub, 1) := by decide +kernel
theorem dL_isStep_389 : decode cL_isStep 389 = .ok (.if_icmp .ge 15, 3) := by decide +kernel
theorem dL_isStep_392 : decode cL_isStep 392 = .ok (.aload_n 0, 1) := by decide +kernel
theorem dL_isStep_393 : decode cL_isStep 393 = .ok (.iload 6, 2) := by decide +kernel
theorem dL_isStep_395 : decode cL_isStep 395 = .ok (.iconst 1, 1) := by decide +kernel
theorem dL_isStep_396 : decode cL_isStep 396 = .ok (.invokevirtual 53, 3) := by decide +kernel
theorem dL_isStep_399 : decode cL_isStep 399 = .ok (.iload 8, 2) := by decide +kernel
theorem dL_isStep_401 : decode cL_isStep 401 = .ok (.if_icmp .ne 7, 3) := by decide +kernel
theorem dL_isStep_404 : decode cL_isStep 404 = .ok (.iconst 1, 1) := by decide +kernel
theorem dL_isStep_405 : decode cL_isStep 405 = .ok (.goto 4, 3) := by decide +kernel
theorem dL_isStep_408 : decode cL_isStep 408 = .ok (.iconst 0, 1) := by decide +kernel
theorem dL_isStep_409 : decode cL_isStep 409 = .ok (.ireturn, 1) := by decide +kernel
theorem dL_isStep_410 : decode cL_isStep 410 = .ok (.iload 4, 2) := by decide +kernel
theorem dL_isStep_412 : decode cL_isStep 412 = .ok (.iload 5, 2) := by decide +kernel
theorem dL_isStep_414 : decode cL_isStep 414 = .ok (.iconst 1, 1) := by decide +kernel
theorem dL_isStep_415 : decode cL_isStep 415 = .ok (.iadd, 1) := by decide +kernel
theorem dL_isStep_416 : decode cL_isStep 416 = .ok (.invokestatic 24, 3) := by decide +kernel
theorem dL_isStep_419 : decode cL_isStep 419 = .ok (.istore 6, 2) := by decide +kernel
theorem dL_isStep_421 : decode cL_isStep 421 = .ok (.iload_n 3, 1) := by decide +kernel
theorem dL_isStep_422 : decode cL_isStep 422 = .ok (.iload 5, 2) := by decide +kernel
theorem dL_isStep_424 : decode cL_isStep 424 = .ok (.iconst 1, 1) := by decide +kernel
theorem dL_isStep_425 : decode cL_isStep 425 = .ok (.iadd, 1) := by decide +kernel
theorem dL_isStep_426 : decode cL_isStep 426 = .ok (.invokestatic 24, 3) := by decide +kernel
theorem dL_isStep_429 : decode cL_isStep 429 = .ok (.istore 7, 2) := by decide +kernel
theorem dL_isStep_431 : decode cL_isStep 431 = .ok (.aload_n 0, 1) := by decide +kernel
theorem dL_isStep_432 : decode cL_isStep 432 = .ok (.iload 6, 2) := by decide +kernel
theorem dL_isStep_434 : decode cL_isStep 434 = .ok (.iconst 1, 1) := by decide +kernel
theorem dL_isStep_435 : decode cL_isStep 435 = .ok (.invokevirtual 53, 3) := by decide +kernel
theorem dL_isStep_438 : decode cL_isStep 438 = .ok (.istore 8, 2) := by decide +kernel
theorem dL_isStep_440 : decode cL_isStep 440 = .ok (.aload_n 0, 1) := by decide +kernel
theorem dL_isStep_441 : decode cL_isStep 441 = .ok (.iload 7, 2) := by decide +kernel
theorem dL_isStep_443 : decode cL_isStep 443 = .ok (.iconst 1, 1) := by decide +kernel
theorem dL_isStep_444 : decode cL_isStep 444 = .ok (.invokevirtual 53, 3) := by decide +kernel
theorem dL_isStep_447 : decode cL_isStep 447 = .ok (.istore 9, 2) := by decide +kernel
theorem dL_isStep_449 : decode cL_isStep 449 = .ok (.aload_n 0, 1) := by decide +kernel
theorem dL_isStep_450 : decode cL_isStep 450 = .ok (.iload 6, 2) := by decide +kernel
theorem dL_isStep_452 : decode cL_isStep 452 = .ok (.iload 7, 2) := by decide +kernel
theorem dL_isStep_454 : decode cL_isStep 454 = .ok (.invokevirtual 59, 3) := by decide +kernel
theorem dL_isStep_457 : decode cL_isStep 457 = .ok (.istore 10, 2) := by decide +kernel
theorem dL_isStep_459 : decode cL_isStep 459 = .ok (.iload 10, 2) := by decide +kernel
theorem dL_isStep_461 : decode cL_isStep 461 = .ok (.aload_n 1, 1) := by decide +kernel
theorem dL_isStep_462 : decode cL_isStep 462 = .ok (.iload 6, 2) := by decide +kernel
theorem dL_isStep_464 : decode cL_isStep 464 = .ok (.iload 7, 2) := by decide +kernel
theorem dL_isStep_466 : decode cL_isStep 466 = .ok (.invokevirtual 59, 3) := by decide +kernel
theorem dL_isStep_469 : decode cL_isStep 469 = .ok (.if_icmp .ne 85, 3) := by decide +kernel
theorem dL_isStep_472 : decode cL_isStep 472 = .ok (.iload 6, 2) := by decide +kernel
theorem dL_isStep_474 : decode cL_isStep 474 = .ok (.iload 5, 2) := by decide +kernel
theorem dL_isStep_476 : decode cL_isStep 476 = .ok (.if_icmp .eq 10, 3) := by decide +kernel
theorem dL_isStep_479 : decode cL_isStep 479 = .ok (.iload 7, 2) := by decide +kernel
theorem dL_isStep_481 : decode cL_isStep 481 = .ok (.iload 5, 2) := by decide +kernel
theorem dL_isStep_483 : decode cL_isStep 483 = .ok (.if_icmp .ne 14, 3) := by decide +kernel
theorem dL_isStep_486 : decode cL_isStep 486 = .ok (.iload 10, 2) := by decide +kernel
theorem dL_isStep_488 : decode cL_isStep 488 = .ok (.sipush (-1001), 3) := by decide +kernel
theorem dL_isStep_491 : decode cL_isStep 491 = .ok (.if_icmp .ne 63, 3) := by decide +kernel
theorem dL_isStep_494 : decode cL_isStep 494 = .ok (.goto 56, 3) := by decide +kernel
theorem dL_isStep_497 : decode cL_isStep 497 = .ok (.iload 6, 2) := by decide +kernel
theorem dL_isStep_499 : decode cL_isStep 499 = .ok (.iload 7, 2) := by decide +kernel
theorem dL_isStep_501 : decode cL_isStep 501 = .ok (.if_icmp .ne 14, 3) := by decide +kernel
theorem dL_isStep_504 : decode cL_isStep 504 = .ok (.iload 10, 2) := by decide +kernel
theorem dL_isStep_506 : decode cL_isStep 506 = .ok (.sipush (-1002), 3) := by decide +kernel
theorem dL_isStep_509 : decode cL_isStep 509 = .ok (.if_icmp .ne 45, 3) := by decide +kernel
theorem dL_isStep_512 : decode cL_isStep 512 = .ok (.goto 38, 3) := by decide +kernel
theorem dL_isStep_515 : decode cL_isStep 515 = .ok (.iload 10, 2) := by decide +kernel
theorem dL_isStep_517 : decode cL_isStep 517 = .ok (.aload_n 0, 1) := by decide +kernel
theorem dL_isStep_518 : decode cL_isStep 518 = .ok (.iconst 0, 1) := by decide +kernel
theorem dL_isStep_519 : decode cL_isStep 519 = .ok (.iconst 0, 1) := by decide +kernel
theorem dL_isStep_520 : decode cL_isStep 520 = .ok (.invokevirtual 62, 3) := by decide +kernel
theorem dL_isStep_523 : decode cL_isStep 523 = .ok (.if_icmp .ne 31, 3) := by decide +kernel
theorem dL_isStep_526 : decode cL_isStep 526 = .ok (.aload_n 0, 1) := by decide +kernel
theorem dL_isStep_527 : decode cL_isStep 527 = .ok (.iload 6, 2) := by decide +kernel
theorem dL_isStep_529 : decode cL_isStep 529 = .ok (.iconst 1, 1) := by decide +kernel
theorem dL_isStep_530 : decode cL_isStep 530 = .ok (.invokevirtual 53, 3) := by decide +kernel
theorem dL_isStep_533 : decode cL_isStep 533 = .ok (.iload 9, 2) := by decide +kernel
theorem dL_isStep_535 : decode cL_isStep 535 = .ok (.if_icmp .ne 19, 3) := by decide +kernel
theorem dL_isStep_538 : decode cL_isStep 538 = .ok (.aload_n 0, 1) := by decide +kernel
theorem dL_isStep_539 : decode cL_isStep 539 = .ok (.iload 7, 2) := by decide +kernel
theorem dL_isStep_541 : decode cL_isStep 541 = .ok (.iconst 1, 1) := by decide +kernel
theorem dL_isStep_542 : decode cL_isStep 542 = .ok (.invokevirtual 53, 3) := by decide +kernel
theorem dL_isStep_545 : decode cL_isStep 545 = .ok (.iload 8, 2) := by decide +kernel
theorem dL_isStep_547 : decode cL_isStep 547 = .ok (.if_icmp .ne 7, 3) := by decide +kernel
theorem dL_isStep_550 : decode cL_isStep 550 = .ok (.iconst 1, 1) := by decide +kernel
theorem dL_isStep_551 : decode cL_isStep 551 = .ok (.goto 4, 3) := by decide +kernel
theorem dL_isStep_554 : decode cL_isStep 554 = .ok (.iconst 0, 1) := by decide +kernel
theorem dL_isStep_555 : decode cL_isStep 555 = .ok (.ireturn, 1) := by decide +kernel
theorem dL_isStep_556 : decode cL_isStep 556 = .ok (.iload_n 3, 1) := by decide +kernel
theorem dL_isStep_557 : decode cL_isStep 557 = .ok (.iconst 4, 1) := by decide +kernel
theorem dL_isStep_558 : decode cL_isStep 558 = .ok (.invokestatic 24, 3) := by decide +kernel
theorem dL_isStep_561 : decode cL_isStep 561 = .ok (.ifCond .gt 29, 3) := by decide +kernel
theorem dL_isStep_564 : decode cL_isStep 564 = .ok (.aload_n 0, 1) := by decide +kernel
theorem dL_isStep_565 : decode cL_isStep 565 = .ok (.invokevirtual 65, 3) := by decide +kernel
theorem dL_isStep_568 : decode cL_isStep 568 = .ok (.iload 5, 2) := by decide +kernel
theorem dL_isStep_570 : decode cL_isStep 570 = .ok (.if_icmp .ne 24, 3) := by decide +kernel
theorem dL_isStep_573 : decode cL_isStep 573 = .ok (.aload_n 1, 1) := by decide +kernel
theorem dL_isStep_574 : decode cL_isStep 574 = .ok (.invokevirtual 65, 3) := by decide +kernel
theorem dL_isStep_577 : decode cL_isStep 577 = .ok (.iload 5, 2) := by decide +kernel
theorem dL_isStep_579 : decode cL_isStep 579 = .ok (.if_icmp .ne 15, 3) := by decide +kernel
theorem dL_isStep_582 : decode cL_isStep 582 = .ok (.aload_n 0, 1) := by decide +kernel
theorem dL_isStep_583 : decode cL_isStep 583 = .ok (.iconst 4, 1) := by decide +kernel
theorem dL_isStep_584 : decode cL_isStep 584 = .ok (.invokevirtual 28, 3) := by decide +kernel
theorem dL_isStep_587 : decode cL_isStep 587 = .ok (.ifCond .ne 7, 3) := by decide +kernel
theorem dL_isStep_590 : decode cL_isStep 590 = .ok (.iconst 1, 1) := by decide +kernel
theorem dL_isStep_591 : decode cL_isStep 591 = .ok (.goto 4, 3) := by decide +kernel
theorem dL_isStep_594 : decode cL_isStep 594 = .ok (.iconst 0, 1) := by decide +kernel
theorem dL_isStep_595 : decode cL_isStep 595 = .ok (.ireturn, 1) := by decide +kernel
theorem dL_isStep_596 : decode cL_isStep 596 = .ok (.iload_n 3, 1) := by decide +kernel
theorem dL_isStep_597 : decode cL_isStep 597 = .ok (.iconst 2, 1) := by decide +kernel
theorem dL_isStep_598 : decode cL_isStep 598 = .ok (.invokestatic 24, 3) := by decide +kernel
theorem dL_isStep_601 : decode cL_isStep 601 = .ok (.ifCond .ne 34, 3) := by decide +kernel
theorem dL_isStep_604 : decode cL_isStep 604 = .ok (.aload_n 0, 1) := by decide +kernel
theorem dL_isStep_605 : decode cL_isStep 605 = .ok (.iload 4, 2) := by decide +kernel
theorem dL_isStep_607 : decode cL_isStep 607 = .ok (.iconst 2, 1) := by decide +kernel
theorem dL_isStep_608 : decode cL_isStep 608 = .ok (.invokestatic 24, 3) := by decide +kernel
theorem dL_isStep_611 : decode cL_isStep 611 = .ok (.invokevirtual 68, 3) := by decide +kernel
theorem dL_isStep_614 : decode cL_isStep 614 = .ok (.aload_n 1, 1) := by decide +kernel
theorem dL_isStep_615 : decode cL_isStep 615 = .ok (.iload 4, 2) := by decide +kernel
theorem dL_isStep_617 : decode cL_isStep 617 = .ok (.iconst 2, 1) := by decide +kernel
theorem dL_isStep_618 : decode cL_isStep 618 = .ok (.invokestatic 24, 3) := by decide +kernel
theorem dL_isStep_621 : decode cL_isStep 621 = .ok (.invokevirtual 68, 3) := by decide +kernel
theorem dL_isStep_624 : decode cL_isStep 624 = .ok (.if_icmp .ne 7, 3) := by decide +kernel
theorem dL_isStep_627 : decode cL_isStep 627 = .ok (.iconst 1, 1) := by decide +kernel
theorem dL_isStep_628 : decode cL_isStep 628 = .ok (.goto 35, 3) := by decide +kernel
theorem dL_isStep_631 : decode cL_isStep 631 = .ok (.iconst 0, 1) := by decide +kernel
theorem dL_isStep_632 : decode cL_isStep 632 = .ok (.goto 31, 3) := by decide +kernel
theorem dL_isStep_635 : decode cL_isStep 635 = .ok (.aload_n 0, 1) := by decide +kernel
theorem dL_isStep_636 : decode cL_isStep 636 = .ok (.iload 4, 2) := by decide +kernel
theorem dL_isStep_638 : decode cL_isStep 638 = .ok (.iconst 2, 1) := by decide +kernel
theorem dL_isStep_639 : decode cL_isStep 639 = .ok (.invokestatic 24, 3) := by decide +kernel
theorem dL_isStep_642 : decode cL_isStep 642 = .ok (.invokevirtual 71, 3) := by decide +kernel
theorem dL_isStep_645 : decode cL_isStep 645 = .ok (.aload_n 1, 1) := by decide +kernel
theorem dL_isStep_646 : decode cL_isStep 646 = .ok (.iload 4, 2) := by decide +kernel
theorem dL_isStep_648 : decode cL_isStep 648 = .ok (.iconst 2, 1) := by decide +kernel
theorem dL_isStep_649 : decode cL_isStep 649 = .ok (.invokestatic 24, 3) := by decide +kernel
theorem dL_isStep_652 : decode cL_isStep 652 = .ok (.invokevirtual 71, 3) := by decide +kernel
theorem dL_isStep_655 : decode cL_isStep 655 = .ok (.if_icmp .ne 7, 3) := by decide +kernel
theorem dL_isStep_658 : decode cL_isStep 658 = .ok (.iconst 1, 1) := by decide +kernel
theorem dL_isStep_659 : decode cL_isStep 659 = .ok (.goto 4, 3) := by decide +kernel
theorem dL_isStep_662 : decode cL_isStep 662 = .ok (.iconst 0, 1) := by decide +kernel
theorem dL_isStep_663 : decode cL_isStep 663 = .ok (.ireturn, 1) := by decide +kernel
theorem dL_isStep_664 : decode cL_isStep 664 = .ok (.aload_n 0, 1) := by decide +kernel
theorem dL_isStep_665 : decode cL_isStep 665 = .ok (.aload_n 1, 1) := by decide +kernel
theorem dL_isStep_666 : decode cL_isStep 666 = .ok (.iload_n 3, 1) := by decide +kernel
theorem dL_isStep_667 : decode cL_isStep 667 = .ok (.iload 4, 2) := by decide +kernel
theorem dL_isStep_669 : decode cL_isStep 669 = .ok (.invokestatic 74, 3) := by decide +kernel
theorem dL_isStep_672 : decode cL_isStep 672 = .ok (.ireturn, 1) := by decide +kernel
theorem dL_areAlike_0 : decode cL_areAlike 0 = .ok (.aload_n 0, 1) := by decide +kernel
theorem dL_areAlike_1 : decode cL_areAlike 1 = .ok (.invokevirtual 78, 3) := by decide +kernel
theorem dL_areAlike_4 : decode cL_areAlike 4 = .ok (.aload_n 1, 1) := by decide +kernel
theorem dL_areAlike_5 : decode cL_areAlike 5 = .ok (.invokevirtual 78, 3) := by decide +kernel
theorem dL_areAlike_8 : decode cL_areAlike 8 = .ok (.if_icmp .ne 60, 3) := by decide +kernel
theorem dL_areAlike_11 : decode cL_areAlike 11 = .ok (.aload_n 0, 1) := by decide +kernel
theorem dL_areAlike_12 : decode cL_areAlike 12 = .ok (.iconst 1, 1) := by decide +kernel
theorem dL_areAlike_13 : decode cL_areAlike 13 = .ok (.iload_n 2, 1) := by decide +kernel
theorem dL_areAlike_14 : decode cL_areAlike 14 = .ok (.bipush 24, 2) := by decide +kernel
theorem dL_areAlike_16 : decode cL_areAlike 16 = .ok (.invokestatic 24, 3) := by decide +kernel
theorem dL_areAlike_19 : decode cL_areAlike 19 = .ok (.iadd, 1) := by decide +kernel
theorem dL_areAlike_20 : decode cL_areAlike 20 = .ok (.invokevirtual 81, 3) := by decide +kernel
theorem dL_areAlike_23 : decode cL_areAlike 23 = .ok (.aload_n 1, 1) := by decide +kernel
theorem dL_areAlike_24 : decode cL_areAlike 24 = .ok (.iconst 1, 1) := by decide +kernel
theorem dL_areAlike_25 : decode cL_areAlike 25 = .ok (.iload_n 2, 1) := by decide +kernel
theorem dL_areAlike_26 : decode cL_areAlike 26 = .ok (.bipush 24, 2) := by decide +kernel
theorem dL_areAlike_28 : decode cL_areAlike 28 = .ok (.invokestatic 24, 3) := by decide +kernel
theorem dL_areAlike_31 : decode cL_areAlike 31 = .ok (.iadd, 1) := by decide +kernel
theorem dL_areAlike_32 : decode cL_areAlike 32 = .ok (.invokevirtual 81, 3) := by decide +kernel
theorem dL_areAlike_35 : decode cL_areAlike 35 = .ok (.if_icmp .ne 33, 3) := by decide +kernel
theorem dL_areAlike_38 : decode cL_areAlike 38 = .ok (.aload_n 0, 1) := by decide +kernel
theorem dL_areAlike_39 : decode cL_areAlike 39 = .ok (.iload_n 2, 1) := by decide +kernel
theorem dL_areAlike_40 : decode cL_areAlike 40 = .ok (.bipush 8, 2) := by decide +kernel
theorem dL_areAlike_42 : decode cL_areAlike 42 = .ok (.invokestatic 24, 3) := by decide +kernel
theorem dL_areAlike_45 : decode cL_areAlike 45 = .ok (.invokevirtual 84, 3) := by decide +kernel
theorem dL_areAlike_48 : decode cL_areAlike 48 = .ok (.aload_n 1, 1) := by decide +kernel
theorem dL_areAlike_49 : decode cL_areAlike 49 = .ok (.iload_n 2, 1) := by decide +kernel
theorem dL_areAlike_50 : decode cL_areAlike 50 = .ok (.bipush 8, 2) := by decide +kernel
theorem dL_areAlike_52 : decode cL_areAlike 52 = .ok (.invokestatic 24, 3) := by decide +kernel
theorem dL_areAlike_55 : decode cL_areAlike 55 = .ok (.invokestatic 9, 3) := by decide +kernel
theorem dL_areAlike_58 : decode cL_areAlike 58 = .ok (.invokevirtual 84, 3) := by decide +kernel
theorem dL_areAlike_61 : decode cL_areAlike 61 = .ok (.if_icmp .ne 7, 3) := by decide +kernel
theorem dL_areAlike_64 : decode cL_areAlike 64 = .ok (.iconst 1, 1) := by decide +kernel
theorem dL_areAlike_65 : decode cL_areAlike 65 = .ok (.goto 4, 3) := by decide +kernel
theorem dL_areAlike_68 : decode cL_areAlike 68 = .ok (.iconst 0, 1) := by decide +kernel
theorem dL_areAlike_69 : decode cL_areAlike 69 = .ok (.istore_n 3, 1) := by decide +kernel
theorem dL_areAlike_70 : decode cL_areAlike 70 = .ok (.iconst 0, 1) := by decide +kernel
theorem dL_areAlike_71 : decode cL_areAlike 71 = .ok (.istore 4, 2) := by decide +kernel
theorem dL_areAlike_73 : decode cL_areAlike 73 = .ok (.iload 4, 2) := by decide +kernel
theorem dL_areAlike_75 : decode cL_areAlike 75 = .ok (.bipush 8, 2) := by decide +kernel
theorem dL_areAlike_77 : decode cL_areAlike 77 = .ok (.if_icmp .ge 34, 3) := by decide +kernel
theorem dL_areAlike_80 : decode cL_areAlike 80 = .ok (.iload_n 3, 1) := by decide +kernel
theorem dL_areAlike_81 : decode cL_areAlike 81 = .ok (.ifCond .eq 22, 3) := by decide +kernel
theorem dL_areAlike_84 : decode cL_areAlike 84 = .ok (.aload_n 0, 1) := by decide +kernel
theorem dL_areAlike_85 : decode cL_areAlike 85 = .ok (.iload 4, 2) := by decide +kernel
theorem dL_areAlike_87 : decode cL_areAlike 87 = .ok (.invokevirtual 28, 3) := by decide +kernel
theorem dL_areAlike_90 : decode cL_areAlike 90 = .ok (.aload_n 1, 1) := by decide +kernel
theorem dL_areAlike_91 : decode cL_areAlike 91 = .ok (.iload 4, 2) := by decide +kernel
theorem dL_areAlike_93 : decode cL_areAlike 93 = .ok (.invokevirtual 28, 3) := by decide +kernel
theorem dL_areAlike_96 : decode cL_areAlike 96 = .ok (.if_icmp .ne 7, 3) := by decide +kernel
theorem dL_areAlike_99 : decode cL_areAlike 99 = .ok (.iconst 1, 1) := by decide +kernel
theorem dL_areAlike_100 : decode cL_areAlike 100 = .ok (.goto 4, 3) := by decide +kernel
theorem dL_areAlike_103 : decode cL_areAlike 103 = .ok (.iconst 0, 1) := by decide +kernel
theorem dL_areAlike_104 : decode cL_areAlike 104 = .ok (.istore_n 3, 1) := by decide +kernel
theorem dL_areAlike_105 : decode cL_areAlike 105 = .ok (.iinc 4 1, 3) := by decide +kernel
theorem dL_areAlike_108 : decode cL_areAlike 108 = .ok (.goto (-35), 3) := by decide +kernel
theorem dL_areAlike_111 : decode cL_areAlike 111 = .ok (.iconst 0, 1) := by decide +kernel
theorem dL_areAlike_112 : decode cL_areAlike 112 = .ok (.istore 4, 2) := by decide +kernel
theorem dL_areAlike_114 : decode cL_areAlike 114 = .ok (.iload 4, 2) := by decide +kernel
theorem dL_areAlike_116 : decode cL_areAlike 116 = .ok (.bipush 10, 2) := by decide +kernel
theorem dL_areAlike_118 : decode cL_areAlike 118 = .ok (.if_icmp .ge 46, 3) := by decide +kernel
theorem dL_areAlike_121 : decode cL_areAlike 121 = .ok (.iload_n 3, 1) := by decide +kernel
theorem dL_areAlike_122 : decode cL_areAlike 122 = .ok (.ifCond .eq 34, 3) := by decide +kernel
theorem dL_areAlike_125 : decode cL_areAlike 125 = .ok (.aload_n 0, 1) := by decide +kernel
theorem dL_areAlike_126 : decode cL_areAlike 126 = .ok (.iload 4, 2) := by decide +kernel
theorem dL_areAlike_128 : decode cL_areAlike 128 = .ok (.iconst 2, 1) := by decide +kernel
theorem dL_areAlike_129 : decode cL_areAlike 129 = .ok (.irem, 1) := by decide +kernel
theorem dL_areAlike_130 : decode cL_areAlike 130 = .ok (.iload 4, 2) := by decide +kernel
theorem dL_areAlike_132 : decode cL_areAlike 132 = .ok (.iconst 2, 1) := by decide +kernel
theorem dL_areAlike_133 : decode cL_areAlike 133 = .ok (.idiv, 1) := by decide +kernel
theorem dL_areAlike_134 : decode cL_areAlike 134 = .ok (.invokevirtual 62, 3) := by decide +kernel
theorem dL_areAlike_137 : decode cL_areAlike 137 = .ok (.aload_n 1, 1) := by decide +kernel
theorem dL_areAlike_138 : decode cL_areAlike 138 = .ok (.iload 4, 2) := by decide +kernel
theorem dL_areAlike_140 : decode cL_areAlike 140 = .ok (.iconst 2, 1) := by decide +kernel
theorem dL_areAlike_141 : decode cL_areAlike 141 = .ok (.irem, 1) := by decide +kernel
theorem dL_areAlike_142 : decode cL_areAlike 142 = .ok (.iload 4, 2) := by decide +kernel
theorem dL_areAlike_144 : decode cL_areAlike 144 = .ok (.iconst 2, 1) := by decide +kernel
theorem dL_areAlike_145 : decode cL_areAlike 145 = .ok (.idiv, 1) := by decide +kernel
theorem dL_areAlike_146 : decode cL_areAlike 146 = .ok (.invokevirtual 62, 3) := by decide +kernel
theorem dL_areAlike_149 : decode cL_areAlike 149 = .ok (.if_icmp .ne 7, 3) := by decide +kernel
theorem dL_areAlike_152 : decode cL_areAlike 152 = .ok (.iconst 1, 1) := by decide +kernel
theorem dL_areAlike_153 : decode cL_areAlike 153 = .ok (.goto 4, 3) := by decide +kernel
theorem dL_areAlike_156 : decode cL_areAlike 156 = .ok (.iconst 0, 1) := by decide +kernel
theorem dL_areAlike_157 : decode cL_areAlike 157 = .ok (.istore_n 3, 1) := by decide +kernel
theorem dL_areAlike_158 : decode cL_areAlike 158 = .ok (.iinc 4 1, 3) := by decide +kernel
theorem dL_areAlike_161 : decode cL_areAlike 161 = .ok (.goto (-47), 3) := by decide +kernel
theorem dL_areAlike_164 : decode cL_areAlike 164 = .ok (.iconst 0, 1) := by decide +kernel
theorem dL_areAlike_165 : decode cL_areAlike 165 = .ok (.istore 4, 2) := by decide +kernel
theorem dL_areAlike_167 : decode cL_areAlike 167 = .ok (.iload 4, 2) := by decide +kernel
theorem dL_areAlike_169 : decode cL_areAlike 169 = .ok (.iconst 2, 1) := by decide +kernel
theorem dL_areAlike_170 : decode cL_areAlike 170 = .ok (.if_icmp .ge 79, 3) := by decide +kernel
theorem dL_areAlike_173 : decode cL_areAlike 173 = .ok (.iconst 0, 1) := by decide +kernel
theorem dL_areAlike_174 : decode cL_areAlike 174 = .ok (.istore 5, 2) := by decide +kernel
theorem dL_areAlike_176 : decode cL_areAlike 176 = .ok (.iload 5, 2) := by decide +kernel
theorem dL_areAlike_178 : decode cL_areAlike 178 = .ok (.aload_n 0, 1) := by decide +kernel
theorem dL_areAlike_179 : decode cL_areAlike 179 = .ok (.iload 4, 2) := by decide +kernel
theorem dL_areAlike_181 : decode cL_areAlike 181 = .ok (.iconst 0, 1) := by decide +kernel
theorem dL_areAlike_182 : decode cL_areAlike 182 = .ok (.invokevirtual 62, 3) := by decide +kernel
theorem dL_areAlike_185 : decode cL_areAlike 185 = .ok (.if_icmp .ge 58, 3) := by decide +kernel
theorem dL_areAlike_188 : decode cL_areAlike 188 = .ok (.iconst 0, 1) := by decide +kernel
theorem dL_areAlike_189 : decode cL_areAlike 189 = .ok (.istore 6, 2) := by decide +kernel
theorem dL_areAlike_191 : decode cL_areAlike 191 = .ok (.iload 6, 2) := by decide +kernel
theorem dL_areAlike_193 : decode cL_areAlike 193 = .ok (.bipush 9, 2) := by decide +kernel
theorem dL_areAlike_195 : decode cL_areAlike 195 = .ok (.if_icmp .ge 42, 3) := by decide +kernel
theorem dL_areAlike_198 : decode cL_areAlike 198 = .ok (.iload_n 3, 1) := by decide +kernel
theorem dL_areAlike_199 : decode cL_areAlike 199 = .ok (.ifCond .eq 30, 3) := by decide +kernel
theorem dL_areAlike_202 : decode cL_areAlike 202 = .ok (.aload_n 0, 1) := by decide +kernel
theorem dL_areAlike_203 : decode cL_areAlike 203 = .ok (.iload 4, 2) := by decide +kernel
theorem dL_areAlike_205 : decode cL_areAlike 205 = .ok (.iload 5, 2) := by decide +kernel
theorem dL_areAlike_207 : decode cL_areAlike 207 = .ok (.iload 6, 2) := by decide +kernel
theorem dL_areAlike_209 : decode cL_areAlike 209 = .ok (.invokevirtual 87, 3) := by decide +kernel
theorem dL_areAlike_212 : decode cL_areAlike 212 = .ok (.aload_n 1, 1) := by decide +kernel
theorem dL_areAlike_213 : decode cL_areAlike 213 = .ok (.iload 4, 2) := by decide +kernel
theorem dL_areAlike_215 : decode cL_areAlike 215 = .ok (.iload 5, 2) := by decide +kernel
theorem dL_areAlike_217 : decode cL_areAlike 217 = .ok (.iload 6, 2) := by decide +kernel
theorem dL_areAlike_219 : decode cL_areAlike 219 = .ok (.invokevirtual 87, 3) := by decide +kernel
theorem dL_areAlike_222 : decode cL_areAlike 222 = .ok (.if_icmp .ne 7, 3) := by decide +kernel
theorem dL_areAlike_225 : decode cL_areAlike 225 = .ok (.iconst 1, 1) := by decide +kernel
theorem dL_areAlike_226 : decode cL_areAlike 226 = .ok (.goto 4, 3) := by decide +kernel
theorem dL_areAlike_229 : decode cL_areAlike 229 = .ok (.iconst 0, 1) := by decide +kernel
theorem dL_areAlike_230 : decode cL_areAlike 230 = .ok (.istore_n 3, 1) := by decide +kernel
theorem dL_areAlike_231 : decode cL_areAlike 231 = .ok (.iinc 6 1, 3) := by decide +kernel
theorem dL_areAlike_234 : decode cL_areAlike 234 = .ok (.goto (-43), 3) := by decide +kernel
theorem dL_areAlike_237 : decode cL_areAlike 237 = .ok (.iinc 5 1, 3) := by decide +kernel
theorem dL_areAlike_240 : decode cL_areAlike 240 = .ok (.goto (-64), 3) := by decide +kernel
theorem dL_areAlike_243 : decode cL_areAlike 243 = .ok (.iinc 4 1, 3) := by decide +kernel
theorem dL_areAlike_246 : decode cL_areAlike 246 = .ok (.goto (-79), 3) := by decide +kernel
theorem dL_areAlike_249 : decode cL_areAlike 249 = .ok (.iconst 0, 1) := by decide +kernel
theorem dL_areAlike_250 : decode cL_areAlike 250 = .ok (.istore 4, 2) := by decide +kernel
theorem dL_areAlike_252 : decode cL_areAlike 252 = .ok (.iload 4, 2) := by decide +kernel
theorem dL_areAlike_254 : decode cL_areAlike 254 = .ok (.aload_n 0, 1) := by decide +kernel
theorem dL_areAlike_255 : decode cL_areAlike 255 = .ok (.iconst 4, 1) := by decide +kernel
theorem dL_areAlike_256 : decode cL_areAlike 256 = .ok (.invokevirtual 28, 3) := by decide +kernel
theorem dL_areAlike_259 : decode cL_areAlike 259 = .ok (.if_icmp .ge 114, 3) := by decide +kernel
theorem dL_areAlike_262 : decode cL_areAlike 262 = .ok (.iconst 0, 1) := by decide +kernel
theorem dL_areAlike_263 : decode cL_areAlike 263 = .ok (.istore 5, 2) := by decide +kernel
theorem dL_areAlike_265 : decode cL_areAlike 265 = .ok (.iload 5, 2) := by decide +kernel
theorem dL_areAlike_267 : decode cL_areAlike 267 = .ok (.iconst 4, 1) := by decide +kernel
theorem dL_areAlike_268 : decode cL_areAlike 268 = .ok (.if_icmp .ge 38, 3) := by decide +kernel
theorem dL_areAlike_271 : decode cL_areAlike 271 = .ok (.iload_n 3, 1) := by decide +kernel
theorem dL_areAlike_272 : decode cL_areAlike 272 = .ok (.ifCond .eq 26, 3) := by decide +kernel
theorem dL_areAlike_275 : decode cL_areAlike 275 = .ok (.aload_n 0, 1) := by decide +kernel
theorem dL_areAlike_276 : decode cL_areAlike 276 = .ok (.iload 4, 2) := by decide +kernel
theorem dL_areAlike_278 : decode cL_areAlike 278 = .ok (.iload 5, 2) := by decide +kernel
theorem dL_areAlike_280 : decode cL_areAlike 280 = .ok (.invokevirtual 53, 3) := by decide +kernel
theorem dL_areAlike_283 : decode cL_areAlike 283 = .ok (.aload_n 1, 1) := by decide +kernel
theorem dL_areAlike_284 : decode cL_areAlike 284 = .ok (.iload 4, 2) := by decide +kernel
theorem dL_areAlike_286 : decode cL_areAlike 286 = .ok (.iload 5, 2) := by decide +kernel
theorem dL_areAlike_288 : decode cL_areAlike 288 = .ok (.invokevirtual 53, 3) := by decide +kernel
theorem dL_areAlike_291 : decode cL_areAlike 291 = .ok (.if_icmp .ne 7, 3) := by decide +kernel
theorem dL_areAlike_294 : decode cL_areAlike 294 = .ok (.iconst 1, 1) := by decide +kernel
theorem dL_areAlike_295 : decode cL_areAlike 295 = .ok (.goto 4, 3) := by decide +kernel
theorem dL_areAlike_298 : decode cL_areAlike 298 = .ok (.iconst 0, 1) := by decide +kernel
theorem dL_areAlike_299 : decode cL_areAlike 299 = .ok (.istore_n 3, 1) := by decide +kernel
theorem dL_areAlike_300 : decode cL_areAlike 300 = .ok (.iinc 5 1, 3) := by decide +kernel
theorem dL_areAlike_303 : decode cL_areAlike 303 = .ok (.goto (-38), 3) := by decide +kernel
theorem dL_areAlike_306 : decode cL_areAlike 306 = .ok (.iconst 4, 1) := by decide +kernel
theorem dL_areAlike_307 : decode cL_areAlike 307 = .ok (.istore 5, 2) := by decide +kernel
theorem dL_areAlike_309 : decode cL_areAlike 309 = .ok (.iload 5, 2) := by decide +kernel
theorem dL_areAlike_311 : decode cL_areAlike 311 = .ok (.iconst 4, 1) := by decide +kernel
theorem dL_areAlike_312 : decode cL_areAlike 312 = .ok (.aload_n 0, 1) := by decide +kernel
theorem dL_areAlike_313 : decode cL_areAlike 313 = .ok (.iload 4, 2) := by decide +kernel
theorem dL_areAlike_315 : decode cL_areAlike 315 = .ok (.iconst 0, 1) := by decide +kernel
theorem dL_areAlike_316 : decode cL_areAlike 316 = .ok (.invokevirtual 53, 3) := by decide +kernel
theorem dL_areAlike_319 : decode cL_areAlike 319 = .ok (.iadd, 1) := by decide +kernel
theorem dL_areAlike_320 : decode cL_areAlike 320 = .ok (.if_icmp .ge 47, 3) := by decide +kernel
theorem dL_areAlike_323 : decode cL_areAlike 323 = .ok (.iload_n 3, 1) := by decide +kernel
theorem dL_areAlike_324 : decode cL_areAlike 324 = .ok (.ifCond .eq 35, 3) := by decide +kernel
theorem dL_areAlike_327 : decode cL_areAlike 327 = .ok (.aload_n 1, 1) := by decide +kernel
theorem dL_areAlike_328 : decode cL_areAlike 328 = .ok (.iload 4, 2) := by decide +kernel
theorem dL_areAlike_330 : decode cL_areAlike 330 = .ok (.iload 5, 2) := by decide +kernel
theorem dL_areAlike_332 : decode cL_areAlike 332 = .ok (.invokevirtual 53, 3) := by decide +kernel
theorem dL_areAlike_335 : decode cL_areAlike 335 = .ok (.aload_n 0, 1) := by decide +kernel
theorem dL_areAlike_336 : decode cL_areAlike 336 = .ok (.iload 4, 2) := by decide +kernel
theorem dL_areAlike_338 : decode cL_areAlike 338 = .ok (.iload 5, 2) := by decide +kernel
theorem dL_areAlike_340 : decode cL_areAlike 340 = .ok (.invokevirtual 53, 3) := by decide +kernel
theorem dL_areAlike_343 : decode cL_areAlike 343 = .ok (.invokestatic 91, 3) := by decide +kernel
theorem dL_areAlike_346 : decode cL_areAlike 346 = .ok (.invokestatic 37, 3) := by decide +kernel
theorem dL_areAlike_349 : decode cL_areAlike 349 = .ok (.invokestatic 15, 3) := by decide +kernel
theorem dL_areAlike_352 : decode cL_areAlike 352 = .ok (.if_icmp .ne 7, 3) := by decide +kernel
theorem dL_areAlike_355 : decode cL_areAlike 355 = .ok (.iconst 1, 1) := by decide +kernel
theorem dL_areAlike_356 : decode cL_areAlike 356 = .ok (.goto 4, 3) := by decide +kernel
theorem dL_areAlike_359 : decode cL_areAlike 359 = .ok (.iconst 0, 1) := by decide +kernel
theorem dL_areAlike_360 : decode cL_areAlike 360 = .ok (.istore_n 3, 1) := by decide +kernel
theorem dL_areAlike_361 : decode cL_areAlike 361 = .ok (.iinc 5 1, 3) := by decide +kernel
theorem dL_areAlike_364 : decode cL_areAlike 364 = .ok (.goto (-55), 3) := by decide +kernel
theorem dL_areAlike_367 : decode cL_areAlike 367 = .ok (.iinc 4 1, 3) := by decide +kernel
theorem dL_areAlike_370 : decode cL_areAlike 370 = .ok (.goto (-118), 3) := by decide +kernel
theorem dL_areAlike_373 : decode cL_areAlike 373 = .ok (.iconst 0, 1) := by decide +kernel
theorem dL_areAlike_374 : decode cL_areAlike 374 = .ok (.istore 4, 2) := by decide +kernel
theorem dL_areAlike_376 : decode cL_areAlike 376 = .ok (.iload 4, 2) := by decide +kernel
theorem dL_areAlike_378 : decode cL_areAlike 378 = .ok (.bipush 48, 2) := by decide +kernel
theorem dL_areAlike_380 : decode cL_areAlike 380 = .ok (.if_icmp .ge 53, 3) := by decide +kernel
theorem dL_areAlike_383 : decode cL_areAlike 383 = .ok (.iload_n 3, 1) := by decide +kernel
theorem dL_areAlike_384 : decode cL_areAlike 384 = .ok (.ifCond .eq 41, 3) := by decide +kernel
theorem dL_areAlike_387 : decode cL_areAlike 387 = .ok (.aload_n 0, 1) := by decide +kernel
theorem dL_areAlike_388 : decode cL_areAlike 388 = .ok (.iload 4, 2) := by decide +kernel
theorem dL_areAlike_390 : decode cL_areAlike 390 = .ok (.bipush 6, 2) := by decide +kernel
theorem dL_areAlike_392 : decode cL_areAlike 392 = .ok (.idiv, 1) := by decide +kernel
theorem dL_areAlike_393 : decode cL_areAlike 393 = .ok (.iload 4, 2) := by decide +kernel
theorem dL_areAlike_395 : decode cL_areAlike 395 = .ok (.bipush 6, 2) := by decide +kernel
theorem dL_areAlike_397 : decode cL_areAlike 397 = .ok (.irem, 1) := by decide +kernel
theorem dL_areAlike_398 : decode cL_areAlike 398 = .ok (.invokevirtual 46, 3) := by decide +kernel
theorem dL_areAlike_401 : decode cL_areAlike 401 = .ok (.aload_n 1, 1) := by decide +kernel
theorem dL_areAlike_402 : decode cL_areAlike 402 = .ok (.iload 4, 2) := by decide +kernel
theorem dL_areAlike_404 : decode cL_areAlike 404 = .ok (.bipush 6, 2) := by decide +kernel
theorem dL_areAlike_406 : decode cL_areAlike 406 = .ok (.idiv, 1) := by decide +kernel
theorem dL_areAlike_407 : decode cL_areAlike 407 = .ok (.invokestatic 9, 3) := by decide +kernel
theorem dL_areAlike_410 : decode cL_areAlike 410 = .ok (.iload 4, 2) := by decide +kernel
theorem dL_areAlike_412 : decode cL_areAlike 412 = .ok (.bipush 6, 2) := by decide +kernel
theorem dL_areAlike_414 : decode cL_areAlike 414 = .ok (.irem, 1) := by decide +kernel
theorem dL_areAlike_415 : decode cL_areAlike 415 = .ok (.invokevirtual 46, 3) := by decide +kernel
theorem dL_areAlike_418 : decode cL_areAlike 418 = .ok (.if_icmp .ne 7, 3) := by decide +kernel
theorem dL_areAlike_421 : decode cL_areAlike 421 = .ok (.iconst 1, 1) := by decide +kernel
theorem dL_areAlike_422 : decode cL_areAlike 422 = .ok (.goto 4, 3) := by decide +kernel
theorem dL_areAlike_425 : decode cL_areAlike 425 = .ok (.iconst 0, 1) := by decide +kernel
theorem dL_areAlike_426 : decode cL_areAlike 426 = .ok (.istore_n 3, 1) := by decide +kernel
theorem dL_areAlike_427 : decode cL_areAlike 427 = .ok (.iinc 4 1, 3) := by decide +kernel
theorem dL_areAlike_430 : decode cL_areAlike 430 = .ok (.goto (-54), 3) := by decide +kernel
theorem dL_areAlike_433 : decode cL_areAlike 433 = .ok (.iload_n 3, 1) := by decide +kernel
theorem dL_areAlike_434 : decode cL_areAlike 434 = .ok (.ireturn, 1) := by decide +kernel
theorem dL_isWell_0 : decode cL_isWell 0 = .ok (.iconst 0, 1) := by decide +kernel
theorem dL_isWell_1 : decode cL_isWell 1 = .ok (.istore_n 1, 1) := by decide +kernel
theorem dL_isWell_2 : decode cL_isWell 2 = .ok (.iconst 0, 1) := by decide +kernel
theorem dL_isWell_3 : decode cL_isWell 3 = .ok (.istore_n 2, 1) := by decide +kernel
theorem dL_isWell_4 : decode cL_isWell 4 = .ok (.iconst 0, 1) := by decide +kernel
theorem dL_isWell_5 : decode cL_isWell 5 = .ok (.istore_n 3, 1) := by decide +kernel
theorem dL_isWell_6 : decode cL_isWell 6 = .ok (.iconst 0, 1) := by decide +kernel
theorem dL_isWell_7 : decode cL_isWell 7 = .ok (.istore 4, 2) := by decide +kernel
theorem dL_isWell_9 : decode cL_isWell 9 = .ok (.aload_n 0, 1) := by decide +kernel
theorem dL_isWell_10 : decode cL_isWell 10 = .ok (.iconst 4, 1) := by decide +kernel
theorem dL_isWell_11 : decode cL_isWell 11 = .ok (.invokevirtual 28, 3) := by decide +kernel
theorem dL_isWell_14 : decode cL_isWell 14 = .ok (.istore 5, 2) := by decide +kernel
theorem dL_isWell_16 : decode cL_isWell 16 = .ok (.aload_n 0, 1) := by decide +kernel
theorem dL_isWell_17 : decode cL_isWell 17 = .ok (.iconst 1, 1) := by decide +kernel
theorem dL_isWell_18 : decode cL_isWell 18 = .ok (.iconst 1, 1) := by decide +kernel
theorem dL_isWell_19 : decode cL_isWell 19 = .ok (.invokevirtual 62, 3) := by decide +kernel
theorem dL_isWell_22 : decode cL_isWell 22 = .ok (.aload_n 0, 1) := by decide +kernel
theorem dL_isWell_23 : decode cL_isWell 23 = .ok (.iconst 0, 1) := by decide +kernel
theorem dL_isWell_24 : decode cL_isWell 24 = .ok (.iconst 1, 1) := by decide +kernel
theorem dL_isWell_25 : decode cL_isWell 25 = .ok (.invokevirtual 62, 3) := by decide +kernel
theorem dL_isWell_28 : decode cL_isWell 28 = .ok (.if_icmp .gt 46, 3) := by decide +kernel
theorem dL_isWell_31 : decode cL_isWell 31 = .ok (.aload_n 0, 1) := by decide +kernel
theorem dL_isWell_32 : decode cL_isWell 32 = .ok (.iconst 0, 1) := by decide +kernel
theorem dL_isWell_33 : decode cL_isWell 33 = .ok (.iconst 0, 1) := by decide +kernel
theorem dL_isWell_34 : decode cL_isWell 34 = .ok (.invokevirtual 62, 3) := by decide +kernel
theorem dL_isWell_37 : decode cL_isWell 37 = .ok (.aload_n 0, 1) := by decide +kernel
theorem dL_isWell_38 : decode cL_isWell 38 = .ok (.iconst 1, 1) := by decide +kernel
theorem dL_isWell_39 : decode cL_isWell 39 = .ok (.iconst 0, 1) := by decide +kernel
theorem dL_isWell_40 : decode cL_isWell 40 = .ok (.invokevirtual 62, 3) := by decide +kernel
theorem dL_isWell_43 : decode cL_isWell 43 = .ok (.if_icmp .gt 31, 3) := by decide +kernel
theorem dL_isWell_46 : decode cL_isWell 46 = .ok (.aload_n 0, 1) := by decide +kernel
theorem dL_isWell_47 : decode cL_isWell 47 = .ok (.bipush 7, 2) := by decide +kernel
theorem dL_isWell_49 : decode cL_isWell 49 = .ok (.invokevirtual 28, 3) := by decide +kernel
theorem dL_isWell_52 : decode cL_isWell 52 = .ok (.ifCond .eq 18, 3) := by decide +kernel
theorem dL_isWell_55 : decode cL_isWell 55 = .ok (.aload_n 0, 1) := by decide +kernel
theorem dL_isWell_56 : decode cL_isWell 56 = .ok (.iconst 0, 1) := by decide +kernel
theorem dL_isWell_57 : decode cL_isWell 57 = .ok (.iconst 1, 1) := by decide +kernel
theorem dL_isWell_58 : decode cL_isWell 58 = .ok (.invokevirtual 62, 3) := by decide +kernel
theorem dL_isWell_61 : decode cL_isWell 61 = .ok (.aload_n 0, 1) := by decide +kernel
theorem dL_isWell_62 : decode cL_isWell 62 = .ok (.iconst 1, 1) := by decide +kernel
theorem dL_isWell_63 : decode cL_isWell 63 = .ok (.iconst 1, 1) := by decide +kernel
theorem dL_isWell_64 : decode cL_isWell 64 = .ok (.invokevirtual 62, 3) := by decide +kernel
theorem dL_isWell_67 : decode cL_isWell 67 = .ok (.if_icmp .ne 7, 3) := by decide +kernel
theorem dL_isWell_70 : decode cL_isWell 70 = .ok (.iconst 1, 1) := by decide +kernel
theorem dL_isWell_71 : decode cL_isWell 71 = .ok (.goto 4, 3) := by decide +kernel
theorem dL_isWell_74 : decode cL_isWell 74 = .ok (.iconst 0, 1) := by decide +kernel
theorem dL_isWell_75 : decode cL_isWell 75 = .ok (.istore 6, 2) := by decide +kernel
theorem dL_isWell_77 : decode cL_isWell 77 = .ok (.iconst 0, 1) := by decide +kernel
theorem dL_isWell_78 : decode cL_isWell 78 = .ok (.istore 7, 2) := by decide +kernel
theorem dL_isWell_80 : decode cL_isWell 80 = .ok (.iload 7, 2) := by decide +kernel
theorem dL_isWell_82 : decode cL_isWell 82 = .ok (.iload 5, 2) := by decide +kernel
theorem dL_isWell_84 : decode cL_isWell 84 = .ok (.if_icmp .ge 157, 3) := by decide +kernel
theorem dL_isWell_87 : decode cL_isWell 87 = .ok (.iload_n 1, 1) := by decide +kernel
theorem dL_isWell_88 : decode cL_isWell 88 = .ok (.aload_n 0, 1) := by decide +kernel
theorem dL_isWell_89 : decode cL_isWell 89 = .ok (.iload 7, 2) := by decide +kernel
theorem dL_isWell_91 : decode cL_isWell 91 = .ok (.iconst 0, 1) := by decide +kernel
theorem dL_isWell_92 : decode cL_isWell 92 = .ok (.invokevirtual 53, 3) := by decide +kernel
theorem dL_isWell_95 : decode cL_isWell 95 = .ok (.iadd, 1) := by decide +kernel
theorem dL_isWell_96 : decode cL_isWell 96 = .ok (.istore_n 1, 1) := by decide +kernel
theorem dL_isWell_97 : decode cL_isWell 97 = .ok (.iload_n 2, 1) := by decide +kernel
theorem dL_isWell_98 : decode cL_isWell 98 = .ok (.aload_n 0, 1) := by decide +kernel
theorem dL_isWell_99 : decode cL_isWell 99 = .ok (.iload 7, 2) := by decide +kernel
theorem dL_isWell_101 : decode cL_isWell 101 = .ok (.iconst 1, 1) := by decide +kernel
theorem dL_isWell_102 : decode cL_isWell 102 = .ok (.invokevirtual 53, 3) := by decide +kernel
theorem dL_isWell_105 : decode cL_isWell 105 = .ok (.iadd, 1) := by decide +kernel
theorem dL_isWell_106 : decode cL_isWell 106 = .ok (.istore_n 2, 1) := by decide +kernel
theorem dL_isWell_107 : decode cL_isWell 107 = .ok (.iload 6, 2) := by decide +kernel
theorem dL_isWell_109 : decode cL_isWell 109 = .ok (.ifCond .eq 123, 3) := by decide +kernel
theorem dL_isWell_112 : decode cL_isWell 112 = .ok (.aload_n 0, 1) := by decide +kernel
theorem dL_isWell_113 : decode cL_isWell 113 = .ok (.iload 7, 2) := by decide +kernel
theorem dL_isWell_115 : decode cL_isWell 115 = .ok (.iconst 2, 1) := by decide +kernel
theorem dL_isWell_116 : decode cL_isWell 116 = .ok (.invokevirtual 53, 3) := by decide +kernel
theorem dL_isWell_119 : decode cL_isWell 119 = .ok (.aload_n 0, 1) := by decide +kernel
theorem dL_isWell_120 : decode cL_isWell 120 = .ok (.iload 7, 2) := by decide +kernel
theorem dL_isWell_122 : decode cL_isWell 122 = .ok (.iconst 3, 1) := by decide +kernel
theorem dL_isWell_123 : decode cL_isWell 123 = .ok (.invokevirtual 53, 3) := by decide +kernel
theorem dL_isWell_126 : decode cL_isWell 126 = .ok (.if_icmp .gt 106, 3) := by decide +kernel
theorem dL_isWell_129 : decode cL_isWell 129 = .ok (.iload 7, 2) := by decide +kernel
theorem dL_isWell_131 : decode cL_isWell 131 = .ok (.ifCond .eq 43, 3) := by decide +kernel
theorem dL_isWell_134 : decode cL_isWell 134 = .ok (.aload_n 0, 1) := by decide +kernel
theorem dL_isWell_135 : decode cL_isWell 135 = .ok (.iload 7, 2) := by decide +kernel
theorem dL_isWell_137 : decode cL_isWell 137 = .ok (.iconst 2, 1) := by decide +kernel
theorem dL_isWell_138 : decode cL_isWell 138 = .ok (.invokevirtual 53, 3) := by decide +kernel
theorem dL_isWell_141 : decode cL_isWell 141 = .ok (.aload_n 0, 1) := by decide +kernel
theorem dL_isWell_142 : decode cL_isWell 142 = .ok (.iload 7, 2) := by decide +kernel
theorem dL_isWell_144 : decode cL_isWell 144 = .ok (.iconst 1, 1) := by decide +kernel
theorem dL_isWell_145 : decode cL_isWell 145 = .ok (.isub, 1) := by decide +kernel
theorem dL_isWell_146 : decode cL_isWell 146 = .ok (.iconst 2, 1) := by decide +kernel
theorem dL_isWell_147 : decode cL_isWell 147 = .ok (.invokevirtual 53, 3) := by decide +kernel
theorem dL_isWell_150 : decode cL_isWell 150 = .ok (.if_icmp .lt 82, 3) := by decide +kernel
theorem dL_isWell_153 : decode cL_isWell 153 = .ok (.aload_n 0, 1) := by decide +kernel
theorem dL_isWell_154 : decode cL_isWell 154 = .ok (.iload 7, 2) := by decide +kernel
theorem dL_isWell_156 : decode cL_isWell 156 = .ok (.iconst 3, 1) := by decide +kernel
theorem dL_isWell_157 : decode cL_isWell 157 = .ok (.invokevirtual 53, 3) := by decide +kernel
theorem dL_isWell_160 : decode cL_isWell 160 = .ok (.aload_n 0, 1) := by decide +kernel
theorem dL_isWell_161 : decode cL_isWell 161 = .ok (.iload 7, 2) := by decide +kernel
theorem dL_isWell_163 : decode cL_isWell 163 = .ok (.iconst 1, 1) := by decide +kernel
theorem dL_isWell_164 : decode cL_isWell 164 = .ok (.isub, 1) := by decide +kernel
theorem dL_isWell_165 : decode cL_isWell 165 = .ok (.iconst 3, 1) := by decide +kernel
theorem dL_isWell_166 : decode cL_isWell 166 = .ok (.invokevirtual 53, 3) := by decide +kernel
theorem dL_isWell_169 : decode cL_isWell 169 = .ok (.iconst 1, 1) := by decide +kernel
theorem dL_isWell_170 : decode cL_isWell 170 = .ok (.iadd, 1) := by decide +kernel
theorem dL_isWell_171 : decode cL_isWell 171 = .ok (.if_icmp .gt 61, 3) := by decide +kernel
theorem dL_isWell_174 : decode cL_isWell 174 = .ok (.aload_n 0, 1) := by decide +kernel
theorem dL_isWell_175 : decode cL_isWell 175 = .ok (.iload 7, 2) := by decide +kernel
theorem dL_isWell_177 : decode cL_isWell 177 = .ok (.iload 7, 2) := by decide +kernel
theorem dL_isWell_179 : decode cL_isWell 179 = .ok (.invokevirtual 94, 3) := by decide +kernel
theorem dL_isWell_182 : decode cL_isWell 182 = .ok (.aload_n 0, 1) := by decide +kernel
theorem dL_isWell_183 : decode cL_isWell 183 = .ok (.iload 7, 2) := by decide +kernel
theorem dL_isWell_185 : decode cL_isWell 185 = .ok (.iconst 1, 1) := by decide +kernel
theorem dL_isWell_186 : decode cL_isWell 186 = .ok (.invokevirtual 53, 3) := by decide +kernel
theorem dL_isWell_189 : decode cL_isWell 189 = .ok (.if_icmp .gt 43, 3) := by decide +kernel
theorem dL_isWell_192 : decode cL_isWell 192 = .ok (.iload 7, 2) := by decide +kernel
theorem dL_isWell_194 : decode cL_isWell 194 = .ok (.ifCond .eq 34, 3) := by decide +kernel
theorem dL_isWell_197 : decode cL_isWell 197 = .ok (.aload_n 0, 1) := by decide +kernel
theorem dL_isWell_198 : decode cL_isWell 198 = .ok (.iload 7, 2) := by decide +kernel
theorem dL_isWell_200 : decode cL_isWell 200 = .ok (.iconst 1, 1) := by decide +kernel
theorem dL_isWell_201 : decode cL_isWell 201 = .ok (.isub, 1) := by decide +kernel
theorem dL_isWell_202 : decode cL_isWell 202 = .ok (.iload 7, 2) := by decide +kernel
theorem dL_isWell_204 : decode cL_isWell 204 = .ok (.invokevirtual 94, 3) := by decide +kernel
theorem dL_isWell_207 : decode cL_isWell 207 = .ok (.aload_n 0, 1) := by decide +kernel
theorem dL_isWell_208 : decode cL_isWell 208 = .ok (.iload 7, 2) := by decide +kernel
theorem dL_isWell_210 : decode cL_isWell 210 = .ok (.iconst 1, 1) := by decide +kernel
theorem dL_isWell_211 : decode cL_isWell 211 = .ok (.isub, 1) := by decide +kernel
theorem dL_isWell_212 : decode cL_isWell 212 = .ok (.iload 7, 2) := by decide +kernel
theorem dL_isWell_214 : decode cL_isWell 214 = .ok (.iconst 1, 1) := by decide +kernel
theorem dL_isWell_215 : decode cL_isWell 215 = .ok (.isub, 1) := by decide +kernel
theorem dL_isWell_216 : decode cL_isWell 216 = .ok (.invokevirtual 94, 3) := by decide +kernel
theorem dL_isWell_219 : decode cL_isWell 219 = .ok (.aload_n 0, 1) := by decide +kernel
theorem dL_isWell_220 : decode cL_isWell 220 = .ok (.iconst 1, 1) := by decide +kernel
theorem dL_isWell_221 : decode cL_isWell 221 = .ok (.invokevirtual 28, 3) := by decide +kernel
theorem dL_isWell_224 : decode cL_isWell 224 = .ok (.iadd, 1) := by decide +kernel
theorem dL_isWell_225 : decode cL_isWell 225 = .ok (.if_icmp .lt 7, 3) := by decide +kernel
theorem dL_isWell_228 : decode cL_isWell 228 = .ok (.iconst 1, 1) := by decide +kernel
theorem dL_isWell_229 : decode cL_isWell 229 = .ok (.goto 4, 3) := by decide +kernel
theorem dL_isWell_232 : decode cL_isWell 232 = .ok (.iconst 0, 1) := by decide +kernel
theorem dL_isWell_233 : decode cL_isWell 233 = .ok (.istore 6, 2) := by decide +kernel
theorem dL_isWell_235 : decode cL_isWell 235 = .ok (.iinc 7 1, 3) := by decide +kernel
theorem dL_isWell_238 : decode cL_isWell 238 = .ok (.goto (-158), 3) := by decide +kernel
theorem dL_isWell_241 : decode cL_isWell 241 = .ok (.iconst 0, 1) := by decide +kernel
theorem dL_isWell_242 : decode cL_isWell 242 = .ok (.istore 7, 2) := by decide +kernel
theorem dL_isWell_244 : decode cL_isWell 244 = .ok (.iload 7, 2) := by decide +kernel
theorem dL_isWell_246 : decode cL_isWell 246 = .ok (.bipush 8, 2) := by decide +kernel
theorem dL_isWell_248 : decode cL_isWell 248 = .ok (.if_icmp .ge 111, 3) := by decide +kernel
theorem dL_isWell_251 : decode cL_isWell 251 = .ok (.aload_n 0, 1) := by decide +kernel
theorem dL_isWell_252 : decode cL_isWell 252 = .ok (.iload 7, 2) := by decide +kernel
theorem dL_isWell_254 : decode cL_isWell 254 = .ok (.iconst 5, 1) := by decide +kernel
theorem dL_isWell_255 : decode cL_isWell 255 = .ok (.invokevirtual 46, 3) := by decide +kernel
theorem dL_isWell_258 : decode cL_isWell 258 = .ok (.istore 8, 2) := by decide +kernel
theorem dL_isWell_260 : decode cL_isWell 260 = .ok (.iload_n 3, 1) := by decide +kernel
theorem dL_isWell_261 : decode cL_isWell 261 = .ok (.iload 8, 2) := by decide +kernel
theorem dL_isWell_263 : decode cL_isWell 263 = .ok (.iadd, 1) := by decide +kernel
theorem dL_isWell_264 : decode cL_isWell 264 = .ok (.istore_n 3, 1) := by decide +kernel
theorem dL_isWell_265 : decode cL_isWell 265 = .ok (.iload 4, 2) := by decide +kernel
theorem dL_isWell_267 : decode cL_isWell 267 = .ok (.iload 8, 2) := by decide +kernel
theorem dL_isWell_269 : decode cL_isWell 269 = .ok (.aload_n 0, 1) := by decide +kernel
theorem dL_isWell_270 : decode cL_isWell 270 = .ok (.iload 7, 2) := by decide +kernel
theorem dL_isWell_272 : decode cL_isWell 272 = .ok (.iconst 0, 1) := by decide +kernel
theorem dL_isWell_273 : decode cL_isWell 273 = .ok (.invokevirtual 46, 3) := by decide +kernel
theorem dL_isWell_276 : decode cL_isWell 276 = .ok (.imul, 1) := by decide +kernel
theorem dL_isWell_277 : decode cL_isWell 277 = .ok (.iadd, 1) := by decide +kernel
theorem dL_isWell_278 : decode cL_isWell 278 = .ok (.istore 4, 2) := by decide +kernel
theorem dL_isWell_280 : decode cL_isWell 280 = .ok (.iload 6, 2) := by decide +kernel
theorem dL_isWell_282 : decode cL_isWell 282 = .ok (.ifCond .eq 68, 3) := by decide +kernel
theorem dL_isWell_285 : decode cL_isWell 285 = .ok (.aload_n 0, 1) := by decide +kernel
theorem dL_isWell_286 : decode cL_isWell 286 = .ok (.iload 7, 2) := by decide +kernel
theorem dL_isWell_288 : decode cL_isWell 288 = .ok (.iconst 3, 1) := by decide +kernel
theorem dL_isWell_289 : decode cL_isWell 289 = .ok (.invokevirtual 46, 3) := by decide +kernel
theorem dL_isWell_292 : decode cL_isWell 292 = .ok (.aload_n 0, 1) := by decide +kernel
theorem dL_isWell_293 : decode cL_isWell 293 = .ok (.iload 7, 2) := by decide +kernel
theorem dL_isWell_295 : decode cL_isWell 295 = .ok (.iconst 0, 1) := by decide +kernel
theorem dL_isWell_296 : decode cL_isWell 296 = .ok (.invokevirtual 46, 3) := by decide +kernel
theorem dL_isWell_299 : decode cL_isWell 299 = .ok (.if_icmp .gt 51, 3) := by decide +kernel
theorem dL_isWell_302 : decode cL_isWell 302 = .ok (.aload_n 0, 1) := by decide +kernel
theorem dL_isWell_303 : decode cL_isWell 303 = .ok (.iload 7, 2) := by decide +kernel
theorem dL_isWell_305 : decode cL_isWell 305 = .ok (.iconst 4, 1) := by decide +kernel
theorem dL_isWell_306 : decode cL_isWell 306 = .ok (.invokevirtual 46, 3) := by decide +kernel
theorem dL_isWell_309 : decode cL_isWell 309 = .ok (.aload_n 0, 1) := by decide +kernel
theorem dL_isWell_310 : decode cL_isWell 310 = .ok (.iload 7, 2) := by decide +kernel
theorem dL_isWell_312 : decode cL_isWell 312 = .ok (.iconst 0, 1) := by decide +kernel
theorem dL_isWell_313 : decode cL_isWell 313 = .ok (.invokevirtual 46, 3) := by decide +kernel
theorem dL_isWell_316 : decode cL_isWell 316 = .ok (.if_icmp .gt 34, 3) := by decide +kernel
theorem dL_isWell_319 : decode cL_isWell 319 = .ok (.aload_n 0, 1) := by decide +kernel
theorem dL_isWell_320 : decode cL_isWell 320 = .ok (.iconst 3, 1) := by decide +kernel
theorem dL_isWell_321 : decode cL_isWell 321 = .ok (.invokevirtual 28, 3) := by decide +kernel
theorem dL_isWell_324 : decode cL_isWell 324 = .ok (.iconst 1, 1) := by decide +kernel
theorem dL_isWell_325 : decode cL_isWell 325 = .ok (.if_icmp .eq 21, 3) := by decide +kernel
theorem dL_isWell_328 : decode cL_isWell 328 = .ok (.aload_n 0, 1) := by decide +kernel
theorem dL_isWell_329 : decode cL_isWell 329 = .ok (.iload 7, 2) := by decide +kernel
theorem dL_isWell_331 : decode cL_isWell 331 = .ok (.iconst 3, 1) := by decide +kernel
theorem dL_isWell_332 : decode cL_isWell 332 = .ok (.invokevirtual 46, 3) := by decide +kernel
theorem dL_isWell_335 : decode cL_isWell 335 = .ok (.aload_n 0, 1) := by decide +kernel
theorem dL_isWell_336 : decode cL_isWell 336 = .ok (.iload 7, 2) := by decide +kernel
theorem dL_isWell_338 : decode cL_isWell 338 = .ok (.iconst 4, 1) := by decide +kernel
theorem dL_isWell_339 : decode cL_isWell 339 = .ok (.invokevirtual 46, 3) := by decide +kernel
theorem dL_isWell_342 : decode cL_isWell 342 = .ok (.iadd, 1) := by decide +kernel
theorem dL_isWell_343 : decode cL_isWell 343 = .ok (.ifCond .ne 7, 3) := by decide +kernel
theorem dL_isWell_346 : decode cL_isWell 346 = .ok (.iconst 1, 1) := by decide +kernel
theorem dL_isWell_347 : decode cL_isWell 347 = .ok (.goto 4, 3) := by decide +kernel
theorem dL_isWell_350 : decode cL_isWell 350 = .ok (.iconst 0, 1) := by decide +kernel
theorem dL_isWell_351 : decode cL_isWell 351 = .ok (.istore 6, 2) := by decide +kernel
theorem dL_isWell_353 : decode cL_isWell 353 = .ok (.iinc 7 1, 3) := by decide +kernel
theorem dL_isWell_356 : decode cL_isWell 356 = .ok (.goto (-112), 3) := by decide +kernel
theorem dL_isWell_359 : decode cL_isWell 359 = .ok (.iconst 0, 1) := by decide +kernel
theorem dL_isWell_360 : decode cL_isWell 360 = .ok (.istore 7, 2) := by decide +kernel
theorem dL_isWell_362 : decode cL_isWell 362 = .ok (.iconst 0, 1) := by decide +kernel
theorem dL_isWell_363 : decode cL_isWell 363 = .ok (.istore 8, 2) := by decide +kernel
theorem dL_isWell_365 : decode cL_isWell 365 = .ok (.iload 8, 2) := by decide +kernel
theorem dL_isWell_367 : decode cL_isWell 367 = .ok (.aload_n 0, 1) := by decide +kernel
theorem dL_isWell_368 : decode cL_isWell 368 = .ok (.iconst 1, 1) := by decide +kernel
theorem dL_isWell_369 : decode cL_isWell 369 = .ok (.iconst 0, 1) := by decide +kernel
theorem dL_isWell_370 : decode cL_isWell 370 = .ok (.invokevirtual 62, 3) := by decide +kernel
theorem dL_isWell_373 : decode cL_isWell 373 = .ok (.if_icmp .ge 39, 3) := by decide +kernel
theorem dL_isWell_376 : decode cL_isWell 376 = .ok (.iload 7, 2) := by decide +kernel
theorem dL_isWell_378 : decode cL_isWell 378 = .ok (.aload_n 0, 1) := by decide +kernel
theorem dL_isWell_379 : decode cL_isWell 379 = .ok (.iconst 1, 1) := by decide +kernel
theorem dL_isWell_380 : decode cL_isWell 380 = .ok (.iload 8, 2) := by decide +kernel
theorem dL_isWell_382 : decode cL_isWell 382 = .ok (.iconst 2, 1) := by decide +kernel
theorem dL_isWell_383 : decode cL_isWell 383 = .ok (.invokevirtual 87, 3) := by decide +kernel
theorem dL_isWell_386 : decode cL_isWell 386 = .ok (.aload_n 0, 1) := by decide +kernel
theorem dL_isWell_387 : decode cL_isWell 387 = .ok (.iconst 1, 1) := by decide +kernel
theorem dL_isWell_388 : decode cL_isWell 388 = .ok (.iload 8, 2) := by decide +kernel
theorem dL_isWell_390 : decode cL_isWell 390 = .ok (.iconst 1, 1) := by decide +kernel
theorem dL_isWell_391 : decode cL_isWell 391 = .ok (.invokevirtual 87, 3) := by decide +kernel
theorem dL_isWell_394 : decode cL_isWell 394 = .ok (.iconst 1, 1) := by decide +kernel
theorem dL_isWell_395 : decode cL_isWell 395 = .ok (.isub, 1) := by decide +kernel
theorem dL_isWell_396 : decode cL_isWell 396 = .ok (.aload_n 0, 1) := by decide +kernel
theorem dL_isWell_397 : decode cL_isWell 397 = .ok (.iconst 1, 1) := by decide +kernel
theorem dL_isWell_398 : decode cL_isWell 398 = .ok (.invokevirtual 28, 3) := by decide +kernel
theorem dL_isWell_401 : decode cL_isWell 401 = .ok (.imul, 1) := by decide +kernel
theorem dL_isWell_402 : decode cL_isWell 402 = .ok (.isub, 1) := by decide +kernel
theorem dL_isWell_403 : decode cL_isWell 403 = .ok (.iadd, 1) := by decide +kernel
theorem dL_isWell_404 : decode cL_isWell 404 = .ok (.istore 7, 2) := by decide +kernel
theorem dL_isWell_406 : decode cL_isWell 406 = .ok (.iinc 8 1, 3) := by decide +kernel
theorem dL_isWell_409 : decode cL_isWell 409 = .ok (.goto (-44), 3) := by decide +kernel
theorem dL_isWell_412 : decode cL_isWell 412 = .ok (.iload 6, 2) := by decide +kernel
theorem dL_isWell_414 : decode cL_isWell 414 = .ok (.ifCond .eq 95, 3) := by decide +kernel
theorem dL_isWell_417 : decode cL_isWell 417 = .ok (.iload_n 1, 1) := by decide +kernel
theorem dL_isWell_418 : decode cL_isWell 418 = .ok (.aload_n 0, 1) := by decide +kernel
theorem dL_isWell_419 : decode cL_isWell 419 = .ok (.iconst 5, 1) := by decide +kernel
theorem dL_isWell_420 : decode cL_isWell 420 = .ok (.invokevirtual 28, 3) := by decide +kernel
theorem dL_isWell_423 : decode cL_isWell 423 = .ok (.if_icmp .ne 86, 3) := by decide +kernel
theorem dL_isWell_426 : decode cL_isWell 426 = .ok (.iload_n 3, 1) := by decide +kernel
theorem dL_isWell_427 : decode cL_isWell 427 = .ok (.iload_n 1, 1) := by decide +kernel
theorem dL_isWell_428 : decode cL_isWell 428 = .ok (.if_icmp .ne 81, 3) := by decide +kernel
theorem dL_isWell_431 : decode cL_isWell 431 = .ok (.iload 4, 2) := by decide +kernel
theorem dL_isWell_433 : decode cL_isWell 433 = .ok (.iload_n 2, 1) := by decide +kernel
theorem dL_isWell_434 : decode cL_isWell 434 = .ok (.if_icmp .ne 75, 3) := by decide +kernel
theorem dL_isWell_437 : decode cL_isWell 437 = .ok (.iload 7, 2) := by decide +kernel
theorem dL_isWell_439 : decode cL_isWell 439 = .ok (.iload_n 2, 1) := by decide +kernel
theorem dL_isWell_440 : decode cL_isWell 440 = .ok (.if_icmp .ne 69, 3) := by decide +kernel
theorem dL_isWell_443 : decode cL_isWell 443 = .ok (.iload_n 1, 1) := by decide +kernel
theorem dL_isWell_444 : decode cL_isWell 444 = .ok (.aload_n 0, 1) := by decide +kernel
theorem dL_isWell_445 : decode cL_isWell 445 = .ok (.iconst 0, 1) := by decide +kernel
theorem dL_isWell_446 : decode cL_isWell 446 = .ok (.iconst 5, 1) := by decide +kernel
theorem dL_isWell_447 : decode cL_isWell 447 = .ok (.invokevirtual 46, 3) := by decide +kernel
theorem dL_isWell_450 : decode cL_isWell 450 = .ok (.isub, 1) := by decide +kernel
theorem dL_isWell_451 : decode cL_isWell 451 = .ok (.aload_n 0, 1) := by decide +kernel
theorem dL_isWell_452 : decode cL_isWell 452 = .ok (.bipush 6, 2) := by decide +kernel
theorem dL_isWell_454 : decode cL_isWell 454 = .ok (.invokevirtual 28, 3) := by decide +kernel
theorem dL_isWell_457 : decode cL_isWell 457 = .ok (.if_icmp .ne 52, 3) := by decide +kernel
theorem dL_isWell_460 : decode cL_isWell 460 = .ok (.iload 5, 2) := by decide +kernel
theorem dL_isWell_462 : decode cL_isWell 462 = .ok (.ifCond .eq 43, 3) := by decide +kernel
theorem dL_isWell_465 : decode cL_isWell 465 = .ok (.aload_n 0, 1) := by decide +kernel
theorem dL_isWell_466 : decode cL_isWell 466 = .ok (.iload 5, 2) := by decide +kernel
theorem dL_isWell_468 : decode cL_isWell 468 = .ok (.iconst 1, 1) := by decide +kernel
theorem dL_isWell_469 : decode cL_isWell 469 = .ok (.isub, 1) := by decide +kernel
theorem dL_isWell_470 : decode cL_isWell 470 = .ok (.iconst 2, 1) := by decide +kernel
theorem dL_isWell_471 : decode cL_isWell 471 = .ok (.invokevirtual 53, 3) := by decide +kernel
theorem dL_isWell_474 : decode cL_isWell 474 = .ok (.aload_n 0, 1) := by decide +kernel
theorem dL_isWell_475 : decode cL_isWell 475 = .ok (.iconst 0, 1) := by decide +kernel
theorem dL_isWell_476 : decode cL_isWell 476 = .ok (.iconst 0, 1) := by decide +kernel
theorem dL_isWell_477 : decode cL_isWell 477 = .ok (.invokevirtual 62, 3) := by decide +kernel
theorem dL_isWell_480 : decode cL_isWell 480 = .ok (.iconst 1, 1) := by decide +kernel
theorem dL_isWell_481 : decode cL_isWell 481 = .ok (.isub, 1) := by decide +kernel
theorem dL_isWell_482 : decode cL_isWell 482 = .ok (.if_icmp .ne 27, 3) := by decide +kernel
theorem dL_isWell_485 : decode cL_isWell 485 = .ok (.aload_n 0, 1) := by decide +kernel
theorem dL_isWell_486 : decode cL_isWell 486 = .ok (.iload 5, 2) := by decide +kernel
theorem dL_isWell_488 : decode cL_isWell 488 = .ok (.iconst 1, 1) := by decide +kernel
theorem dL_isWell_489 : decode cL_isWell 489 = .ok (.isub, 1) := by decide +kernel
theorem dL_isWell_490 : decode cL_isWell 490 = .ok (.iconst 3, 1) := by decide +kernel
theorem dL_isWell_491 : decode cL_isWell 491 = .ok (.invokevirtual 53, 3) := by decide +kernel
theorem dL_isWell_494 : decode cL_isWell 494 = .ok (.aload_n 0, 1) := by decide +kernel
theorem dL_isWell_495 : decode cL_isWell 495 = .ok (.iconst 1, 1) := by decide +kernel
theorem dL_isWell_496 : decode cL_isWell 496 = .ok (.iconst 0, 1) := by decide +kernel
theorem dL_isWell_497 : decode cL_isWell 497 = .ok (.invokevirtual 62, 3) := by decide +kernel
theorem dL_isWell_500 : decode cL_isWell 500 = .ok (.iconst 1, 1) := by decide +kernel
theorem dL_isWell_501 : decode cL_isWell 501 = .ok (.isub, 1) := by decide +kernel
theorem dL_isWell_502 : decode cL_isWell 502 = .ok (.if_icmp .ne 7, 3) := by decide +kernel
theorem dL_isWell_505 : decode cL_isWell 505 = .ok (.iconst 1, 1) := by decide +kernel
theorem dL_isWell_506 : decode cL_isWell 506 = .ok (.goto 4, 3) := by decide +kernel
theorem dL_isWell_509 : decode cL_isWell 509 = .ok (.iconst 0, 1) := by decide +kernel
theorem dL_isWell_510 : decode cL_isWell 510 = .ok (.ireturn, 1) := by decide +kernel
theorem dL_law_0 : decode cL_law 0 = .ok (.new 19, 3) := by decide +kernel
theorem dL_law_3 : decode cL_law 3 = .ok (.dup, 1) := by decide +kernel
theorem dL_law_4 : decode cL_law 4 = .ok (.invokespecial 97, 3) := by decide +kernel
theorem dL_law_7 : decode cL_law 7 = .ok (.astore_n 1, 1) := by decide +kernel
theorem dL_law_8 : decode cL_law 8 = .ok (.new 19, 3) := by decide +kernel
theorem dL_law_11 : decode cL_law 11 = .ok (.dup, 1) := by decide +kernel
theorem dL_law_12 : decode cL_law 12 = .ok (.invokespecial 97, 3) := by decide +kernel
theorem dL_law_15 : decode cL_law 15 = .ok (.astore_n 2, 1) := by decide +kernel
theorem dL_law_16 : decode cL_law 16 = .ok (.iconst 1, 1) := by decide +kernel
theorem dL_law_17 : decode cL_law 17 = .ok (.istore_n 3, 1) := by decide +kernel
theorem dL_law_18 : decode cL_law 18 = .ok (.iconst 1, 1) := by decide +kernel
theorem dL_law_19 : decode cL_law 19 = .ok (.istore 4, 2) := by decide +kernel
theorem dL_law_21 : decode cL_law 21 = .ok (.iload 4, 2) := by decide +kernel
theorem dL_law_23 : decode cL_law 23 = .ok (.bipush 7, 2) := by decide +kernel
theorem dL_law_25 : decode cL_law 25 = .ok (.if_icmp .ge 68, 3) := by decide +kernel
theorem dL_law_28 : decode cL_law 28 = .ok (.iload_n 3, 1) := by decide +kernel
theorem dL_law_29 : decode cL_law 29 = .ok (.ifCond .eq 56, 3) := by decide +kernel
theorem dL_law_32 : decode cL_law 32 = .ok (.aload_n 2, 1) := by decide +kernel
theorem dL_law_33 : decode cL_law 33 = .ok (.iload 4, 2) := by decide +kernel
theorem dL_law_35 : decode cL_law 35 = .ok (.aload_n 1, 1) := by decide +kernel
theorem dL_law_36 : decode cL_law 36 = .ok (.iload 4, 2) := by decide +kernel
theorem dL_law_38 : decode cL_law 38 = .ok (.invokestatic 9, 3) := by decide +kernel
theorem dL_law_41 : decode cL_law 41 = .ok (.iconst 0, 1) := by decide +kernel
theorem dL_law_42 : decode cL_law 42 = .ok (.invokevirtual 46, 3) := by decide +kernel
theorem dL_law_45 : decode cL_law 45 = .ok (.aload_n 1, 1) := by decide +kernel
theorem dL_law_46 : decode cL_law 46 = .ok (.iload 4, 2) := by decide +kernel
theorem dL_law_48 : decode cL_law 48 = .ok (.invokestatic 9, 3) := by decide +kernel
theorem dL_law_51 : decode cL_law 51 = .ok (.iconst 1, 1) := by decide +kernel
theorem dL_law_52 : decode cL_law 52 = .ok (.invokevirtual 46, 3) := by decide +kernel
theorem dL_law_55 : decode cL_law 55 = .ok (.aload_n 1, 1) := by decide +kernel
theorem dL_law_56 : decode cL_law 56 = .ok (.iload 4, 2) := by decide +kernel
theorem dL_law_58 : decode cL_law 58 = .ok (.invokestatic 9, 3) := by decide +kernel
theorem dL_law_61 : decode cL_law 61 = .ok (.iconst 2, 1) := by decide +kernel
theorem dL_law_62 : decode cL_law 62 = .ok (.invokevirtual 46, 3) := by decide +kernel
theorem dL_law_65 : decode cL_law 65 = .ok (.invokevirtual 49, 3) := by decide +kernel
theorem dL_law_68 : decode cL_law 68 = .ok (.ifCond .le 17, 3) := by decide +kernel
theorem dL_law_71 : decode cL_law 71 = .ok (.aload_n 1, 1) := by decide +kernel
theorem dL_law_72 : decode cL_law 72 = .ok (.iconst 3, 1) := by decide +kernel
theorem dL_law_73 : decode cL_law 73 = .ok (.iconst 1, 1) := by decide +kernel
theorem dL_law_74 : decode cL_law 74 = .ok (.invokevirtual 43, 3) := by decide +kernel
theorem dL_law_77 : decode cL_law 77 = .ok (.iconst 1, 1) := by decide +kernel
theorem dL_law_78 : decode cL_law 78 = .ok (.if_icmp .ne 7, 3) := by decide +kernel
theorem dL_law_81 : decode cL_law 81 = .ok (.iconst 1, 1) := by decide +kernel
theorem dL_law_82 : decode cL_law 82 = .ok (.goto 4, 3) := by decide +kernel
theorem dL_law_85 : decode cL_law 85 = .ok (.iconst 0, 1) := by decide +kernel
theorem dL_law_86 : decode cL_law 86 = .ok (.istore_n 3, 1) := by decide +kernel
theorem dL_law_87 : decode cL_law 87 = .ok (.iinc 4 1, 3) := by decide +kernel
theorem dL_law_90 : decode cL_law 90 = .ok (.goto (-69), 3) := by decide +kernel
theorem dL_law_93 : decode cL_law 93 = .ok (.iconst 0, 1) := by decide +kernel
theorem dL_law_94 : decode cL_law 94 = .ok (.istore 4, 2) := by decide +kernel
theorem dL_law_96 : decode cL_law 96 = .ok (.iload 4, 2) := by decide +kernel
theorem dL_law_98 : decode cL_law 98 = .ok (.bipush 44, 2) := by decide +kernel
theorem dL_law_100 : decode cL_law 100 = .ok (.if_icmp .ge 57, 3) := by decide +kernel
theorem dL_law_103 : decode cL_law 103 = .ok (.iload_n 3, 1) := by decide +kernel
theorem dL_law_104 : decode cL_law 104 = .ok (.ifCond .eq 53, 3) := by decide +kernel
theorem dL_law_107 : decode cL_law 107 = .ok (.aload_n 1, 1) := by decide +kernel
theorem dL_law_108 : decode cL_law 108 = .ok (.aload_n 2, 1) := by decide +kernel
theorem dL_law_109 : decode cL_law 109 = .ok (.aload_n 0, 1) := by decide +kernel
theorem dL_law_110 : decode cL_law 110 = .ok (.iload 4, 2) := by decide +kernel
theorem dL_law_112 : decode cL_law 112 = .ok (.invokestatic 98, 3) := by decide +kernel
theorem dL_law_115 : decode cL_law 115 = .ok (.aload_n 0, 1) := by decide +kernel
theorem dL_law_116 : decode cL_law 116 = .ok (.iload 4, 2) := by decide +kernel
theorem dL_law_118 : decode cL_law 118 = .ok (.iconst 1, 1) := by decide +kernel
theorem dL_law_119 : decode cL_law 119 = .ok (.iadd, 1) := by decide +kernel
theorem dL_law_120 : decode cL_law 120 = .ok (.invokestatic 98, 3) := by decide +kernel
theorem dL_law_123 : decode cL_law 123 = .ok (.iconst 2, 1) := by decide +kernel
theorem dL_law_124 : decode cL_law 124 = .ok (.ishr, 1) := by decide +kernel
theorem dL_law_125 : decode cL_law 125 = .ok (.invokestatic 102, 3) := by decide +kernel
theorem dL_law_128 : decode cL_law 128 = .ok (.ifCond .eq 21, 3) := by decide +kernel
theorem dL_law_131 : decode cL_law 131 = .ok (.iload 4, 2) := by decide +kernel
theorem dL_law_133 : decode cL_law 133 = .ok (.iconst 3, 1) := by decide +kernel
theorem dL_law_134 : decode cL_law 134 = .ok (.irem, 1) := by decide +kernel
theorem dL_law_135 : decode cL_law 135 = .ok (.ifCond .gt 10, 3) := by decide +kernel
theorem dL_law_138 : decode cL_law 138 = .ok (.aload_n 1, 1) := by decide +kernel
theorem dL_law_139 : decode cL_law 139 = .ok (.invokestatic 105, 3) := by decide +kernel
theorem dL_law_142 : decode cL_law 142 = .ok (.ifCond .eq 7, 3) := by decide +kernel
theorem dL_law_145 : decode cL_law 145 = .ok (.iconst 1, 1) := by decide +kernel
theorem dL_law_146 : decode cL_law 146 = .ok (.goto 4, 3) := by decide +kernel
theorem dL_law_149 : decode cL_law 149 = .ok (.iconst 0, 1) := by decide +kernel
theorem dL_law_150 : decode cL_law 150 = .ok (.istore_n 3, 1) := by decide +kernel
theorem dL_law_151 : decode cL_law 151 = .ok (.iinc 4 1, 3) := by decide +kernel
theorem dL_law_154 : decode cL_law 154 = .ok (.goto (-58), 3) := by decide +kernel
theorem dL_law_157 : decode cL_law 157 = .ok (.iload_n 3, 1) := by decide +kernel
theorem dL_law_158 : decode cL_law 158 = .ok (.ifCond .eq 28, 3) := by decide +kernel
theorem dL_law_161 : decode cL_law 161 = .ok (.aload_n 1, 1) := by decide +kernel
theorem dL_law_162 : decode cL_law 162 = .ok (.invokestatic 105, 3) := by decide +kernel
theorem dL_law_165 : decode cL_law 165 = .ok (.ifCond .eq 21, 3) := by decide +kernel
theorem dL_law_168 : decode cL_law 168 = .ok (.aload_n 1, 1) := by decide +kernel
theorem dL_law_169 : decode cL_law 169 = .ok (.aload_n 2, 1) := by decide +kernel
theorem dL_law_170 : decode cL_law 170 = .ok (.aload_n 0, 1) := by decide +kernel
theorem dL_law_171 : decode cL_law 171 = .ok (.bipush 44, 2) := by decide +kernel
theorem dL_law_173 : decode cL_law 173 = .ok (.invokestatic 98, 3) := by decide +kernel
theorem dL_law_176 : decode cL_law 176 = .ok (.invokestatic 109, 3) := by decide +kernel
theorem dL_law_179 : decode cL_law 179 = .ok (.ifCond .eq 7, 3) := by decide +kernel
theorem dL_law_182 : decode cL_law 182 = .ok (.iconst 1, 1) := by decide +kernel
theorem dL_law_183 : decode cL_law 183 = .ok (.goto 4, 3) := by decide +kernel
theorem dL_law_186 : decode cL_law 186 = .ok (.iconst 0, 1) := by decide +kernel
theorem dL_law_187 : decode cL_law 187 = .ok (.ireturn, 1) := by decide +kernel
