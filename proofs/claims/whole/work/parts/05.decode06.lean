theorem d_LW_law_188 : decode code 188 = .ok (.aload_n 1, 1) := by decide +kernel
theorem d_LW_law_189 : decode code 189 = .ok (.aload_n 0, 1) := by decide +kernel
theorem d_LW_law_190 : decode code 190 = .ok (.iload 4, 2) := by decide +kernel
theorem d_LW_law_192 : decode code 192 = .ok (.iconst 1, 1) := by decide +kernel
theorem d_LW_law_193 : decode code 193 = .ok (.iadd, 1) := by decide +kernel
theorem d_LW_law_194 : decode code 194 = .ok (.iaload, 1) := by decide +kernel
theorem d_LW_law_195 : decode code 195 = .ok (.aload_n 0, 1) := by decide +kernel
theorem d_LW_law_196 : decode code 196 = .ok (.iload 4, 2) := by decide +kernel
theorem d_LW_law_198 : decode code 198 = .ok (.iconst 2, 1) := by decide +kernel
theorem d_LW_law_199 : decode code 199 = .ok (.iadd, 1) := by decide +kernel
theorem d_LW_law_200 : decode code 200 = .ok (.iaload, 1) := by decide +kernel
theorem d_LW_law_201 : decode code 201 = .ok (.aload_n 3, 1) := by decide +kernel
theorem d_LW_law_202 : decode code 202 = .ok (.invokestatic 67, 3) := by decide +kernel
theorem d_LW_law_205 : decode code 205 = .ok (.istore 5, 2) := by decide +kernel
theorem d_LW_law_207 : decode code 207 = .ok (.aload_n 2, 1) := by decide +kernel
theorem d_LW_law_208 : decode code 208 = .ok (.aload_n 0, 1) := by decide +kernel
theorem d_LW_law_209 : decode code 209 = .ok (.iload 4, 2) := by decide +kernel
theorem d_LW_law_211 : decode code 211 = .ok (.iconst 1, 1) := by decide +kernel
theorem d_LW_law_212 : decode code 212 = .ok (.iadd, 1) := by decide +kernel
theorem d_LW_law_213 : decode code 213 = .ok (.iaload, 1) := by decide +kernel
theorem d_LW_law_214 : decode code 214 = .ok (.aload_n 0, 1) := by decide +kernel
theorem d_LW_law_215 : decode code 215 = .ok (.iload 4, 2) := by decide +kernel
theorem d_LW_law_217 : decode code 217 = .ok (.iconst 2, 1) := by decide +kernel
theorem d_LW_law_218 : decode code 218 = .ok (.iadd, 1) := by decide +kernel
theorem d_LW_law_219 : decode code 219 = .ok (.iaload, 1) := by decide +kernel
theorem d_LW_law_220 : decode code 220 = .ok (.invokevirtual 70, 3) := by decide +kernel
theorem d_LW_law_223 : decode code 223 = .ok (.istore 6, 2) := by decide +kernel
theorem d_LW_law_225 : decode code 225 = .ok (.aload_n 2, 1) := by decide +kernel
theorem d_LW_law_226 : decode code 226 = .ok (.invokevirtual 59, 3) := by decide +kernel
theorem d_LW_law_229 : decode code 229 = .ok (.iload 5, 2) := by decide +kernel
theorem d_LW_law_231 : decode code 231 = .ok (.if_icmp .eq 5, 3) := by decide +kernel
theorem d_LW_law_234 : decode code 234 = .ok (.iconst 0, 1) := by decide +kernel
theorem d_LW_law_235 : decode code 235 = .ok (.ireturn, 1) := by decide +kernel
theorem d_LW_law_236 : decode code 236 = .ok (.iload 5, 2) := by decide +kernel
theorem d_LW_law_238 : decode code 238 = .ok (.ifCond .ne 15, 3) := by decide +kernel
theorem d_LW_law_241 : decode code 241 = .ok (.aload_n 3, 1) := by decide +kernel
theorem d_LW_law_242 : decode code 242 = .ok (.iconst 0, 1) := by decide +kernel
theorem d_LW_law_243 : decode code 243 = .ok (.laload, 1) := by decide +kernel
theorem d_LW_law_244 : decode code 244 = .ok (.iload 6, 2) := by decide +kernel
theorem d_LW_law_246 : decode code 246 = .ok (.i2l, 1) := by decide +kernel
theorem d_LW_law_247 : decode code 247 = .ok (.lcmp, 1) := by decide +kernel
theorem d_LW_law_248 : decode code 248 = .ok (.ifCond .eq 5, 3) := by decide +kernel
theorem d_LW_law_251 : decode code 251 = .ok (.iconst 0, 1) := by decide +kernel
theorem d_LW_law_252 : decode code 252 = .ok (.ireturn, 1) := by decide +kernel
theorem d_LW_law_253 : decode code 253 = .ok (.goto 436, 3) := by decide +kernel
theorem d_LW_law_256 : decode code 256 = .ok (.aload_n 1, 1) := by decide +kernel
theorem d_LW_law_257 : decode code 257 = .ok (.aload_n 0, 1) := by decide +kernel
theorem d_LW_law_258 : decode code 258 = .ok (.iload 4, 2) := by decide +kernel
theorem d_LW_law_260 : decode code 260 = .ok (.iconst 1, 1) := by decide +kernel
theorem d_LW_law_261 : decode code 261 = .ok (.iadd, 1) := by decide +kernel
theorem d_LW_law_262 : decode code 262 = .ok (.iaload, 1) := by decide +kernel
theorem d_LW_law_263 : decode code 263 = .ok (.aload_n 3, 1) := by decide +kernel
theorem d_LW_law_264 : decode code 264 = .ok (.invokestatic 71, 3) := by decide +kernel
theorem d_LW_law_267 : decode code 267 = .ok (.istore 5, 2) := by decide +kernel
theorem d_LW_law_269 : decode code 269 = .ok (.aload_n 2, 1) := by decide +kernel
theorem d_LW_law_270 : decode code 270 = .ok (.aload_n 0, 1) := by decide +kernel
theorem d_LW_law_271 : decode code 271 = .ok (.iload 4, 2) := by decide +kernel
theorem d_LW_law_273 : decode code 273 = .ok (.iconst 1, 1) := by decide +kernel
theorem d_LW_law_274 : decode code 274 = .ok (.iadd, 1) := by decide +kernel
theorem d_LW_law_275 : decode code 275 = .ok (.iaload, 1) := by decide +kernel
theorem d_LW_law_276 : decode code 276 = .ok (.invokevirtual 74, 3) := by decide +kernel
theorem d_LW_law_279 : decode code 279 = .ok (.istore 6, 2) := by decide +kernel
theorem d_LW_law_281 : decode code 281 = .ok (.aload_n 2, 1) := by decide +kernel
theorem d_LW_law_282 : decode code 282 = .ok (.invokevirtual 59, 3) := by decide +kernel
theorem d_LW_law_285 : decode code 285 = .ok (.iload 5, 2) := by decide +kernel
theorem d_LW_law_287 : decode code 287 = .ok (.if_icmp .eq 5, 3) := by decide +kernel
theorem d_LW_law_290 : decode code 290 = .ok (.iconst 0, 1) := by decide +kernel
theorem d_LW_law_291 : decode code 291 = .ok (.ireturn, 1) := by decide +kernel
theorem d_LW_law_292 : decode code 292 = .ok (.iload 5, 2) := by decide +kernel
theorem d_LW_law_294 : decode code 294 = .ok (.ifCond .ne 15, 3) := by decide +kernel
theorem d_LW_law_297 : decode code 297 = .ok (.aload_n 3, 1) := by decide +kernel
theorem d_LW_law_298 : decode code 298 = .ok (.iconst 0, 1) := by decide +kernel
theorem d_LW_law_299 : decode code 299 = .ok (.laload, 1) := by decide +kernel
theorem d_LW_law_300 : decode code 300 = .ok (.iload 6, 2) := by decide +kernel
theorem d_LW_law_302 : decode code 302 = .ok (.i2l, 1) := by decide +kernel
theorem d_LW_law_303 : decode code 303 = .ok (.lcmp, 1) := by decide +kernel
theorem d_LW_law_304 : decode code 304 = .ok (.ifCond .eq 5, 3) := by decide +kernel
theorem d_LW_law_307 : decode code 307 = .ok (.iconst 0, 1) := by decide +kernel
theorem d_LW_law_308 : decode code 308 = .ok (.ireturn, 1) := by decide +kernel
theorem d_LW_law_309 : decode code 309 = .ok (.goto 380, 3) := by decide +kernel
theorem d_LW_law_312 : decode code 312 = .ok (.aload_n 1, 1) := by decide +kernel
theorem d_LW_law_313 : decode code 313 = .ok (.aload_n 0, 1) := by decide +kernel
theorem d_LW_law_314 : decode code 314 = .ok (.iload 4, 2) := by decide +kernel
theorem d_LW_law_316 : decode code 316 = .ok (.iconst 1, 1) := by decide +kernel
theorem d_LW_law_317 : decode code 317 = .ok (.iadd, 1) := by decide +kernel
theorem d_LW_law_318 : decode code 318 = .ok (.iaload, 1) := by decide +kernel
theorem d_LW_law_319 : decode code 319 = .ok (.aload_n 0, 1) := by decide +kernel
theorem d_LW_law_320 : decode code 320 = .ok (.iload 4, 2) := by decide +kernel
theorem d_LW_law_322 : decode code 322 = .ok (.iconst 2, 1) := by decide +kernel
theorem d_LW_law_323 : decode code 323 = .ok (.iadd, 1) := by decide +kernel
theorem d_LW_law_324 : decode code 324 = .ok (.iaload, 1) := by decide +kernel
theorem d_LW_law_325 : decode code 325 = .ok (.aload_n 3, 1) := by decide +kernel
theorem d_LW_law_326 : decode code 326 = .ok (.invokestatic 75, 3) := by decide +kernel
theorem d_LW_law_329 : decode code 329 = .ok (.istore 5, 2) := by decide +kernel
theorem d_LW_law_331 : decode code 331 = .ok (.aload_n 2, 1) := by decide +kernel
theorem d_LW_law_332 : decode code 332 = .ok (.aload_n 0, 1) := by decide +kernel
theorem d_LW_law_333 : decode code 333 = .ok (.iload 4, 2) := by decide +kernel
theorem d_LW_law_335 : decode code 335 = .ok (.iconst 1, 1) := by decide +kernel
theorem d_LW_law_336 : decode code 336 = .ok (.iadd, 1) := by decide +kernel
theorem d_LW_law_337 : decode code 337 = .ok (.iaload, 1) := by decide +kernel
theorem d_LW_law_338 : decode code 338 = .ok (.aload_n 0, 1) := by decide +kernel
theorem d_LW_law_339 : decode code 339 = .ok (.iload 4, 2) := by decide +kernel
theorem d_LW_law_341 : decode code 341 = .ok (.iconst 2, 1) := by decide +kernel
theorem d_LW_law_342 : decode code 342 = .ok (.iadd, 1) := by decide +kernel
theorem d_LW_law_343 : decode code 343 = .ok (.iaload, 1) := by decide +kernel
theorem d_LW_law_344 : decode code 344 = .ok (.invokevirtual 77, 3) := by decide +kernel
theorem d_LW_law_347 : decode code 347 = .ok (.istore 6, 2) := by decide +kernel
theorem d_LW_law_349 : decode code 349 = .ok (.aload_n 2, 1) := by decide +kernel
theorem d_LW_law_350 : decode code 350 = .ok (.invokevirtual 59, 3) := by decide +kernel
theorem d_LW_law_353 : decode code 353 = .ok (.iload 5, 2) := by decide +kernel
theorem d_LW_law_355 : decode code 355 = .ok (.if_icmp .eq 5, 3) := by decide +kernel
theorem d_LW_law_358 : decode code 358 = .ok (.iconst 0, 1) := by decide +kernel
theorem d_LW_law_359 : decode code 359 = .ok (.ireturn, 1) := by decide +kernel
theorem d_LW_law_360 : decode code 360 = .ok (.iload 5, 2) := by decide +kernel
theorem d_LW_law_362 : decode code 362 = .ok (.ifCond .ne 15, 3) := by decide +kernel
theorem d_LW_law_365 : decode code 365 = .ok (.aload_n 3, 1) := by decide +kernel
theorem d_LW_law_366 : decode code 366 = .ok (.iconst 0, 1) := by decide +kernel
theorem d_LW_law_367 : decode code 367 = .ok (.laload, 1) := by decide +kernel
theorem d_LW_law_368 : decode code 368 = .ok (.iload 6, 2) := by decide +kernel
theorem d_LW_law_370 : decode code 370 = .ok (.i2l, 1) := by decide +kernel
theorem d_LW_law_371 : decode code 371 = .ok (.lcmp, 1) := by decide +kernel
theorem d_LW_law_372 : decode code 372 = .ok (.ifCond .eq 5, 3) := by decide +kernel
theorem d_LW_law_375 : decode code 375 = .ok (.iconst 0, 1) := by decide +kernel
theorem d_LW_law_376 : decode code 376 = .ok (.ireturn, 1) := by decide +kernel
theorem d_LW_law_377 : decode code 377 = .ok (.goto 312, 3) := by decide +kernel
theorem d_LW_law_380 : decode code 380 = .ok (.aload_n 1, 1) := by decide +kernel
theorem d_LW_law_381 : decode code 381 = .ok (.invokevirtual 78, 3) := by decide +kernel
theorem d_LW_law_384 : decode code 384 = .ok (.aload_n 2, 1) := by decide +kernel
theorem d_LW_law_385 : decode code 385 = .ok (.invokevirtual 81, 3) := by decide +kernel
theorem d_LW_law_388 : decode code 388 = .ok (.if_icmp .eq 301, 3) := by decide +kernel
theorem d_LW_law_391 : decode code 391 = .ok (.iconst 0, 1) := by decide +kernel
theorem d_LW_law_392 : decode code 392 = .ok (.ireturn, 1) := by decide +kernel
theorem d_LW_law_393 : decode code 393 = .ok (.aload_n 1, 1) := by decide +kernel
theorem d_LW_law_394 : decode code 394 = .ok (.aload_n 0, 1) := by decide +kernel
theorem d_LW_law_395 : decode code 395 = .ok (.iload 4, 2) := by decide +kernel
theorem d_LW_law_397 : decode code 397 = .ok (.iconst 1, 1) := by decide +kernel
theorem d_LW_law_398 : decode code 398 = .ok (.iadd, 1) := by decide +kernel
theorem d_LW_law_399 : decode code 399 = .ok (.iaload, 1) := by decide +kernel
theorem d_LW_law_400 : decode code 400 = .ok (.aload_n 3, 1) := by decide +kernel
theorem d_LW_law_401 : decode code 401 = .ok (.invokestatic 82, 3) := by decide +kernel
theorem d_LW_law_404 : decode code 404 = .ok (.istore 5, 2) := by decide +kernel
theorem d_LW_law_406 : decode code 406 = .ok (.aload_n 2, 1) := by decide +kernel
theorem d_LW_law_407 : decode code 407 = .ok (.aload_n 0, 1) := by decide +kernel
theorem d_LW_law_408 : decode code 408 = .ok (.iload 4, 2) := by decide +kernel
theorem d_LW_law_410 : decode code 410 = .ok (.iconst 1, 1) := by decide +kernel
theorem d_LW_law_411 : decode code 411 = .ok (.iadd, 1) := by decide +kernel
theorem d_LW_law_412 : decode code 412 = .ok (.iaload, 1) := by decide +kernel
theorem d_LW_law_413 : decode code 413 = .ok (.invokevirtual 84, 3) := by decide +kernel
theorem d_LW_law_416 : decode code 416 = .ok (.istore 6, 2) := by decide +kernel
theorem d_LW_law_418 : decode code 418 = .ok (.aload_n 2, 1) := by decide +kernel
theorem d_LW_law_419 : decode code 419 = .ok (.invokevirtual 59, 3) := by decide +kernel
theorem d_LW_law_422 : decode code 422 = .ok (.iload 5, 2) := by decide +kernel
theorem d_LW_law_424 : decode code 424 = .ok (.if_icmp .eq 5, 3) := by decide +kernel
theorem d_LW_law_427 : decode code 427 = .ok (.iconst 0, 1) := by decide +kernel
theorem d_LW_law_428 : decode code 428 = .ok (.ireturn, 1) := by decide +kernel
theorem d_LW_law_429 : decode code 429 = .ok (.iload 5, 2) := by decide +kernel
theorem d_LW_law_431 : decode code 431 = .ok (.ifCond .ne 15, 3) := by decide +kernel
theorem d_LW_law_434 : decode code 434 = .ok (.aload_n 3, 1) := by decide +kernel
theorem d_LW_law_435 : decode code 435 = .ok (.iconst 0, 1) := by decide +kernel
theorem d_LW_law_436 : decode code 436 = .ok (.laload, 1) := by decide +kernel
theorem d_LW_law_437 : decode code 437 = .ok (.iload 6, 2) := by decide +kernel
theorem d_LW_law_439 : decode code 439 = .ok (.i2l, 1) := by decide +kernel
theorem d_LW_law_440 : decode code 440 = .ok (.lcmp, 1) := by decide +kernel
theorem d_LW_law_441 : decode code 441 = .ok (.ifCond .eq 5, 3) := by decide +kernel
theorem d_LW_law_444 : decode code 444 = .ok (.iconst 0, 1) := by decide +kernel
theorem d_LW_law_445 : decode code 445 = .ok (.ireturn, 1) := by decide +kernel
theorem d_LW_law_446 : decode code 446 = .ok (.goto 243, 3) := by decide +kernel
theorem d_LW_law_449 : decode code 449 = .ok (.aload_n 1, 1) := by decide +kernel
theorem d_LW_law_450 : decode code 450 = .ok (.aload_n 0, 1) := by decide +kernel
theorem d_LW_law_451 : decode code 451 = .ok (.iload 4, 2) := by decide +kernel
theorem d_LW_law_453 : decode code 453 = .ok (.iconst 1, 1) := by decide +kernel
theorem d_LW_law_454 : decode code 454 = .ok (.iadd, 1) := by decide +kernel
theorem d_LW_law_455 : decode code 455 = .ok (.iaload, 1) := by decide +kernel
theorem d_LW_law_456 : decode code 456 = .ok (.aload_n 0, 1) := by decide +kernel
theorem d_LW_law_457 : decode code 457 = .ok (.iload 4, 2) := by decide +kernel
theorem d_LW_law_459 : decode code 459 = .ok (.iconst 2, 1) := by decide +kernel
theorem d_LW_law_460 : decode code 460 = .ok (.iadd, 1) := by decide +kernel
theorem d_LW_law_461 : decode code 461 = .ok (.iaload, 1) := by decide +kernel
theorem d_LW_law_462 : decode code 462 = .ok (.invokestatic 85, 3) := by decide +kernel
theorem d_LW_law_465 : decode code 465 = .ok (.istore 5, 2) := by decide +kernel
theorem d_LW_law_467 : decode code 467 = .ok (.aload_n 2, 1) := by decide +kernel
theorem d_LW_law_468 : decode code 468 = .ok (.aload_n 0, 1) := by decide +kernel
theorem d_LW_law_469 : decode code 469 = .ok (.iload 4, 2) := by decide +kernel
theorem d_LW_law_471 : decode code 471 = .ok (.iconst 1, 1) := by decide +kernel
theorem d_LW_law_472 : decode code 472 = .ok (.iadd, 1) := by decide +kernel
theorem d_LW_law_473 : decode code 473 = .ok (.iaload, 1) := by decide +kernel
theorem d_LW_law_474 : decode code 474 = .ok (.aload_n 0, 1) := by decide +kernel
theorem d_LW_law_475 : decode code 475 = .ok (.iload 4, 2) := by decide +kernel
theorem d_LW_law_477 : decode code 477 = .ok (.iconst 2, 1) := by decide +kernel
theorem d_LW_law_478 : decode code 478 = .ok (.iadd, 1) := by decide +kernel
theorem d_LW_law_479 : decode code 479 = .ok (.iaload, 1) := by decide +kernel
theorem d_LW_law_480 : decode code 480 = .ok (.invokevirtual 87, 3) := by decide +kernel
theorem d_LW_law_483 : decode code 483 = .ok (.aload_n 2, 1) := by decide +kernel
theorem d_LW_law_484 : decode code 484 = .ok (.invokevirtual 59, 3) := by decide +kernel
theorem d_LW_law_487 : decode code 487 = .ok (.iload 5, 2) := by decide +kernel
theorem d_LW_law_489 : decode code 489 = .ok (.if_icmp .eq 5, 3) := by decide +kernel
theorem d_LW_law_492 : decode code 492 = .ok (.iconst 0, 1) := by decide +kernel
theorem d_LW_law_493 : decode code 493 = .ok (.ireturn, 1) := by decide +kernel
theorem d_LW_law_494 : decode code 494 = .ok (.goto 195, 3) := by decide +kernel
theorem d_LW_law_497 : decode code 497 = .ok (.aload_n 1, 1) := by decide +kernel
theorem d_LW_law_498 : decode code 498 = .ok (.aload_n 0, 1) := by decide +kernel
theorem d_LW_law_499 : decode code 499 = .ok (.iload 4, 2) := by decide +kernel
theorem d_LW_law_501 : decode code 501 = .ok (.iconst 1, 1) := by decide +kernel
theorem d_LW_law_502 : decode code 502 = .ok (.iadd, 1) := by decide +kernel
theorem d_LW_law_503 : decode code 503 = .ok (.iaload, 1) := by decide +kernel
theorem d_LW_law_504 : decode code 504 = .ok (.aload_n 3, 1) := by decide +kernel
theorem d_LW_law_505 : decode code 505 = .ok (.invokestatic 88, 3) := by decide +kernel
theorem d_LW_law_508 : decode code 508 = .ok (.istore 5, 2) := by decide +kernel
theorem d_LW_law_510 : decode code 510 = .ok (.aload_n 2, 1) := by decide +kernel
theorem d_LW_law_511 : decode code 511 = .ok (.aload_n 0, 1) := by decide +kernel
theorem d_LW_law_512 : decode code 512 = .ok (.iload 4, 2) := by decide +kernel
theorem d_LW_law_514 : decode code 514 = .ok (.iconst 1, 1) := by decide +kernel
theorem d_LW_law_515 : decode code 515 = .ok (.iadd, 1) := by decide +kernel
theorem d_LW_law_516 : decode code 516 = .ok (.iaload, 1) := by decide +kernel
theorem d_LW_law_517 : decode code 517 = .ok (.invokevirtual 90, 3) := by decide +kernel
theorem d_LW_law_520 : decode code 520 = .ok (.istore 6, 2) := by decide +kernel
theorem d_LW_law_522 : decode code 522 = .ok (.aload_n 2, 1) := by decide +kernel
theorem d_LW_law_523 : decode code 523 = .ok (.invokevirtual 59, 3) := by decide +kernel
theorem d_LW_law_526 : decode code 526 = .ok (.iload 5, 2) := by decide +kernel
theorem d_LW_law_528 : decode code 528 = .ok (.if_icmp .eq 5, 3) := by decide +kernel
theorem d_LW_law_531 : decode code 531 = .ok (.iconst 0, 1) := by decide +kernel
theorem d_LW_law_532 : decode code 532 = .ok (.ireturn, 1) := by decide +kernel
theorem d_LW_law_533 : decode code 533 = .ok (.iload 5, 2) := by decide +kernel
theorem d_LW_law_535 : decode code 535 = .ok (.ifCond .ne 15, 3) := by decide +kernel
theorem d_LW_law_538 : decode code 538 = .ok (.aload_n 3, 1) := by decide +kernel
theorem d_LW_law_539 : decode code 539 = .ok (.iconst 0, 1) := by decide +kernel
theorem d_LW_law_540 : decode code 540 = .ok (.laload, 1) := by decide +kernel
theorem d_LW_law_541 : decode code 541 = .ok (.iload 6, 2) := by decide +kernel
theorem d_LW_law_543 : decode code 543 = .ok (.i2l, 1) := by decide +kernel
theorem d_LW_law_544 : decode code 544 = .ok (.lcmp, 1) := by decide +kernel
theorem d_LW_law_545 : decode code 545 = .ok (.ifCond .eq 5, 3) := by decide +kernel
theorem d_LW_law_548 : decode code 548 = .ok (.iconst 0, 1) := by decide +kernel
theorem d_LW_law_549 : decode code 549 = .ok (.ireturn, 1) := by decide +kernel
theorem d_LW_law_550 : decode code 550 = .ok (.goto 139, 3) := by decide +kernel
theorem d_LW_law_553 : decode code 553 = .ok (.aload_n 1, 1) := by decide +kernel
theorem d_LW_law_554 : decode code 554 = .ok (.invokevirtual 91, 3) := by decide +kernel
theorem d_LW_law_557 : decode code 557 = .ok (.aload_n 2, 1) := by decide +kernel
theorem d_LW_law_558 : decode code 558 = .ok (.invokevirtual 94, 3) := by decide +kernel
theorem d_LW_law_561 : decode code 561 = .ok (.if_icmp .eq 128, 3) := by decide +kernel
theorem d_LW_law_564 : decode code 564 = .ok (.iconst 0, 1) := by decide +kernel
theorem d_LW_law_565 : decode code 565 = .ok (.ireturn, 1) := by decide +kernel
theorem d_LW_law_566 : decode code 566 = .ok (.aload_n 1, 1) := by decide +kernel
theorem d_LW_law_567 : decode code 567 = .ok (.aload_n 0, 1) := by decide +kernel
theorem d_LW_law_568 : decode code 568 = .ok (.iload 4, 2) := by decide +kernel
theorem d_LW_law_570 : decode code 570 = .ok (.iconst 1, 1) := by decide +kernel
theorem d_LW_law_571 : decode code 571 = .ok (.iadd, 1) := by decide +kernel
theorem d_LW_law_572 : decode code 572 = .ok (.iaload, 1) := by decide +kernel
theorem d_LW_law_573 : decode code 573 = .ok (.aload_n 3, 1) := by decide +kernel
theorem d_LW_law_574 : decode code 574 = .ok (.invokestatic 95, 3) := by decide +kernel
theorem d_LW_law_577 : decode code 577 = .ok (.istore 5, 2) := by decide +kernel
theorem d_LW_law_579 : decode code 579 = .ok (.aload_n 2, 1) := by decide +kernel
theorem d_LW_law_580 : decode code 580 = .ok (.aload_n 0, 1) := by decide +kernel
theorem d_LW_law_581 : decode code 581 = .ok (.iload 4, 2) := by decide +kernel
theorem d_LW_law_583 : decode code 583 = .ok (.iconst 1, 1) := by decide +kernel
theorem d_LW_law_584 : decode code 584 = .ok (.iadd, 1) := by decide +kernel
theorem d_LW_law_585 : decode code 585 = .ok (.iaload, 1) := by decide +kernel
theorem d_LW_law_586 : decode code 586 = .ok (.invokevirtual 97, 3) := by decide +kernel
theorem d_LW_law_589 : decode code 589 = .ok (.istore 6, 2) := by decide +kernel
theorem d_LW_law_591 : decode code 591 = .ok (.aload_n 2, 1) := by decide +kernel
theorem d_LW_law_592 : decode code 592 = .ok (.invokevirtual 59, 3) := by decide +kernel
theorem d_LW_law_595 : decode code 595 = .ok (.iload 5, 2) := by decide +kernel
theorem d_LW_law_597 : decode code 597 = .ok (.if_icmp .eq 5, 3) := by decide +kernel
theorem d_LW_law_600 : decode code 600 = .ok (.iconst 0, 1) := by decide +kernel
theorem d_LW_law_601 : decode code 601 = .ok (.ireturn, 1) := by decide +kernel
theorem d_LW_law_602 : decode code 602 = .ok (.iload 5, 2) := by decide +kernel
theorem d_LW_law_604 : decode code 604 = .ok (.ifCond .ne 15, 3) := by decide +kernel
theorem d_LW_law_607 : decode code 607 = .ok (.aload_n 3, 1) := by decide +kernel
theorem d_LW_law_608 : decode code 608 = .ok (.iconst 0, 1) := by decide +kernel
theorem d_LW_law_609 : decode code 609 = .ok (.laload, 1) := by decide +kernel
theorem d_LW_law_610 : decode code 610 = .ok (.iload 6, 2) := by decide +kernel
theorem d_LW_law_612 : decode code 612 = .ok (.i2l, 1) := by decide +kernel
theorem d_LW_law_613 : decode code 613 = .ok (.lcmp, 1) := by decide +kernel
theorem d_LW_law_614 : decode code 614 = .ok (.ifCond .eq 5, 3) := by decide +kernel
theorem d_LW_law_617 : decode code 617 = .ok (.iconst 0, 1) := by decide +kernel
theorem d_LW_law_618 : decode code 618 = .ok (.ireturn, 1) := by decide +kernel
theorem d_LW_law_619 : decode code 619 = .ok (.goto 70, 3) := by decide +kernel
theorem d_LW_law_622 : decode code 622 = .ok (.aload_n 1, 1) := by decide +kernel
theorem d_LW_law_623 : decode code 623 = .ok (.aload_n 0, 1) := by decide +kernel
theorem d_LW_law_624 : decode code 624 = .ok (.iload 4, 2) := by decide +kernel
theorem d_LW_law_626 : decode code 626 = .ok (.iconst 1, 1) := by decide +kernel
theorem d_LW_law_627 : decode code 627 = .ok (.iadd, 1) := by decide +kernel
theorem d_LW_law_628 : decode code 628 = .ok (.iaload, 1) := by decide +kernel
theorem d_LW_law_629 : decode code 629 = .ok (.aload_n 3, 1) := by decide +kernel
theorem d_LW_law_630 : decode code 630 = .ok (.invokestatic 98, 3) := by decide +kernel
theorem d_LW_law_633 : decode code 633 = .ok (.istore 5, 2) := by decide +kernel
theorem d_LW_law_635 : decode code 635 = .ok (.aload_n 2, 1) := by decide +kernel
theorem d_LW_law_636 : decode code 636 = .ok (.aload_n 0, 1) := by decide +kernel
theorem d_LW_law_637 : decode code 637 = .ok (.iload 4, 2) := by decide +kernel
theorem d_LW_law_639 : decode code 639 = .ok (.iconst 1, 1) := by decide +kernel
theorem d_LW_law_640 : decode code 640 = .ok (.iadd, 1) := by decide +kernel
theorem d_LW_law_641 : decode code 641 = .ok (.iaload, 1) := by decide +kernel
theorem d_LW_law_642 : decode code 642 = .ok (.invokevirtual 100, 3) := by decide +kernel
theorem d_LW_law_645 : decode code 645 = .ok (.istore 6, 2) := by decide +kernel
theorem d_LW_law_647 : decode code 647 = .ok (.aload_n 2, 1) := by decide +kernel
theorem d_LW_law_648 : decode code 648 = .ok (.invokevirtual 59, 3) := by decide +kernel
theorem d_LW_law_651 : decode code 651 = .ok (.iload 5, 2) := by decide +kernel
theorem d_LW_law_653 : decode code 653 = .ok (.if_icmp .eq 5, 3) := by decide +kernel
theorem d_LW_law_656 : decode code 656 = .ok (.iconst 0, 1) := by decide +kernel
theorem d_LW_law_657 : decode code 657 = .ok (.ireturn, 1) := by decide +kernel
theorem d_LW_law_658 : decode code 658 = .ok (.iload 5, 2) := by decide +kernel
theorem d_LW_law_660 : decode code 660 = .ok (.ifCond .ne 15, 3) := by decide +kernel
theorem d_LW_law_663 : decode code 663 = .ok (.aload_n 3, 1) := by decide +kernel
theorem d_LW_law_664 : decode code 664 = .ok (.iconst 0, 1) := by decide +kernel
theorem d_LW_law_665 : decode code 665 = .ok (.laload, 1) := by decide +kernel
theorem d_LW_law_666 : decode code 666 = .ok (.iload 6, 2) := by decide +kernel
theorem d_LW_law_668 : decode code 668 = .ok (.i2l, 1) := by decide +kernel
theorem d_LW_law_669 : decode code 669 = .ok (.lcmp, 1) := by decide +kernel
theorem d_LW_law_670 : decode code 670 = .ok (.ifCond .eq 5, 3) := by decide +kernel
theorem d_LW_law_673 : decode code 673 = .ok (.iconst 0, 1) := by decide +kernel
theorem d_LW_law_674 : decode code 674 = .ok (.ireturn, 1) := by decide +kernel
theorem d_LW_law_675 : decode code 675 = .ok (.goto 14, 3) := by decide +kernel
theorem d_LW_law_678 : decode code 678 = .ok (.aload_n 1, 1) := by decide +kernel
theorem d_LW_law_679 : decode code 679 = .ok (.invokevirtual 101, 3) := by decide +kernel
theorem d_LW_law_682 : decode code 682 = .ok (.aload_n 2, 1) := by decide +kernel
theorem d_LW_law_683 : decode code 683 = .ok (.invokevirtual 104, 3) := by decide +kernel
theorem d_LW_law_686 : decode code 686 = .ok (.goto 3, 3) := by decide +kernel
theorem d_LW_law_689 : decode code 689 = .ok (.iinc 4 3, 3) := by decide +kernel
theorem d_LW_law_692 : decode code 692 = .ok (.goto (-669), 3) := by decide +kernel
theorem d_LW_law_695 : decode code 695 = .ok (.iconst 1, 1) := by decide +kernel
theorem d_LW_law_696 : decode code 696 = .ok (.ireturn, 1) := by decide +kernel
theorem d_JM_floorMod_0 : decode b_JM_floorMod 0 = .ok (.iload_n 0, 1) := by decide +kernel
theorem d_JM_floorMod_1 : decode b_JM_floorMod 1 = .ok (.iload_n 1, 1) := by decide +kernel
theorem d_JM_floorMod_2 : decode b_JM_floorMod 2 = .ok (.irem, 1) := by decide +kernel
theorem d_JM_floorMod_3 : decode b_JM_floorMod 3 = .ok (.istore_n 2, 1) := by decide +kernel
theorem d_JM_floorMod_4 : decode b_JM_floorMod 4 = .ok (.iload_n 0, 1) := by decide +kernel
theorem d_JM_floorMod_5 : decode b_JM_floorMod 5 = .ok (.iload_n 1, 1) := by decide +kernel
theorem d_JM_floorMod_6 : decode b_JM_floorMod 6 = .ok (.ixor, 1) := by decide +kernel
theorem d_JM_floorMod_7 : decode b_JM_floorMod 7 = .ok (.ifCond .ge 11, 3) := by decide +kernel
theorem d_JM_floorMod_10 : decode b_JM_floorMod 10 = .ok (.iload_n 2, 1) := by decide +kernel
theorem d_JM_floorMod_11 : decode b_JM_floorMod 11 = .ok (.ifCond .eq 7, 3) := by decide +kernel
theorem d_JM_floorMod_14 : decode b_JM_floorMod 14 = .ok (.iload_n 2, 1) := by decide +kernel
theorem d_JM_floorMod_15 : decode b_JM_floorMod 15 = .ok (.iload_n 1, 1) := by decide +kernel
theorem d_JM_floorMod_16 : decode b_JM_floorMod 16 = .ok (.iadd, 1) := by decide +kernel
theorem d_JM_floorMod_17 : decode b_JM_floorMod 17 = .ok (.ireturn, 1) := by decide +kernel
theorem d_JM_floorMod_18 : decode b_JM_floorMod 18 = .ok (.iload_n 2, 1) := by decide +kernel
theorem d_JM_floorMod_19 : decode b_JM_floorMod 19 = .ok (.ireturn, 1) := by decide +kernel
theorem d_JM_max_0 : decode b_JM_max 0 = .ok (.iload_n 0, 1) := by decide +kernel
theorem d_JM_max_1 : decode b_JM_max 1 = .ok (.iload_n 1, 1) := by decide +kernel
theorem d_JM_max_2 : decode b_JM_max 2 = .ok (.if_icmp .lt 7, 3) := by decide +kernel
theorem d_JM_max_5 : decode b_JM_max 5 = .ok (.iload_n 0, 1) := by decide +kernel
theorem d_JM_max_6 : decode b_JM_max 6 = .ok (.goto 4, 3) := by decide +kernel
theorem d_JM_max_9 : decode b_JM_max 9 = .ok (.iload_n 1, 1) := by decide +kernel
theorem d_JM_max_10 : decode b_JM_max 10 = .ok (.ireturn, 1) := by decide +kernel
theorem d_JM_min_0 : decode b_JM_min 0 = .ok (.iload_n 0, 1) := by decide +kernel
theorem d_JM_min_1 : decode b_JM_min 1 = .ok (.iload_n 1, 1) := by decide +kernel
theorem d_JM_min_2 : decode b_JM_min 2 = .ok (.if_icmp .gt 7, 3) := by decide +kernel
theorem d_JM_min_5 : decode b_JM_min 5 = .ok (.iload_n 0, 1) := by decide +kernel
theorem d_JM_min_6 : decode b_JM_min 6 = .ok (.goto 4, 3) := by decide +kernel
theorem d_JM_min_9 : decode b_JM_min 9 = .ok (.iload_n 1, 1) := by decide +kernel
theorem d_JM_min_10 : decode b_JM_min 10 = .ok (.ireturn, 1) := by decide +kernel
