theorem d_MD_init_161 : decode b_MD_init 161 = .ok (.dup, 1) := by decide +kernel
theorem d_MD_init_162 : decode b_MD_init 162 = .ok (.iconst 2, 1) := by decide +kernel
theorem d_MD_init_163 : decode b_MD_init 163 = .ok (.ldc 64, 2) := by decide +kernel
theorem d_MD_init_165 : decode b_MD_init 165 = .ok (.iastore, 1) := by decide +kernel
theorem d_MD_init_166 : decode b_MD_init 166 = .ok (.dup, 1) := by decide +kernel
theorem d_MD_init_167 : decode b_MD_init 167 = .ok (.iconst 3, 1) := by decide +kernel
theorem d_MD_init_168 : decode b_MD_init 168 = .ok (.ldc 65, 2) := by decide +kernel
theorem d_MD_init_170 : decode b_MD_init 170 = .ok (.iastore, 1) := by decide +kernel
theorem d_MD_init_171 : decode b_MD_init 171 = .ok (.dup, 1) := by decide +kernel
theorem d_MD_init_172 : decode b_MD_init 172 = .ok (.iconst 4, 1) := by decide +kernel
theorem d_MD_init_173 : decode b_MD_init 173 = .ok (.ldc 66, 2) := by decide +kernel
theorem d_MD_init_175 : decode b_MD_init 175 = .ok (.iastore, 1) := by decide +kernel
theorem d_MD_init_176 : decode b_MD_init 176 = .ok (.dup, 1) := by decide +kernel
theorem d_MD_init_177 : decode b_MD_init 177 = .ok (.iconst 5, 1) := by decide +kernel
theorem d_MD_init_178 : decode b_MD_init 178 = .ok (.ldc 67, 2) := by decide +kernel
theorem d_MD_init_180 : decode b_MD_init 180 = .ok (.iastore, 1) := by decide +kernel
theorem d_MD_init_181 : decode b_MD_init 181 = .ok (.dup, 1) := by decide +kernel
theorem d_MD_init_182 : decode b_MD_init 182 = .ok (.bipush 6, 2) := by decide +kernel
theorem d_MD_init_184 : decode b_MD_init 184 = .ok (.ldc 68, 2) := by decide +kernel
theorem d_MD_init_186 : decode b_MD_init 186 = .ok (.iastore, 1) := by decide +kernel
theorem d_MD_init_187 : decode b_MD_init 187 = .ok (.dup, 1) := by decide +kernel
theorem d_MD_init_188 : decode b_MD_init 188 = .ok (.bipush 7, 2) := by decide +kernel
theorem d_MD_init_190 : decode b_MD_init 190 = .ok (.ldc 69, 2) := by decide +kernel
theorem d_MD_init_192 : decode b_MD_init 192 = .ok (.iastore, 1) := by decide +kernel
theorem d_MD_init_193 : decode b_MD_init 193 = .ok (.dup, 1) := by decide +kernel
theorem d_MD_init_194 : decode b_MD_init 194 = .ok (.bipush 8, 2) := by decide +kernel
theorem d_MD_init_196 : decode b_MD_init 196 = .ok (.ldc 70, 2) := by decide +kernel
theorem d_MD_init_198 : decode b_MD_init 198 = .ok (.iastore, 1) := by decide +kernel
theorem d_MD_init_199 : decode b_MD_init 199 = .ok (.dup, 1) := by decide +kernel
theorem d_MD_init_200 : decode b_MD_init 200 = .ok (.bipush 9, 2) := by decide +kernel
theorem d_MD_init_202 : decode b_MD_init 202 = .ok (.ldc 71, 2) := by decide +kernel
theorem d_MD_init_204 : decode b_MD_init 204 = .ok (.iastore, 1) := by decide +kernel
theorem d_MD_init_205 : decode b_MD_init 205 = .ok (.dup, 1) := by decide +kernel
theorem d_MD_init_206 : decode b_MD_init 206 = .ok (.bipush 10, 2) := by decide +kernel
theorem d_MD_init_208 : decode b_MD_init 208 = .ok (.ldc 72, 2) := by decide +kernel
theorem d_MD_init_210 : decode b_MD_init 210 = .ok (.iastore, 1) := by decide +kernel
theorem d_MD_init_211 : decode b_MD_init 211 = .ok (.dup, 1) := by decide +kernel
theorem d_MD_init_212 : decode b_MD_init 212 = .ok (.bipush 11, 2) := by decide +kernel
theorem d_MD_init_214 : decode b_MD_init 214 = .ok (.ldc 73, 2) := by decide +kernel
theorem d_MD_init_216 : decode b_MD_init 216 = .ok (.iastore, 1) := by decide +kernel
theorem d_MD_init_217 : decode b_MD_init 217 = .ok (.dup, 1) := by decide +kernel
theorem d_MD_init_218 : decode b_MD_init 218 = .ok (.bipush 12, 2) := by decide +kernel
theorem d_MD_init_220 : decode b_MD_init 220 = .ok (.ldc 74, 2) := by decide +kernel
theorem d_MD_init_222 : decode b_MD_init 222 = .ok (.iastore, 1) := by decide +kernel
theorem d_MD_init_223 : decode b_MD_init 223 = .ok (.dup, 1) := by decide +kernel
theorem d_MD_init_224 : decode b_MD_init 224 = .ok (.bipush 13, 2) := by decide +kernel
theorem d_MD_init_226 : decode b_MD_init 226 = .ok (.ldc 75, 2) := by decide +kernel
theorem d_MD_init_228 : decode b_MD_init 228 = .ok (.iastore, 1) := by decide +kernel
theorem d_MD_init_229 : decode b_MD_init 229 = .ok (.dup, 1) := by decide +kernel
theorem d_MD_init_230 : decode b_MD_init 230 = .ok (.bipush 14, 2) := by decide +kernel
theorem d_MD_init_232 : decode b_MD_init 232 = .ok (.ldc 76, 2) := by decide +kernel
theorem d_MD_init_234 : decode b_MD_init 234 = .ok (.iastore, 1) := by decide +kernel
theorem d_MD_init_235 : decode b_MD_init 235 = .ok (.dup, 1) := by decide +kernel
theorem d_MD_init_236 : decode b_MD_init 236 = .ok (.bipush 15, 2) := by decide +kernel
theorem d_MD_init_238 : decode b_MD_init 238 = .ok (.ldc 77, 2) := by decide +kernel
theorem d_MD_init_240 : decode b_MD_init 240 = .ok (.iastore, 1) := by decide +kernel
theorem d_MD_init_241 : decode b_MD_init 241 = .ok (.dup, 1) := by decide +kernel
theorem d_MD_init_242 : decode b_MD_init 242 = .ok (.bipush 16, 2) := by decide +kernel
theorem d_MD_init_244 : decode b_MD_init 244 = .ok (.ldc 78, 2) := by decide +kernel
theorem d_MD_init_246 : decode b_MD_init 246 = .ok (.iastore, 1) := by decide +kernel
theorem d_MD_init_247 : decode b_MD_init 247 = .ok (.dup, 1) := by decide +kernel
theorem d_MD_init_248 : decode b_MD_init 248 = .ok (.bipush 17, 2) := by decide +kernel
theorem d_MD_init_250 : decode b_MD_init 250 = .ok (.ldc 79, 2) := by decide +kernel
theorem d_MD_init_252 : decode b_MD_init 252 = .ok (.iastore, 1) := by decide +kernel
theorem d_MD_init_253 : decode b_MD_init 253 = .ok (.dup, 1) := by decide +kernel
theorem d_MD_init_254 : decode b_MD_init 254 = .ok (.bipush 18, 2) := by decide +kernel
theorem d_MD_init_256 : decode b_MD_init 256 = .ok (.ldc 80, 2) := by decide +kernel
theorem d_MD_init_258 : decode b_MD_init 258 = .ok (.iastore, 1) := by decide +kernel
theorem d_MD_init_259 : decode b_MD_init 259 = .ok (.dup, 1) := by decide +kernel
theorem d_MD_init_260 : decode b_MD_init 260 = .ok (.bipush 19, 2) := by decide +kernel
theorem d_MD_init_262 : decode b_MD_init 262 = .ok (.ldc 81, 2) := by decide +kernel
theorem d_MD_init_264 : decode b_MD_init 264 = .ok (.iastore, 1) := by decide +kernel
theorem d_MD_init_265 : decode b_MD_init 265 = .ok (.dup, 1) := by decide +kernel
theorem d_MD_init_266 : decode b_MD_init 266 = .ok (.bipush 20, 2) := by decide +kernel
theorem d_MD_init_268 : decode b_MD_init 268 = .ok (.ldc 82, 2) := by decide +kernel
theorem d_MD_init_270 : decode b_MD_init 270 = .ok (.iastore, 1) := by decide +kernel
theorem d_MD_init_271 : decode b_MD_init 271 = .ok (.dup, 1) := by decide +kernel
theorem d_MD_init_272 : decode b_MD_init 272 = .ok (.bipush 21, 2) := by decide +kernel
theorem d_MD_init_274 : decode b_MD_init 274 = .ok (.ldc 83, 2) := by decide +kernel
theorem d_MD_init_276 : decode b_MD_init 276 = .ok (.iastore, 1) := by decide +kernel
theorem d_MD_init_277 : decode b_MD_init 277 = .ok (.dup, 1) := by decide +kernel
theorem d_MD_init_278 : decode b_MD_init 278 = .ok (.bipush 22, 2) := by decide +kernel
theorem d_MD_init_280 : decode b_MD_init 280 = .ok (.ldc 84, 2) := by decide +kernel
theorem d_MD_init_282 : decode b_MD_init 282 = .ok (.iastore, 1) := by decide +kernel
theorem d_MD_init_283 : decode b_MD_init 283 = .ok (.dup, 1) := by decide +kernel
theorem d_MD_init_284 : decode b_MD_init 284 = .ok (.bipush 23, 2) := by decide +kernel
theorem d_MD_init_286 : decode b_MD_init 286 = .ok (.ldc 85, 2) := by decide +kernel
theorem d_MD_init_288 : decode b_MD_init 288 = .ok (.iastore, 1) := by decide +kernel
theorem d_MD_init_289 : decode b_MD_init 289 = .ok (.dup, 1) := by decide +kernel
theorem d_MD_init_290 : decode b_MD_init 290 = .ok (.bipush 24, 2) := by decide +kernel
theorem d_MD_init_292 : decode b_MD_init 292 = .ok (.ldc 86, 2) := by decide +kernel
theorem d_MD_init_294 : decode b_MD_init 294 = .ok (.iastore, 1) := by decide +kernel
theorem d_MD_init_295 : decode b_MD_init 295 = .ok (.dup, 1) := by decide +kernel
theorem d_MD_init_296 : decode b_MD_init 296 = .ok (.bipush 25, 2) := by decide +kernel
theorem d_MD_init_298 : decode b_MD_init 298 = .ok (.ldc 87, 2) := by decide +kernel
theorem d_MD_init_300 : decode b_MD_init 300 = .ok (.iastore, 1) := by decide +kernel
theorem d_MD_init_301 : decode b_MD_init 301 = .ok (.dup, 1) := by decide +kernel
theorem d_MD_init_302 : decode b_MD_init 302 = .ok (.bipush 26, 2) := by decide +kernel
theorem d_MD_init_304 : decode b_MD_init 304 = .ok (.ldc 88, 2) := by decide +kernel
theorem d_MD_init_306 : decode b_MD_init 306 = .ok (.iastore, 1) := by decide +kernel
theorem d_MD_init_307 : decode b_MD_init 307 = .ok (.dup, 1) := by decide +kernel
theorem d_MD_init_308 : decode b_MD_init 308 = .ok (.bipush 27, 2) := by decide +kernel
theorem d_MD_init_310 : decode b_MD_init 310 = .ok (.ldc 89, 2) := by decide +kernel
theorem d_MD_init_312 : decode b_MD_init 312 = .ok (.iastore, 1) := by decide +kernel
theorem d_MD_init_313 : decode b_MD_init 313 = .ok (.dup, 1) := by decide +kernel
theorem d_MD_init_314 : decode b_MD_init 314 = .ok (.bipush 28, 2) := by decide +kernel
theorem d_MD_init_316 : decode b_MD_init 316 = .ok (.ldc 90, 2) := by decide +kernel
theorem d_MD_init_318 : decode b_MD_init 318 = .ok (.iastore, 1) := by decide +kernel
theorem d_MD_init_319 : decode b_MD_init 319 = .ok (.dup, 1) := by decide +kernel
theorem d_MD_init_320 : decode b_MD_init 320 = .ok (.bipush 29, 2) := by decide +kernel
theorem d_MD_init_322 : decode b_MD_init 322 = .ok (.ldc 91, 2) := by decide +kernel
theorem d_MD_init_324 : decode b_MD_init 324 = .ok (.iastore, 1) := by decide +kernel
theorem d_MD_init_325 : decode b_MD_init 325 = .ok (.dup, 1) := by decide +kernel
theorem d_MD_init_326 : decode b_MD_init 326 = .ok (.bipush 30, 2) := by decide +kernel
theorem d_MD_init_328 : decode b_MD_init 328 = .ok (.ldc 92, 2) := by decide +kernel
theorem d_MD_init_330 : decode b_MD_init 330 = .ok (.iastore, 1) := by decide +kernel
theorem d_MD_init_331 : decode b_MD_init 331 = .ok (.dup, 1) := by decide +kernel
theorem d_MD_init_332 : decode b_MD_init 332 = .ok (.bipush 31, 2) := by decide +kernel
theorem d_MD_init_334 : decode b_MD_init 334 = .ok (.ldc 93, 2) := by decide +kernel
theorem d_MD_init_336 : decode b_MD_init 336 = .ok (.iastore, 1) := by decide +kernel
theorem d_MD_init_337 : decode b_MD_init 337 = .ok (.dup, 1) := by decide +kernel
theorem d_MD_init_338 : decode b_MD_init 338 = .ok (.bipush 32, 2) := by decide +kernel
theorem d_MD_init_340 : decode b_MD_init 340 = .ok (.ldc 94, 2) := by decide +kernel
theorem d_MD_init_342 : decode b_MD_init 342 = .ok (.iastore, 1) := by decide +kernel
theorem d_MD_init_343 : decode b_MD_init 343 = .ok (.dup, 1) := by decide +kernel
theorem d_MD_init_344 : decode b_MD_init 344 = .ok (.bipush 33, 2) := by decide +kernel
theorem d_MD_init_346 : decode b_MD_init 346 = .ok (.ldc 95, 2) := by decide +kernel
theorem d_MD_init_348 : decode b_MD_init 348 = .ok (.iastore, 1) := by decide +kernel
theorem d_MD_init_349 : decode b_MD_init 349 = .ok (.dup, 1) := by decide +kernel
theorem d_MD_init_350 : decode b_MD_init 350 = .ok (.bipush 34, 2) := by decide +kernel
theorem d_MD_init_352 : decode b_MD_init 352 = .ok (.ldc 96, 2) := by decide +kernel
theorem d_MD_init_354 : decode b_MD_init 354 = .ok (.iastore, 1) := by decide +kernel
theorem d_MD_init_355 : decode b_MD_init 355 = .ok (.dup, 1) := by decide +kernel
theorem d_MD_init_356 : decode b_MD_init 356 = .ok (.bipush 35, 2) := by decide +kernel
theorem d_MD_init_358 : decode b_MD_init 358 = .ok (.ldc 97, 2) := by decide +kernel
theorem d_MD_init_360 : decode b_MD_init 360 = .ok (.iastore, 1) := by decide +kernel
theorem d_MD_init_361 : decode b_MD_init 361 = .ok (.dup, 1) := by decide +kernel
theorem d_MD_init_362 : decode b_MD_init 362 = .ok (.bipush 36, 2) := by decide +kernel
theorem d_MD_init_364 : decode b_MD_init 364 = .ok (.ldc 98, 2) := by decide +kernel
theorem d_MD_init_366 : decode b_MD_init 366 = .ok (.iastore, 1) := by decide +kernel
theorem d_MD_init_367 : decode b_MD_init 367 = .ok (.dup, 1) := by decide +kernel
theorem d_MD_init_368 : decode b_MD_init 368 = .ok (.bipush 37, 2) := by decide +kernel
theorem d_MD_init_370 : decode b_MD_init 370 = .ok (.ldc 99, 2) := by decide +kernel
theorem d_MD_init_372 : decode b_MD_init 372 = .ok (.iastore, 1) := by decide +kernel
theorem d_MD_init_373 : decode b_MD_init 373 = .ok (.dup, 1) := by decide +kernel
theorem d_MD_init_374 : decode b_MD_init 374 = .ok (.bipush 38, 2) := by decide +kernel
theorem d_MD_init_376 : decode b_MD_init 376 = .ok (.ldc 100, 2) := by decide +kernel
theorem d_MD_init_378 : decode b_MD_init 378 = .ok (.iastore, 1) := by decide +kernel
theorem d_MD_init_379 : decode b_MD_init 379 = .ok (.dup, 1) := by decide +kernel
theorem d_MD_init_380 : decode b_MD_init 380 = .ok (.bipush 39, 2) := by decide +kernel
theorem d_MD_init_382 : decode b_MD_init 382 = .ok (.ldc 101, 2) := by decide +kernel
theorem d_MD_init_384 : decode b_MD_init 384 = .ok (.iastore, 1) := by decide +kernel
theorem d_MD_init_385 : decode b_MD_init 385 = .ok (.dup, 1) := by decide +kernel
theorem d_MD_init_386 : decode b_MD_init 386 = .ok (.bipush 40, 2) := by decide +kernel
theorem d_MD_init_388 : decode b_MD_init 388 = .ok (.ldc 102, 2) := by decide +kernel
theorem d_MD_init_390 : decode b_MD_init 390 = .ok (.iastore, 1) := by decide +kernel
theorem d_MD_init_391 : decode b_MD_init 391 = .ok (.dup, 1) := by decide +kernel
theorem d_MD_init_392 : decode b_MD_init 392 = .ok (.bipush 41, 2) := by decide +kernel
theorem d_MD_init_394 : decode b_MD_init 394 = .ok (.ldc 103, 2) := by decide +kernel
theorem d_MD_init_396 : decode b_MD_init 396 = .ok (.iastore, 1) := by decide +kernel
theorem d_MD_init_397 : decode b_MD_init 397 = .ok (.dup, 1) := by decide +kernel
theorem d_MD_init_398 : decode b_MD_init 398 = .ok (.bipush 42, 2) := by decide +kernel
theorem d_MD_init_400 : decode b_MD_init 400 = .ok (.ldc 104, 2) := by decide +kernel
theorem d_MD_init_402 : decode b_MD_init 402 = .ok (.iastore, 1) := by decide +kernel
theorem d_MD_init_403 : decode b_MD_init 403 = .ok (.dup, 1) := by decide +kernel
theorem d_MD_init_404 : decode b_MD_init 404 = .ok (.bipush 43, 2) := by decide +kernel
theorem d_MD_init_406 : decode b_MD_init 406 = .ok (.ldc 105, 2) := by decide +kernel
theorem d_MD_init_408 : decode b_MD_init 408 = .ok (.iastore, 1) := by decide +kernel
theorem d_MD_init_409 : decode b_MD_init 409 = .ok (.dup, 1) := by decide +kernel
theorem d_MD_init_410 : decode b_MD_init 410 = .ok (.bipush 44, 2) := by decide +kernel
theorem d_MD_init_412 : decode b_MD_init 412 = .ok (.ldc 106, 2) := by decide +kernel
theorem d_MD_init_414 : decode b_MD_init 414 = .ok (.iastore, 1) := by decide +kernel
theorem d_MD_init_415 : decode b_MD_init 415 = .ok (.dup, 1) := by decide +kernel
theorem d_MD_init_416 : decode b_MD_init 416 = .ok (.bipush 45, 2) := by decide +kernel
theorem d_MD_init_418 : decode b_MD_init 418 = .ok (.ldc 107, 2) := by decide +kernel
theorem d_MD_init_420 : decode b_MD_init 420 = .ok (.iastore, 1) := by decide +kernel
theorem d_MD_init_421 : decode b_MD_init 421 = .ok (.dup, 1) := by decide +kernel
theorem d_MD_init_422 : decode b_MD_init 422 = .ok (.bipush 46, 2) := by decide +kernel
theorem d_MD_init_424 : decode b_MD_init 424 = .ok (.ldc 108, 2) := by decide +kernel
theorem d_MD_init_426 : decode b_MD_init 426 = .ok (.iastore, 1) := by decide +kernel
theorem d_MD_init_427 : decode b_MD_init 427 = .ok (.dup, 1) := by decide +kernel
theorem d_MD_init_428 : decode b_MD_init 428 = .ok (.bipush 47, 2) := by decide +kernel
theorem d_MD_init_430 : decode b_MD_init 430 = .ok (.ldc 109, 2) := by decide +kernel
theorem d_MD_init_432 : decode b_MD_init 432 = .ok (.iastore, 1) := by decide +kernel
theorem d_MD_init_433 : decode b_MD_init 433 = .ok (.dup, 1) := by decide +kernel
theorem d_MD_init_434 : decode b_MD_init 434 = .ok (.bipush 48, 2) := by decide +kernel
theorem d_MD_init_436 : decode b_MD_init 436 = .ok (.ldc 110, 2) := by decide +kernel
theorem d_MD_init_438 : decode b_MD_init 438 = .ok (.iastore, 1) := by decide +kernel
theorem d_MD_init_439 : decode b_MD_init 439 = .ok (.dup, 1) := by decide +kernel
theorem d_MD_init_440 : decode b_MD_init 440 = .ok (.bipush 49, 2) := by decide +kernel
theorem d_MD_init_442 : decode b_MD_init 442 = .ok (.ldc 111, 2) := by decide +kernel
theorem d_MD_init_444 : decode b_MD_init 444 = .ok (.iastore, 1) := by decide +kernel
theorem d_MD_init_445 : decode b_MD_init 445 = .ok (.dup, 1) := by decide +kernel
theorem d_MD_init_446 : decode b_MD_init 446 = .ok (.bipush 50, 2) := by decide +kernel
theorem d_MD_init_448 : decode b_MD_init 448 = .ok (.ldc 112, 2) := by decide +kernel
theorem d_MD_init_450 : decode b_MD_init 450 = .ok (.iastore, 1) := by decide +kernel
theorem d_MD_init_451 : decode b_MD_init 451 = .ok (.dup, 1) := by decide +kernel
theorem d_MD_init_452 : decode b_MD_init 452 = .ok (.bipush 51, 2) := by decide +kernel
theorem d_MD_init_454 : decode b_MD_init 454 = .ok (.ldc 113, 2) := by decide +kernel
theorem d_MD_init_456 : decode b_MD_init 456 = .ok (.iastore, 1) := by decide +kernel
theorem d_MD_init_457 : decode b_MD_init 457 = .ok (.dup, 1) := by decide +kernel
theorem d_MD_init_458 : decode b_MD_init 458 = .ok (.bipush 52, 2) := by decide +kernel
theorem d_MD_init_460 : decode b_MD_init 460 = .ok (.ldc 114, 2) := by decide +kernel
theorem d_MD_init_462 : decode b_MD_init 462 = .ok (.iastore, 1) := by decide +kernel
theorem d_MD_init_463 : decode b_MD_init 463 = .ok (.dup, 1) := by decide +kernel
theorem d_MD_init_464 : decode b_MD_init 464 = .ok (.bipush 53, 2) := by decide +kernel
theorem d_MD_init_466 : decode b_MD_init 466 = .ok (.ldc 115, 2) := by decide +kernel
theorem d_MD_init_468 : decode b_MD_init 468 = .ok (.iastore, 1) := by decide +kernel
theorem d_MD_init_469 : decode b_MD_init 469 = .ok (.dup, 1) := by decide +kernel
theorem d_MD_init_470 : decode b_MD_init 470 = .ok (.bipush 54, 2) := by decide +kernel
theorem d_MD_init_472 : decode b_MD_init 472 = .ok (.ldc 116, 2) := by decide +kernel
theorem d_MD_init_474 : decode b_MD_init 474 = .ok (.iastore, 1) := by decide +kernel
theorem d_MD_init_475 : decode b_MD_init 475 = .ok (.dup, 1) := by decide +kernel
theorem d_MD_init_476 : decode b_MD_init 476 = .ok (.bipush 55, 2) := by decide +kernel
theorem d_MD_init_478 : decode b_MD_init 478 = .ok (.ldc 117, 2) := by decide +kernel
theorem d_MD_init_480 : decode b_MD_init 480 = .ok (.iastore, 1) := by decide +kernel
theorem d_MD_init_481 : decode b_MD_init 481 = .ok (.dup, 1) := by decide +kernel
theorem d_MD_init_482 : decode b_MD_init 482 = .ok (.bipush 56, 2) := by decide +kernel
theorem d_MD_init_484 : decode b_MD_init 484 = .ok (.ldc 118, 2) := by decide +kernel
theorem d_MD_init_486 : decode b_MD_init 486 = .ok (.iastore, 1) := by decide +kernel
theorem d_MD_init_487 : decode b_MD_init 487 = .ok (.dup, 1) := by decide +kernel
theorem d_MD_init_488 : decode b_MD_init 488 = .ok (.bipush 57, 2) := by decide +kernel
theorem d_MD_init_490 : decode b_MD_init 490 = .ok (.ldc 119, 2) := by decide +kernel
theorem d_MD_init_492 : decode b_MD_init 492 = .ok (.iastore, 1) := by decide +kernel
theorem d_MD_init_493 : decode b_MD_init 493 = .ok (.dup, 1) := by decide +kernel
theorem d_MD_init_494 : decode b_MD_init 494 = .ok (.bipush 58, 2) := by decide +kernel
theorem d_MD_init_496 : decode b_MD_init 496 = .ok (.ldc 120, 2) := by decide +kernel
theorem d_MD_init_498 : decode b_MD_init 498 = .ok (.iastore, 1) := by decide +kernel
theorem d_MD_init_499 : decode b_MD_init 499 = .ok (.dup, 1) := by decide +kernel
theorem d_MD_init_500 : decode b_MD_init 500 = .ok (.bipush 59, 2) := by decide +kernel
theorem d_MD_init_502 : decode b_MD_init 502 = .ok (.ldc 121, 2) := by decide +kernel
theorem d_MD_init_504 : decode b_MD_init 504 = .ok (.iastore, 1) := by decide +kernel
theorem d_MD_init_505 : decode b_MD_init 505 = .ok (.dup, 1) := by decide +kernel
theorem d_MD_init_506 : decode b_MD_init 506 = .ok (.bipush 60, 2) := by decide +kernel
theorem d_MD_init_508 : decode b_MD_init 508 = .ok (.ldc 122, 2) := by decide +kernel
theorem d_MD_init_510 : decode b_MD_init 510 = .ok (.iastore, 1) := by decide +kernel
theorem d_MD_init_511 : decode b_MD_init 511 = .ok (.dup, 1) := by decide +kernel
theorem d_MD_init_512 : decode b_MD_init 512 = .ok (.bipush 61, 2) := by decide +kernel
theorem d_MD_init_514 : decode b_MD_init 514 = .ok (.ldc 123, 2) := by decide +kernel
theorem d_MD_init_516 : decode b_MD_init 516 = .ok (.iastore, 1) := by decide +kernel
theorem d_MD_init_517 : decode b_MD_init 517 = .ok (.dup, 1) := by decide +kernel
theorem d_MD_init_518 : decode b_MD_init 518 = .ok (.bipush 62, 2) := by decide +kernel
theorem d_MD_init_520 : decode b_MD_init 520 = .ok (.ldc 124, 2) := by decide +kernel
theorem d_MD_init_522 : decode b_MD_init 522 = .ok (.iastore, 1) := by decide +kernel
theorem d_MD_init_523 : decode b_MD_init 523 = .ok (.dup, 1) := by decide +kernel
theorem d_MD_init_524 : decode b_MD_init 524 = .ok (.bipush 63, 2) := by decide +kernel
theorem d_MD_init_526 : decode b_MD_init 526 = .ok (.ldc 125, 2) := by decide +kernel
theorem d_MD_init_528 : decode b_MD_init 528 = .ok (.iastore, 1) := by decide +kernel
theorem d_MD_init_529 : decode b_MD_init 529 = .ok (.putfield 126, 3) := by decide +kernel
theorem d_MD_init_532 : decode b_MD_init 532 = .ok (.aload_n 0, 1) := by decide +kernel
theorem d_MD_init_533 : decode b_MD_init 533 = .ok (.bipush 8, 2) := by decide +kernel
theorem d_MD_init_535 : decode b_MD_init 535 = .ok (.newarray .int, 2) := by decide +kernel
theorem d_MD_init_537 : decode b_MD_init 537 = .ok (.dup, 1) := by decide +kernel
theorem d_MD_init_538 : decode b_MD_init 538 = .ok (.iconst 0, 1) := by decide +kernel
theorem d_MD_init_539 : decode b_MD_init 539 = .ok (.ldc 129, 2) := by decide +kernel
theorem d_MD_init_541 : decode b_MD_init 541 = .ok (.iastore, 1) := by decide +kernel
theorem d_MD_init_542 : decode b_MD_init 542 = .ok (.dup, 1) := by decide +kernel
theorem d_MD_init_543 : decode b_MD_init 543 = .ok (.iconst 1, 1) := by decide +kernel
theorem d_MD_init_544 : decode b_MD_init 544 = .ok (.ldc 130, 2) := by decide +kernel
theorem d_MD_init_546 : decode b_MD_init 546 = .ok (.iastore, 1) := by decide +kernel
theorem d_MD_init_547 : decode b_MD_init 547 = .ok (.dup, 1) := by decide +kernel
theorem d_MD_init_548 : decode b_MD_init 548 = .ok (.iconst 2, 1) := by decide +kernel
theorem d_MD_init_549 : decode b_MD_init 549 = .ok (.ldc 131, 2) := by decide +kernel
theorem d_MD_init_551 : decode b_MD_init 551 = .ok (.iastore, 1) := by decide +kernel
theorem d_MD_init_552 : decode b_MD_init 552 = .ok (.dup, 1) := by decide +kernel
theorem d_MD_init_553 : decode b_MD_init 553 = .ok (.iconst 3, 1) := by decide +kernel
theorem d_MD_init_554 : decode b_MD_init 554 = .ok (.ldc 132, 2) := by decide +kernel
theorem d_MD_init_556 : decode b_MD_init 556 = .ok (.iastore, 1) := by decide +kernel
theorem d_MD_init_557 : decode b_MD_init 557 = .ok (.dup, 1) := by decide +kernel
theorem d_MD_init_558 : decode b_MD_init 558 = .ok (.iconst 4, 1) := by decide +kernel
theorem d_MD_init_559 : decode b_MD_init 559 = .ok (.ldc 133, 2) := by decide +kernel
theorem d_MD_init_561 : decode b_MD_init 561 = .ok (.iastore, 1) := by decide +kernel
theorem d_MD_init_562 : decode b_MD_init 562 = .ok (.dup, 1) := by decide +kernel
theorem d_MD_init_563 : decode b_MD_init 563 = .ok (.iconst 5, 1) := by decide +kernel
theorem d_MD_init_564 : decode b_MD_init 564 = .ok (.ldc 134, 2) := by decide +kernel
theorem d_MD_init_566 : decode b_MD_init 566 = .ok (.iastore, 1) := by decide +kernel
theorem d_MD_init_567 : decode b_MD_init 567 = .ok (.dup, 1) := by decide +kernel
theorem d_MD_init_568 : decode b_MD_init 568 = .ok (.bipush 6, 2) := by decide +kernel
theorem d_MD_init_570 : decode b_MD_init 570 = .ok (.ldc 135, 2) := by decide +kernel
theorem d_MD_init_572 : decode b_MD_init 572 = .ok (.iastore, 1) := by decide +kernel
theorem d_MD_init_573 : decode b_MD_init 573 = .ok (.dup, 1) := by decide +kernel
theorem d_MD_init_574 : decode b_MD_init 574 = .ok (.bipush 7, 2) := by decide +kernel
theorem d_MD_init_576 : decode b_MD_init 576 = .ok (.ldc 136, 2) := by decide +kernel
theorem d_MD_init_578 : decode b_MD_init 578 = .ok (.iastore, 1) := by decide +kernel
theorem d_MD_init_579 : decode b_MD_init 579 = .ok (.putfield 137, 3) := by decide +kernel
theorem d_MD_init_582 : decode b_MD_init 582 = .ok (.iconst 0, 1) := by decide +kernel
theorem d_MD_init_583 : decode b_MD_init 583 = .ok (.istore_n 1, 1) := by decide +kernel
theorem d_MD_init_584 : decode b_MD_init 584 = .ok (.iload_n 1, 1) := by decide +kernel
theorem d_MD_init_585 : decode b_MD_init 585 = .ok (.sipush 256, 3) := by decide +kernel
theorem d_MD_init_588 : decode b_MD_init 588 = .ok (.if_icmp .ge 19, 3) := by decide +kernel
theorem d_MD_init_591 : decode b_MD_init 591 = .ok (.aload_n 0, 1) := by decide +kernel
theorem d_MD_init_592 : decode b_MD_init 592 = .ok (.getfield 32, 3) := by decide +kernel
theorem d_MD_init_595 : decode b_MD_init 595 = .ok (.iload_n 1, 1) := by decide +kernel
theorem d_MD_init_596 : decode b_MD_init 596 = .ok (.iload_n 1, 1) := by decide +kernel
theorem d_MD_init_597 : decode b_MD_init 597 = .ok (.invokestatic 140, 3) := by decide +kernel
theorem d_MD_init_600 : decode b_MD_init 600 = .ok (.iastore, 1) := by decide +kernel
theorem d_MD_init_601 : decode b_MD_init 601 = .ok (.iinc 1 1, 3) := by decide +kernel
theorem d_MD_init_604 : decode b_MD_init 604 = .ok (.goto (-20), 3) := by decide +kernel
theorem d_MD_init_607 : decode b_MD_init 607 = .ok (.return_, 1) := by decide +kernel
theorem d_MD_thrown_0 : decode b_MD_thrown 0 = .ok (.aload_n 0, 1) := by decide +kernel
theorem d_MD_thrown_1 : decode b_MD_thrown 1 = .ok (.getfield 144, 3) := by decide +kernel
theorem d_MD_thrown_4 : decode b_MD_thrown 4 = .ok (.ireturn, 1) := by decide +kernel
theorem d_MD_refused_0 : decode b_MD_refused 0 = .ok (.aload_n 0, 1) := by decide +kernel
theorem d_MD_refused_1 : decode b_MD_refused 1 = .ok (.iload_n 1, 1) := by decide +kernel
theorem d_MD_refused_2 : decode b_MD_refused 2 = .ok (.ifCond .eq 7, 3) := by decide +kernel
theorem d_MD_refused_5 : decode b_MD_refused 5 = .ok (.iconst 1, 1) := by decide +kernel
theorem d_MD_refused_6 : decode b_MD_refused 6 = .ok (.goto 12, 3) := by decide +kernel
theorem d_MD_refused_9 : decode b_MD_refused 9 = .ok (.iload_n 2, 1) := by decide +kernel
theorem d_MD_refused_10 : decode b_MD_refused 10 = .ok (.ifCond .eq 7, 3) := by decide +kernel
theorem d_MD_refused_13 : decode b_MD_refused 13 = .ok (.iconst 2, 1) := by decide +kernel
theorem d_MD_refused_14 : decode b_MD_refused 14 = .ok (.goto 4, 3) := by decide +kernel
theorem d_MD_refused_17 : decode b_MD_refused 17 = .ok (.iconst 0, 1) := by decide +kernel
theorem d_MD_refused_18 : decode b_MD_refused 18 = .ok (.putfield 144, 3) := by decide +kernel
theorem d_MD_refused_21 : decode b_MD_refused 21 = .ok (.aload_n 0, 1) := by decide +kernel
theorem d_MD_refused_22 : decode b_MD_refused 22 = .ok (.getfield 144, 3) := by decide +kernel
theorem d_MD_refused_25 : decode b_MD_refused 25 = .ok (.ifCond .le 7, 3) := by decide +kernel
theorem d_MD_refused_28 : decode b_MD_refused 28 = .ok (.iconst 1, 1) := by decide +kernel
theorem d_MD_refused_29 : decode b_MD_refused 29 = .ok (.goto 4, 3) := by decide +kernel
theorem d_MD_refused_32 : decode b_MD_refused 32 = .ok (.iconst 0, 1) := by decide +kernel
theorem d_MD_refused_33 : decode b_MD_refused 33 = .ok (.ireturn, 1) := by decide +kernel
theorem d_MD_times_0 : decode b_MD_times 0 = .ok (.iconst 0, 1) := by decide +kernel
theorem d_MD_times_1 : decode b_MD_times 1 = .ok (.istore_n 2, 1) := by decide +kernel
theorem d_MD_times_2 : decode b_MD_times 2 = .ok (.iload_n 0, 1) := by decide +kernel
theorem d_MD_times_3 : decode b_MD_times 3 = .ok (.istore_n 3, 1) := by decide +kernel
theorem d_MD_times_4 : decode b_MD_times 4 = .ok (.iconst 0, 1) := by decide +kernel
theorem d_MD_times_5 : decode b_MD_times 5 = .ok (.istore 4, 2) := by decide +kernel
theorem d_MD_times_7 : decode b_MD_times 7 = .ok (.iload 4, 2) := by decide +kernel
theorem d_MD_times_9 : decode b_MD_times 9 = .ok (.bipush 8, 2) := by decide +kernel
theorem d_MD_times_11 : decode b_MD_times 11 = .ok (.if_icmp .ge 52, 3) := by decide +kernel
theorem d_MD_times_14 : decode b_MD_times 14 = .ok (.iload_n 1, 1) := by decide +kernel
theorem d_MD_times_15 : decode b_MD_times 15 = .ok (.iload 4, 2) := by decide +kernel
theorem d_MD_times_17 : decode b_MD_times 17 = .ok (.ishr, 1) := by decide +kernel
theorem d_MD_times_18 : decode b_MD_times 18 = .ok (.iconst 1, 1) := by decide +kernel
theorem d_MD_times_19 : decode b_MD_times 19 = .ok (.iand, 1) := by decide +kernel
theorem d_MD_times_20 : decode b_MD_times 20 = .ok (.iconst 1, 1) := by decide +kernel
theorem d_MD_times_21 : decode b_MD_times 21 = .ok (.if_icmp .ne 9, 3) := by decide +kernel
theorem d_MD_times_24 : decode b_MD_times 24 = .ok (.iload_n 2, 1) := by decide +kernel
theorem d_MD_times_25 : decode b_MD_times 25 = .ok (.iload_n 3, 1) := by decide +kernel
theorem d_MD_times_26 : decode b_MD_times 26 = .ok (.ixor, 1) := by decide +kernel
theorem d_MD_times_27 : decode b_MD_times 27 = .ok (.goto 4, 3) := by decide +kernel
theorem d_MD_times_30 : decode b_MD_times 30 = .ok (.iload_n 2, 1) := by decide +kernel
theorem d_MD_times_31 : decode b_MD_times 31 = .ok (.istore_n 2, 1) := by decide +kernel
theorem d_MD_times_32 : decode b_MD_times 32 = .ok (.iload_n 3, 1) := by decide +kernel
theorem d_MD_times_33 : decode b_MD_times 33 = .ok (.sipush 128, 3) := by decide +kernel
theorem d_MD_times_36 : decode b_MD_times 36 = .ok (.if_icmp .ge 9, 3) := by decide +kernel
theorem d_MD_times_39 : decode b_MD_times 39 = .ok (.iconst 2, 1) := by decide +kernel
theorem d_MD_times_40 : decode b_MD_times 40 = .ok (.iload_n 3, 1) := by decide +kernel
theorem d_MD_times_41 : decode b_MD_times 41 = .ok (.imul, 1) := by decide +kernel
theorem d_MD_times_42 : decode b_MD_times 42 = .ok (.goto 14, 3) := by decide +kernel
theorem d_MD_times_45 : decode b_MD_times 45 = .ok (.iconst 2, 1) := by decide +kernel
theorem d_MD_times_46 : decode b_MD_times 46 = .ok (.iload_n 3, 1) := by decide +kernel
theorem d_MD_times_47 : decode b_MD_times 47 = .ok (.imul, 1) := by decide +kernel
theorem d_MD_times_48 : decode b_MD_times 48 = .ok (.sipush 283, 3) := by decide +kernel
theorem d_MD_times_51 : decode b_MD_times 51 = .ok (.ixor, 1) := by decide +kernel
theorem d_MD_times_52 : decode b_MD_times 52 = .ok (.sipush 255, 3) := by decide +kernel
theorem d_MD_times_55 : decode b_MD_times 55 = .ok (.iand, 1) := by decide +kernel
theorem d_MD_times_56 : decode b_MD_times 56 = .ok (.istore_n 3, 1) := by decide +kernel
theorem d_MD_times_57 : decode b_MD_times 57 = .ok (.iinc 4 1, 3) := by decide +kernel
theorem d_MD_times_60 : decode b_MD_times 60 = .ok (.goto (-53), 3) := by decide +kernel
theorem d_MD_times_63 : decode b_MD_times 63 = .ok (.iload_n 2, 1) := by decide +kernel
theorem d_MD_times_64 : decode b_MD_times 64 = .ok (.ireturn, 1) := by decide +kernel
theorem d_MD_boxOf_0 : decode b_MD_boxOf 0 = .ok (.iconst 0, 1) := by decide +kernel
theorem d_MD_boxOf_1 : decode b_MD_boxOf 1 = .ok (.istore_n 1, 1) := by decide +kernel
theorem d_MD_boxOf_2 : decode b_MD_boxOf 2 = .ok (.iconst 1, 1) := by decide +kernel
theorem d_MD_boxOf_3 : decode b_MD_boxOf 3 = .ok (.istore_n 2, 1) := by decide +kernel
theorem d_MD_boxOf_4 : decode b_MD_boxOf 4 = .ok (.iload_n 2, 1) := by decide +kernel
theorem d_MD_boxOf_5 : decode b_MD_boxOf 5 = .ok (.sipush 256, 3) := by decide +kernel
theorem d_MD_boxOf_8 : decode b_MD_boxOf 8 = .ok (.if_icmp .ge 24, 3) := by decide +kernel
theorem d_MD_boxOf_11 : decode b_MD_boxOf 11 = .ok (.iload_n 0, 1) := by decide +kernel
theorem d_MD_boxOf_12 : decode b_MD_boxOf 12 = .ok (.iload_n 2, 1) := by decide +kernel
theorem d_MD_boxOf_13 : decode b_MD_boxOf 13 = .ok (.invokestatic 148, 3) := by decide +kernel
theorem d_MD_boxOf_16 : decode b_MD_boxOf 16 = .ok (.iconst 1, 1) := by decide +kernel
theorem d_MD_boxOf_17 : decode b_MD_boxOf 17 = .ok (.if_icmp .ne 7, 3) := by decide +kernel
theorem d_MD_boxOf_20 : decode b_MD_boxOf 20 = .ok (.iload_n 2, 1) := by decide +kernel
theorem d_MD_boxOf_21 : decode b_MD_boxOf 21 = .ok (.goto 4, 3) := by decide +kernel
theorem d_MD_boxOf_24 : decode b_MD_boxOf 24 = .ok (.iload_n 1, 1) := by decide +kernel
theorem d_MD_boxOf_25 : decode b_MD_boxOf 25 = .ok (.istore_n 1, 1) := by decide +kernel
theorem d_MD_boxOf_26 : decode b_MD_boxOf 26 = .ok (.iinc 2 1, 3) := by decide +kernel
theorem d_MD_boxOf_29 : decode b_MD_boxOf 29 = .ok (.goto (-25), 3) := by decide +kernel
theorem d_MD_boxOf_32 : decode b_MD_boxOf 32 = .ok (.iconst 0, 1) := by decide +kernel
theorem d_MD_boxOf_33 : decode b_MD_boxOf 33 = .ok (.istore_n 2, 1) := by decide +kernel
theorem d_MD_boxOf_34 : decode b_MD_boxOf 34 = .ok (.iconst 0, 1) := by decide +kernel
theorem d_MD_boxOf_35 : decode b_MD_boxOf 35 = .ok (.istore_n 3, 1) := by decide +kernel
theorem d_MD_boxOf_36 : decode b_MD_boxOf 36 = .ok (.iload_n 3, 1) := by decide +kernel
theorem d_MD_boxOf_37 : decode b_MD_boxOf 37 = .ok (.bipush 8, 2) := by decide +kernel
theorem d_MD_boxOf_39 : decode b_MD_boxOf 39 = .ok (.if_icmp .ge 66, 3) := by decide +kernel
theorem d_MD_boxOf_42 : decode b_MD_boxOf 42 = .ok (.iload_n 1, 1) := by decide +kernel
theorem d_MD_boxOf_43 : decode b_MD_boxOf 43 = .ok (.iload_n 3, 1) := by decide +kernel
theorem d_MD_boxOf_44 : decode b_MD_boxOf 44 = .ok (.ishr, 1) := by decide +kernel
theorem d_MD_boxOf_45 : decode b_MD_boxOf 45 = .ok (.iload_n 1, 1) := by decide +kernel
theorem d_MD_boxOf_46 : decode b_MD_boxOf 46 = .ok (.iload_n 3, 1) := by decide +kernel
theorem d_MD_boxOf_47 : decode b_MD_boxOf 47 = .ok (.iconst 4, 1) := by decide +kernel
theorem d_MD_boxOf_48 : decode b_MD_boxOf 48 = .ok (.iadd, 1) := by decide +kernel
theorem d_MD_boxOf_49 : decode b_MD_boxOf 49 = .ok (.bipush 8, 2) := by decide +kernel
theorem d_MD_boxOf_51 : decode b_MD_boxOf 51 = .ok (.irem, 1) := by decide +kernel
theorem d_MD_boxOf_52 : decode b_MD_boxOf 52 = .ok (.ishr, 1) := by decide +kernel
theorem d_MD_boxOf_53 : decode b_MD_boxOf 53 = .ok (.ixor, 1) := by decide +kernel
theorem d_MD_boxOf_54 : decode b_MD_boxOf 54 = .ok (.iload_n 1, 1) := by decide +kernel
theorem d_MD_boxOf_55 : decode b_MD_boxOf 55 = .ok (.iload_n 3, 1) := by decide +kernel
theorem d_MD_boxOf_56 : decode b_MD_boxOf 56 = .ok (.iconst 5, 1) := by decide +kernel
theorem d_MD_boxOf_57 : decode b_MD_boxOf 57 = .ok (.iadd, 1) := by decide +kernel
theorem d_MD_boxOf_58 : decode b_MD_boxOf 58 = .ok (.bipush 8, 2) := by decide +kernel
theorem d_MD_boxOf_60 : decode b_MD_boxOf 60 = .ok (.irem, 1) := by decide +kernel
theorem d_MD_boxOf_61 : decode b_MD_boxOf 61 = .ok (.ishr, 1) := by decide +kernel
theorem d_MD_boxOf_62 : decode b_MD_boxOf 62 = .ok (.ixor, 1) := by decide +kernel
theorem d_MD_boxOf_63 : decode b_MD_boxOf 63 = .ok (.iload_n 1, 1) := by decide +kernel
theorem d_MD_boxOf_64 : decode b_MD_boxOf 64 = .ok (.iload_n 3, 1) := by decide +kernel
theorem d_MD_boxOf_65 : decode b_MD_boxOf 65 = .ok (.bipush 6, 2) := by decide +kernel
theorem d_MD_boxOf_67 : decode b_MD_boxOf 67 = .ok (.iadd, 1) := by decide +kernel
theorem d_MD_boxOf_68 : decode b_MD_boxOf 68 = .ok (.bipush 8, 2) := by decide +kernel
theorem d_MD_boxOf_70 : decode b_MD_boxOf 70 = .ok (.irem, 1) := by decide +kernel
theorem d_MD_boxOf_71 : decode b_MD_boxOf 71 = .ok (.ishr, 1) := by decide +kernel
theorem d_MD_boxOf_72 : decode b_MD_boxOf 72 = .ok (.ixor, 1) := by decide +kernel
theorem d_MD_boxOf_73 : decode b_MD_boxOf 73 = .ok (.iload_n 1, 1) := by decide +kernel
theorem d_MD_boxOf_74 : decode b_MD_boxOf 74 = .ok (.iload_n 3, 1) := by decide +kernel
theorem d_MD_boxOf_75 : decode b_MD_boxOf 75 = .ok (.bipush 7, 2) := by decide +kernel
theorem d_MD_boxOf_77 : decode b_MD_boxOf 77 = .ok (.iadd, 1) := by decide +kernel
theorem d_MD_boxOf_78 : decode b_MD_boxOf 78 = .ok (.bipush 8, 2) := by decide +kernel
theorem d_MD_boxOf_80 : decode b_MD_boxOf 80 = .ok (.irem, 1) := by decide +kernel
theorem d_MD_boxOf_81 : decode b_MD_boxOf 81 = .ok (.ishr, 1) := by decide +kernel
theorem d_MD_boxOf_82 : decode b_MD_boxOf 82 = .ok (.ixor, 1) := by decide +kernel
theorem d_MD_boxOf_83 : decode b_MD_boxOf 83 = .ok (.bipush 99, 2) := by decide +kernel
theorem d_MD_boxOf_85 : decode b_MD_boxOf 85 = .ok (.iload_n 3, 1) := by decide +kernel
theorem d_MD_boxOf_86 : decode b_MD_boxOf 86 = .ok (.ishr, 1) := by decide +kernel
theorem d_MD_boxOf_87 : decode b_MD_boxOf 87 = .ok (.ixor, 1) := by decide +kernel
theorem d_MD_boxOf_88 : decode b_MD_boxOf 88 = .ok (.istore 4, 2) := by decide +kernel
theorem d_MD_boxOf_90 : decode b_MD_boxOf 90 = .ok (.iload_n 2, 1) := by decide +kernel
theorem d_MD_boxOf_91 : decode b_MD_boxOf 91 = .ok (.iload 4, 2) := by decide +kernel
theorem d_MD_boxOf_93 : decode b_MD_boxOf 93 = .ok (.iconst 1, 1) := by decide +kernel
theorem d_MD_boxOf_94 : decode b_MD_boxOf 94 = .ok (.iand, 1) := by decide +kernel
theorem d_MD_boxOf_95 : decode b_MD_boxOf 95 = .ok (.iload_n 3, 1) := by decide +kernel
theorem d_MD_boxOf_96 : decode b_MD_boxOf 96 = .ok (.ishl, 1) := by decide +kernel
theorem d_MD_boxOf_97 : decode b_MD_boxOf 97 = .ok (.ior, 1) := by decide +kernel
theorem d_MD_boxOf_98 : decode b_MD_boxOf 98 = .ok (.istore_n 2, 1) := by decide +kernel
theorem d_MD_boxOf_99 : decode b_MD_boxOf 99 = .ok (.iinc 3 1, 3) := by decide +kernel
theorem d_MD_boxOf_102 : decode b_MD_boxOf 102 = .ok (.goto (-66), 3) := by decide +kernel
theorem d_MD_boxOf_105 : decode b_MD_boxOf 105 = .ok (.iload_n 2, 1) := by decide +kernel
theorem d_MD_boxOf_106 : decode b_MD_boxOf 106 = .ok (.ireturn, 1) := by decide +kernel
theorem d_MD_boxWord_0 : decode b_MD_boxWord 0 = .ok (.aload_n 0, 1) := by decide +kernel
theorem d_MD_boxWord_1 : decode b_MD_boxWord 1 = .ok (.getfield 32, 3) := by decide +kernel
theorem d_MD_boxWord_4 : decode b_MD_boxWord 4 = .ok (.iload_n 1, 1) := by decide +kernel
theorem d_MD_boxWord_5 : decode b_MD_boxWord 5 = .ok (.bipush 24, 2) := by decide +kernel
theorem d_MD_boxWord_7 : decode b_MD_boxWord 7 = .ok (.iushr, 1) := by decide +kernel
theorem d_MD_boxWord_8 : decode b_MD_boxWord 8 = .ok (.iaload, 1) := by decide +kernel
theorem d_MD_boxWord_9 : decode b_MD_boxWord 9 = .ok (.bipush 24, 2) := by decide +kernel
theorem d_MD_boxWord_11 : decode b_MD_boxWord 11 = .ok (.ishl, 1) := by decide +kernel
theorem d_MD_boxWord_12 : decode b_MD_boxWord 12 = .ok (.aload_n 0, 1) := by decide +kernel
theorem d_MD_boxWord_13 : decode b_MD_boxWord 13 = .ok (.getfield 32, 3) := by decide +kernel
theorem d_MD_boxWord_16 : decode b_MD_boxWord 16 = .ok (.iload_n 1, 1) := by decide +kernel
theorem d_MD_boxWord_17 : decode b_MD_boxWord 17 = .ok (.bipush 16, 2) := by decide +kernel
theorem d_MD_boxWord_19 : decode b_MD_boxWord 19 = .ok (.ishr, 1) := by decide +kernel
theorem d_MD_boxWord_20 : decode b_MD_boxWord 20 = .ok (.sipush 255, 3) := by decide +kernel
theorem d_MD_boxWord_23 : decode b_MD_boxWord 23 = .ok (.iand, 1) := by decide +kernel
theorem d_MD_boxWord_24 : decode b_MD_boxWord 24 = .ok (.iaload, 1) := by decide +kernel
theorem d_MD_boxWord_25 : decode b_MD_boxWord 25 = .ok (.bipush 16, 2) := by decide +kernel
theorem d_MD_boxWord_27 : decode b_MD_boxWord 27 = .ok (.ishl, 1) := by decide +kernel
theorem d_MD_boxWord_28 : decode b_MD_boxWord 28 = .ok (.ior, 1) := by decide +kernel
theorem d_MD_boxWord_29 : decode b_MD_boxWord 29 = .ok (.aload_n 0, 1) := by decide +kernel
theorem d_MD_boxWord_30 : decode b_MD_boxWord 30 = .ok (.getfield 32, 3) := by decide +kernel
theorem d_MD_boxWord_33 : decode b_MD_boxWord 33 = .ok (.iload_n 1, 1) := by decide +kernel
theorem d_MD_boxWord_34 : decode b_MD_boxWord 34 = .ok (.bipush 8, 2) := by decide +kernel
theorem d_MD_boxWord_36 : decode b_MD_boxWord 36 = .ok (.ishr, 1) := by decide +kernel
theorem d_MD_boxWord_37 : decode b_MD_boxWord 37 = .ok (.sipush 255, 3) := by decide +kernel
theorem d_MD_boxWord_40 : decode b_MD_boxWord 40 = .ok (.iand, 1) := by decide +kernel
theorem d_MD_boxWord_41 : decode b_MD_boxWord 41 = .ok (.iaload, 1) := by decide +kernel
theorem d_MD_boxWord_42 : decode b_MD_boxWord 42 = .ok (.bipush 8, 2) := by decide +kernel
theorem d_MD_boxWord_44 : decode b_MD_boxWord 44 = .ok (.ishl, 1) := by decide +kernel
theorem d_MD_boxWord_45 : decode b_MD_boxWord 45 = .ok (.ior, 1) := by decide +kernel
theorem d_MD_boxWord_46 : decode b_MD_boxWord 46 = .ok (.aload_n 0, 1) := by decide +kernel
theorem d_MD_boxWord_47 : decode b_MD_boxWord 47 = .ok (.getfield 32, 3) := by decide +kernel
theorem d_MD_boxWord_50 : decode b_MD_boxWord 50 = .ok (.iload_n 1, 1) := by decide +kernel
theorem d_MD_boxWord_51 : decode b_MD_boxWord 51 = .ok (.sipush 255, 3) := by decide +kernel
theorem d_MD_boxWord_54 : decode b_MD_boxWord 54 = .ok (.iand, 1) := by decide +kernel
theorem d_MD_boxWord_55 : decode b_MD_boxWord 55 = .ok (.iaload, 1) := by decide +kernel
theorem d_MD_boxWord_56 : decode b_MD_boxWord 56 = .ok (.ior, 1) := by decide +kernel
theorem d_MD_boxWord_57 : decode b_MD_boxWord 57 = .ok (.ireturn, 1) := by decide +kernel
theorem d_MD_expand_0 : decode b_MD_expand 0 = .ok (.iconst 1, 1) := by decide +kernel
theorem d_MD_expand_1 : decode b_MD_expand 1 = .ok (.istore_n 2, 1) := by decide +kernel
theorem d_MD_expand_2 : decode b_MD_expand 2 = .ok (.iconst 0, 1) := by decide +kernel
theorem d_MD_expand_3 : decode b_MD_expand 3 = .ok (.istore_n 3, 1) := by decide +kernel
theorem d_MD_expand_4 : decode b_MD_expand 4 = .ok (.iload_n 3, 1) := by decide +kernel
theorem d_MD_expand_5 : decode b_MD_expand 5 = .ok (.bipush 44, 2) := by decide +kernel
theorem d_MD_expand_7 : decode b_MD_expand 7 = .ok (.if_icmp .ge 92, 3) := by decide +kernel
theorem d_MD_expand_10 : decode b_MD_expand 10 = .ok (.iload_n 3, 1) := by decide +kernel
theorem d_MD_expand_11 : decode b_MD_expand 11 = .ok (.iconst 4, 1) := by decide +kernel
theorem d_MD_expand_12 : decode b_MD_expand 12 = .ok (.if_icmp .ge 20, 3) := by decide +kernel
theorem d_MD_expand_15 : decode b_MD_expand 15 = .ok (.aload_n 0, 1) := by decide +kernel
theorem d_MD_expand_16 : decode b_MD_expand 16 = .ok (.getfield 35, 3) := by decide +kernel
theorem d_MD_expand_19 : decode b_MD_expand 19 = .ok (.iload_n 3, 1) := by decide +kernel
theorem d_MD_expand_20 : decode b_MD_expand 20 = .ok (.aload_n 0, 1) := by decide +kernel
theorem d_MD_expand_21 : decode b_MD_expand 21 = .ok (.getfield 13, 3) := by decide +kernel
theorem d_MD_expand_24 : decode b_MD_expand 24 = .ok (.iload_n 1, 1) := by decide +kernel
theorem d_MD_expand_25 : decode b_MD_expand 25 = .ok (.iload_n 3, 1) := by decide +kernel
theorem d_MD_expand_26 : decode b_MD_expand 26 = .ok (.iadd, 1) := by decide +kernel
theorem d_MD_expand_27 : decode b_MD_expand 27 = .ok (.iaload, 1) := by decide +kernel
theorem d_MD_expand_28 : decode b_MD_expand 28 = .ok (.iastore, 1) := by decide +kernel
theorem d_MD_expand_29 : decode b_MD_expand 29 = .ok (.goto 64, 3) := by decide +kernel
theorem d_MD_expand_32 : decode b_MD_expand 32 = .ok (.aload_n 0, 1) := by decide +kernel
theorem d_MD_expand_33 : decode b_MD_expand 33 = .ok (.getfield 35, 3) := by decide +kernel
theorem d_MD_expand_36 : decode b_MD_expand 36 = .ok (.iload_n 3, 1) := by decide +kernel
theorem d_MD_expand_37 : decode b_MD_expand 37 = .ok (.iconst 1, 1) := by decide +kernel
theorem d_MD_expand_38 : decode b_MD_expand 38 = .ok (.isub, 1) := by decide +kernel
theorem d_MD_expand_39 : decode b_MD_expand 39 = .ok (.iaload, 1) := by decide +kernel
theorem d_MD_expand_40 : decode b_MD_expand 40 = .ok (.istore 4, 2) := by decide +kernel
theorem d_MD_expand_42 : decode b_MD_expand 42 = .ok (.iload_n 3, 1) := by decide +kernel
theorem d_MD_expand_43 : decode b_MD_expand 43 = .ok (.iconst 4, 1) := by decide +kernel
theorem d_MD_expand_44 : decode b_MD_expand 44 = .ok (.irem, 1) := by decide +kernel
theorem d_MD_expand_45 : decode b_MD_expand 45 = .ok (.ifCond .ne 31, 3) := by decide +kernel
theorem d_MD_expand_48 : decode b_MD_expand 48 = .ok (.aload_n 0, 1) := by decide +kernel
theorem d_MD_expand_49 : decode b_MD_expand 49 = .ok (.iload 4, 2) := by decide +kernel
theorem d_MD_expand_51 : decode b_MD_expand 51 = .ok (.bipush 8, 2) := by decide +kernel
theorem d_MD_expand_53 : decode b_MD_expand 53 = .ok (.ishl, 1) := by decide +kernel
theorem d_MD_expand_54 : decode b_MD_expand 54 = .ok (.iload 4, 2) := by decide +kernel
theorem d_MD_expand_56 : decode b_MD_expand 56 = .ok (.bipush 24, 2) := by decide +kernel
theorem d_MD_expand_58 : decode b_MD_expand 58 = .ok (.iushr, 1) := by decide +kernel
theorem d_MD_expand_59 : decode b_MD_expand 59 = .ok (.ior, 1) := by decide +kernel
theorem d_MD_expand_60 : decode b_MD_expand 60 = .ok (.invokevirtual 152, 3) := by decide +kernel
theorem d_MD_expand_63 : decode b_MD_expand 63 = .ok (.iload_n 2, 1) := by decide +kernel
theorem d_MD_expand_64 : decode b_MD_expand 64 = .ok (.bipush 24, 2) := by decide +kernel
theorem d_MD_expand_66 : decode b_MD_expand 66 = .ok (.ishl, 1) := by decide +kernel
theorem d_MD_expand_67 : decode b_MD_expand 67 = .ok (.ixor, 1) := by decide +kernel
theorem d_MD_expand_68 : decode b_MD_expand 68 = .ok (.istore 4, 2) := by decide +kernel
theorem d_MD_expand_70 : decode b_MD_expand 70 = .ok (.iload_n 2, 1) := by decide +kernel
theorem d_MD_expand_71 : decode b_MD_expand 71 = .ok (.iconst 2, 1) := by decide +kernel
theorem d_MD_expand_72 : decode b_MD_expand 72 = .ok (.invokestatic 148, 3) := by decide +kernel
theorem d_MD_expand_75 : decode b_MD_expand 75 = .ok (.istore_n 2, 1) := by decide +kernel
theorem d_MD_expand_76 : decode b_MD_expand 76 = .ok (.aload_n 0, 1) := by decide +kernel
theorem d_MD_expand_77 : decode b_MD_expand 77 = .ok (.getfield 35, 3) := by decide +kernel
theorem d_MD_expand_80 : decode b_MD_expand 80 = .ok (.iload_n 3, 1) := by decide +kernel
theorem d_MD_expand_81 : decode b_MD_expand 81 = .ok (.aload_n 0, 1) := by decide +kernel
theorem d_MD_expand_82 : decode b_MD_expand 82 = .ok (.getfield 35, 3) := by decide +kernel
theorem d_MD_expand_85 : decode b_MD_expand 85 = .ok (.iload_n 3, 1) := by decide +kernel
theorem d_MD_expand_86 : decode b_MD_expand 86 = .ok (.iconst 4, 1) := by decide +kernel
theorem d_MD_expand_87 : decode b_MD_expand 87 = .ok (.isub, 1) := by decide +kernel
theorem d_MD_expand_88 : decode b_MD_expand 88 = .ok (.iaload, 1) := by decide +kernel
theorem d_MD_expand_89 : decode b_MD_expand 89 = .ok (.iload 4, 2) := by decide +kernel
theorem d_MD_expand_91 : decode b_MD_expand 91 = .ok (.ixor, 1) := by decide +kernel
theorem d_MD_expand_92 : decode b_MD_expand 92 = .ok (.iastore, 1) := by decide +kernel
theorem d_MD_expand_93 : decode b_MD_expand 93 = .ok (.iinc 3 1, 3) := by decide +kernel
theorem d_MD_expand_96 : decode b_MD_expand 96 = .ok (.goto (-92), 3) := by decide +kernel
theorem d_MD_expand_99 : decode b_MD_expand 99 = .ok (.return_, 1) := by decide +kernel
theorem d_MD_addWords_0 : decode b_MD_addWords 0 = .ok (.iconst 0, 1) := by decide +kernel
theorem d_MD_addWords_1 : decode b_MD_addWords 1 = .ok (.istore_n 2, 1) := by decide +kernel
theorem d_MD_addWords_2 : decode b_MD_addWords 2 = .ok (.iload_n 2, 1) := by decide +kernel
theorem d_MD_addWords_3 : decode b_MD_addWords 3 = .ok (.bipush 16, 2) := by decide +kernel
theorem d_MD_addWords_5 : decode b_MD_addWords 5 = .ok (.if_icmp .ge 46, 3) := by decide +kernel
theorem d_MD_addWords_8 : decode b_MD_addWords 8 = .ok (.aload_n 0, 1) := by decide +kernel
theorem d_MD_addWords_9 : decode b_MD_addWords 9 = .ok (.getfield 38, 3) := by decide +kernel
theorem d_MD_addWords_12 : decode b_MD_addWords 12 = .ok (.iload_n 2, 1) := by decide +kernel
theorem d_MD_addWords_13 : decode b_MD_addWords 13 = .ok (.aload_n 0, 1) := by decide +kernel
theorem d_MD_addWords_14 : decode b_MD_addWords 14 = .ok (.getfield 38, 3) := by decide +kernel
theorem d_MD_addWords_17 : decode b_MD_addWords 17 = .ok (.iload_n 2, 1) := by decide +kernel
theorem d_MD_addWords_18 : decode b_MD_addWords 18 = .ok (.iaload, 1) := by decide +kernel
theorem d_MD_addWords_19 : decode b_MD_addWords 19 = .ok (.aload_n 0, 1) := by decide +kernel
theorem d_MD_addWords_20 : decode b_MD_addWords 20 = .ok (.getfield 35, 3) := by decide +kernel
theorem d_MD_addWords_23 : decode b_MD_addWords 23 = .ok (.iload_n 1, 1) := by decide +kernel
theorem d_MD_addWords_24 : decode b_MD_addWords 24 = .ok (.iload_n 2, 1) := by decide +kernel
theorem d_MD_addWords_25 : decode b_MD_addWords 25 = .ok (.iconst 4, 1) := by decide +kernel
theorem d_MD_addWords_26 : decode b_MD_addWords 26 = .ok (.idiv, 1) := by decide +kernel
theorem d_MD_addWords_27 : decode b_MD_addWords 27 = .ok (.iadd, 1) := by decide +kernel
theorem d_MD_addWords_28 : decode b_MD_addWords 28 = .ok (.iaload, 1) := by decide +kernel
theorem d_MD_addWords_29 : decode b_MD_addWords 29 = .ok (.bipush 24, 2) := by decide +kernel
theorem d_MD_addWords_31 : decode b_MD_addWords 31 = .ok (.bipush 8, 2) := by decide +kernel
theorem d_MD_addWords_33 : decode b_MD_addWords 33 = .ok (.iload_n 2, 1) := by decide +kernel
theorem d_MD_addWords_34 : decode b_MD_addWords 34 = .ok (.iconst 4, 1) := by decide +kernel
theorem d_MD_addWords_35 : decode b_MD_addWords 35 = .ok (.irem, 1) := by decide +kernel
theorem d_MD_addWords_36 : decode b_MD_addWords 36 = .ok (.imul, 1) := by decide +kernel
theorem d_MD_addWords_37 : decode b_MD_addWords 37 = .ok (.isub, 1) := by decide +kernel
theorem d_MD_addWords_38 : decode b_MD_addWords 38 = .ok (.ishr, 1) := by decide +kernel
theorem d_MD_addWords_39 : decode b_MD_addWords 39 = .ok (.sipush 255, 3) := by decide +kernel
theorem d_MD_addWords_42 : decode b_MD_addWords 42 = .ok (.iand, 1) := by decide +kernel
theorem d_MD_addWords_43 : decode b_MD_addWords 43 = .ok (.ixor, 1) := by decide +kernel
theorem d_MD_addWords_44 : decode b_MD_addWords 44 = .ok (.iastore, 1) := by decide +kernel
theorem d_MD_addWords_45 : decode b_MD_addWords 45 = .ok (.iinc 2 1, 3) := by decide +kernel
theorem d_MD_addWords_48 : decode b_MD_addWords 48 = .ok (.goto (-46), 3) := by decide +kernel
theorem d_MD_addWords_51 : decode b_MD_addWords 51 = .ok (.return_, 1) := by decide +kernel
theorem d_MD_encipher_0 : decode b_MD_encipher 0 = .ok (.iconst 0, 1) := by decide +kernel
theorem d_MD_encipher_1 : decode b_MD_encipher 1 = .ok (.istore_n 2, 1) := by decide +kernel
theorem d_MD_encipher_2 : decode b_MD_encipher 2 = .ok (.iload_n 2, 1) := by decide +kernel
theorem d_MD_encipher_3 : decode b_MD_encipher 3 = .ok (.bipush 16, 2) := by decide +kernel
theorem d_MD_encipher_5 : decode b_MD_encipher 5 = .ok (.if_icmp .ge 41, 3) := by decide +kernel
theorem d_MD_encipher_8 : decode b_MD_encipher 8 = .ok (.aload_n 0, 1) := by decide +kernel
theorem d_MD_encipher_9 : decode b_MD_encipher 9 = .ok (.getfield 38, 3) := by decide +kernel
theorem d_MD_encipher_12 : decode b_MD_encipher 12 = .ok (.iload_n 2, 1) := by decide +kernel
theorem d_MD_encipher_13 : decode b_MD_encipher 13 = .ok (.aload_n 0, 1) := by decide +kernel
theorem d_MD_encipher_14 : decode b_MD_encipher 14 = .ok (.getfield 13, 3) := by decide +kernel
theorem d_MD_encipher_17 : decode b_MD_encipher 17 = .ok (.iload_n 1, 1) := by decide +kernel
theorem d_MD_encipher_18 : decode b_MD_encipher 18 = .ok (.iconst 4, 1) := by decide +kernel
theorem d_MD_encipher_19 : decode b_MD_encipher 19 = .ok (.iadd, 1) := by decide +kernel
theorem d_MD_encipher_20 : decode b_MD_encipher 20 = .ok (.iload_n 2, 1) := by decide +kernel
theorem d_MD_encipher_21 : decode b_MD_encipher 21 = .ok (.iconst 4, 1) := by decide +kernel
theorem d_MD_encipher_22 : decode b_MD_encipher 22 = .ok (.idiv, 1) := by decide +kernel
theorem d_MD_encipher_23 : decode b_MD_encipher 23 = .ok (.iadd, 1) := by decide +kernel
theorem d_MD_encipher_24 : decode b_MD_encipher 24 = .ok (.iaload, 1) := by decide +kernel
theorem d_MD_encipher_25 : decode b_MD_encipher 25 = .ok (.bipush 24, 2) := by decide +kernel
theorem d_MD_encipher_27 : decode b_MD_encipher 27 = .ok (.bipush 8, 2) := by decide +kernel
theorem d_MD_encipher_29 : decode b_MD_encipher 29 = .ok (.iload_n 2, 1) := by decide +kernel
theorem d_MD_encipher_30 : decode b_MD_encipher 30 = .ok (.iconst 4, 1) := by decide +kernel
theorem d_MD_encipher_31 : decode b_MD_encipher 31 = .ok (.irem, 1) := by decide +kernel
theorem d_MD_encipher_32 : decode b_MD_encipher 32 = .ok (.imul, 1) := by decide +kernel
theorem d_MD_encipher_33 : decode b_MD_encipher 33 = .ok (.isub, 1) := by decide +kernel
theorem d_MD_encipher_34 : decode b_MD_encipher 34 = .ok (.ishr, 1) := by decide +kernel
theorem d_MD_encipher_35 : decode b_MD_encipher 35 = .ok (.sipush 255, 3) := by decide +kernel
theorem d_MD_encipher_38 : decode b_MD_encipher 38 = .ok (.iand, 1) := by decide +kernel
theorem d_MD_encipher_39 : decode b_MD_encipher 39 = .ok (.iastore, 1) := by decide +kernel
theorem d_MD_encipher_40 : decode b_MD_encipher 40 = .ok (.iinc 2 1, 3) := by decide +kernel
theorem d_MD_encipher_43 : decode b_MD_encipher 43 = .ok (.goto (-41), 3) := by decide +kernel
theorem d_MD_encipher_46 : decode b_MD_encipher 46 = .ok (.aload_n 0, 1) := by decide +kernel
theorem d_MD_encipher_47 : decode b_MD_encipher 47 = .ok (.iconst 0, 1) := by decide +kernel
theorem d_MD_encipher_48 : decode b_MD_encipher 48 = .ok (.invokevirtual 155, 3) := by decide +kernel
theorem d_MD_encipher_51 : decode b_MD_encipher 51 = .ok (.iconst 1, 1) := by decide +kernel
theorem d_MD_encipher_52 : decode b_MD_encipher 52 = .ok (.istore_n 2, 1) := by decide +kernel
theorem d_MD_encipher_53 : decode b_MD_encipher 53 = .ok (.iload_n 2, 1) := by decide +kernel
theorem d_MD_encipher_54 : decode b_MD_encipher 54 = .ok (.bipush 11, 2) := by decide +kernel
theorem d_MD_encipher_56 : decode b_MD_encipher 56 = .ok (.if_icmp .ge 182, 3) := by decide +kernel
theorem d_MD_encipher_59 : decode b_MD_encipher 59 = .ok (.iconst 0, 1) := by decide +kernel
theorem d_MD_encipher_60 : decode b_MD_encipher 60 = .ok (.istore_n 3, 1) := by decide +kernel
theorem d_MD_encipher_61 : decode b_MD_encipher 61 = .ok (.iload_n 3, 1) := by decide +kernel
theorem d_MD_encipher_62 : decode b_MD_encipher 62 = .ok (.iconst 4, 1) := by decide +kernel
theorem d_MD_encipher_63 : decode b_MD_encipher 63 = .ok (.if_icmp .ge 56, 3) := by decide +kernel
theorem d_MD_encipher_66 : decode b_MD_encipher 66 = .ok (.iconst 0, 1) := by decide +kernel
theorem d_MD_encipher_67 : decode b_MD_encipher 67 = .ok (.istore 4, 2) := by decide +kernel
theorem d_MD_encipher_69 : decode b_MD_encipher 69 = .ok (.iload 4, 2) := by decide +kernel
theorem d_MD_encipher_71 : decode b_MD_encipher 71 = .ok (.iconst 4, 1) := by decide +kernel
theorem d_MD_encipher_72 : decode b_MD_encipher 72 = .ok (.if_icmp .ge 41, 3) := by decide +kernel
theorem d_MD_encipher_75 : decode b_MD_encipher 75 = .ok (.aload_n 0, 1) := by decide +kernel
theorem d_MD_encipher_76 : decode b_MD_encipher 76 = .ok (.getfield 41, 3) := by decide +kernel
theorem d_MD_encipher_79 : decode b_MD_encipher 79 = .ok (.iconst 4, 1) := by decide +kernel
theorem d_MD_encipher_80 : decode b_MD_encipher 80 = .ok (.iload_n 3, 1) := by decide +kernel
theorem d_MD_encipher_81 : decode b_MD_encipher 81 = .ok (.imul, 1) := by decide +kernel
theorem d_MD_encipher_82 : decode b_MD_encipher 82 = .ok (.iload 4, 2) := by decide +kernel
theorem d_MD_encipher_84 : decode b_MD_encipher 84 = .ok (.iadd, 1) := by decide +kernel
theorem d_MD_encipher_85 : decode b_MD_encipher 85 = .ok (.aload_n 0, 1) := by decide +kernel
theorem d_MD_encipher_86 : decode b_MD_encipher 86 = .ok (.getfield 32, 3) := by decide +kernel
theorem d_MD_encipher_89 : decode b_MD_encipher 89 = .ok (.aload_n 0, 1) := by decide +kernel
theorem d_MD_encipher_90 : decode b_MD_encipher 90 = .ok (.getfield 38, 3) := by decide +kernel
theorem d_MD_encipher_93 : decode b_MD_encipher 93 = .ok (.iconst 4, 1) := by decide +kernel
theorem d_MD_encipher_94 : decode b_MD_encipher 94 = .ok (.iload_n 3, 1) := by decide +kernel
theorem d_MD_encipher_95 : decode b_MD_encipher 95 = .ok (.iload 4, 2) := by decide +kernel
theorem d_MD_encipher_97 : decode b_MD_encipher 97 = .ok (.iadd, 1) := by decide +kernel
theorem d_MD_encipher_98 : decode b_MD_encipher 98 = .ok (.iconst 4, 1) := by decide +kernel
theorem d_MD_encipher_99 : decode b_MD_encipher 99 = .ok (.irem, 1) := by decide +kernel
theorem d_MD_encipher_100 : decode b_MD_encipher 100 = .ok (.imul, 1) := by decide +kernel
theorem d_MD_encipher_101 : decode b_MD_encipher 101 = .ok (.iload 4, 2) := by decide +kernel
theorem d_MD_encipher_103 : decode b_MD_encipher 103 = .ok (.iadd, 1) := by decide +kernel
theorem d_MD_encipher_104 : decode b_MD_encipher 104 = .ok (.iaload, 1) := by decide +kernel
theorem d_MD_encipher_105 : decode b_MD_encipher 105 = .ok (.iaload, 1) := by decide +kernel
theorem d_MD_encipher_106 : decode b_MD_encipher 106 = .ok (.iastore, 1) := by decide +kernel
theorem d_MD_encipher_107 : decode b_MD_encipher 107 = .ok (.iinc 4 1, 3) := by decide +kernel
theorem d_MD_encipher_110 : decode b_MD_encipher 110 = .ok (.goto (-41), 3) := by decide +kernel
theorem d_MD_encipher_113 : decode b_MD_encipher 113 = .ok (.iinc 3 1, 3) := by decide +kernel
theorem d_MD_encipher_116 : decode b_MD_encipher 116 = .ok (.goto (-55), 3) := by decide +kernel
theorem d_MD_encipher_119 : decode b_MD_encipher 119 = .ok (.iconst 0, 1) := by decide +kernel
theorem d_MD_encipher_120 : decode b_MD_encipher 120 = .ok (.istore_n 3, 1) := by decide +kernel
theorem d_MD_encipher_121 : decode b_MD_encipher 121 = .ok (.iload_n 3, 1) := by decide +kernel
theorem d_MD_encipher_122 : decode b_MD_encipher 122 = .ok (.bipush 16, 2) := by decide +kernel
theorem d_MD_encipher_124 : decode b_MD_encipher 124 = .ok (.if_icmp .ge 101, 3) := by decide +kernel
theorem d_MD_encipher_127 : decode b_MD_encipher 127 = .ok (.iload_n 3, 1) := by decide +kernel
theorem d_MD_encipher_128 : decode b_MD_encipher 128 = .ok (.iconst 4, 1) := by decide +kernel
theorem d_MD_encipher_129 : decode b_MD_encipher 129 = .ok (.idiv, 1) := by decide +kernel
theorem d_MD_encipher_130 : decode b_MD_encipher 130 = .ok (.iconst 4, 1) := by decide +kernel
theorem d_MD_encipher_131 : decode b_MD_encipher 131 = .ok (.imul, 1) := by decide +kernel
theorem d_MD_encipher_132 : decode b_MD_encipher 132 = .ok (.istore 4, 2) := by decide +kernel
theorem d_MD_encipher_134 : decode b_MD_encipher 134 = .ok (.iload_n 3, 1) := by decide +kernel
theorem d_MD_encipher_135 : decode b_MD_encipher 135 = .ok (.iconst 4, 1) := by decide +kernel
theorem d_MD_encipher_136 : decode b_MD_encipher 136 = .ok (.irem, 1) := by decide +kernel
theorem d_MD_encipher_137 : decode b_MD_encipher 137 = .ok (.istore 5, 2) := by decide +kernel
theorem d_MD_encipher_139 : decode b_MD_encipher 139 = .ok (.aload_n 0, 1) := by decide +kernel
theorem d_MD_encipher_140 : decode b_MD_encipher 140 = .ok (.getfield 38, 3) := by decide +kernel
theorem d_MD_encipher_143 : decode b_MD_encipher 143 = .ok (.iload_n 3, 1) := by decide +kernel
theorem d_MD_encipher_144 : decode b_MD_encipher 144 = .ok (.iload_n 2, 1) := by decide +kernel
theorem d_MD_encipher_145 : decode b_MD_encipher 145 = .ok (.bipush 10, 2) := by decide +kernel
theorem d_MD_encipher_147 : decode b_MD_encipher 147 = .ok (.if_icmp .ne 12, 3) := by decide +kernel
theorem d_MD_encipher_150 : decode b_MD_encipher 150 = .ok (.aload_n 0, 1) := by decide +kernel
theorem d_MD_encipher_151 : decode b_MD_encipher 151 = .ok (.getfield 41, 3) := by decide +kernel
theorem d_MD_encipher_154 : decode b_MD_encipher 154 = .ok (.iload_n 3, 1) := by decide +kernel
theorem d_MD_encipher_155 : decode b_MD_encipher 155 = .ok (.iaload, 1) := by decide +kernel
theorem d_MD_encipher_156 : decode b_MD_encipher 156 = .ok (.goto 62, 3) := by decide +kernel
theorem d_MD_encipher_159 : decode b_MD_encipher 159 = .ok (.iconst 2, 1) := by decide +kernel
theorem d_MD_encipher_160 : decode b_MD_encipher 160 = .ok (.aload_n 0, 1) := by decide +kernel
theorem d_MD_encipher_161 : decode b_MD_encipher 161 = .ok (.getfield 41, 3) := by decide +kernel
theorem d_MD_encipher_164 : decode b_MD_encipher 164 = .ok (.iload_n 3, 1) := by decide +kernel
theorem d_MD_encipher_165 : decode b_MD_encipher 165 = .ok (.iaload, 1) := by decide +kernel
theorem d_MD_encipher_166 : decode b_MD_encipher 166 = .ok (.invokestatic 148, 3) := by decide +kernel
theorem d_MD_encipher_169 : decode b_MD_encipher 169 = .ok (.iconst 3, 1) := by decide +kernel
theorem d_MD_encipher_170 : decode b_MD_encipher 170 = .ok (.aload_n 0, 1) := by decide +kernel
theorem d_MD_encipher_171 : decode b_MD_encipher 171 = .ok (.getfield 41, 3) := by decide +kernel
theorem d_MD_encipher_174 : decode b_MD_encipher 174 = .ok (.iload 4, 2) := by decide +kernel
theorem d_MD_encipher_176 : decode b_MD_encipher 176 = .ok (.iload 5, 2) := by decide +kernel
theorem d_MD_encipher_178 : decode b_MD_encipher 178 = .ok (.iconst 1, 1) := by decide +kernel
theorem d_MD_encipher_179 : decode b_MD_encipher 179 = .ok (.iadd, 1) := by decide +kernel
theorem d_MD_encipher_180 : decode b_MD_encipher 180 = .ok (.iconst 4, 1) := by decide +kernel
theorem d_MD_encipher_181 : decode b_MD_encipher 181 = .ok (.irem, 1) := by decide +kernel
theorem d_MD_encipher_182 : decode b_MD_encipher 182 = .ok (.iadd, 1) := by decide +kernel
theorem d_MD_encipher_183 : decode b_MD_encipher 183 = .ok (.iaload, 1) := by decide +kernel
theorem d_MD_encipher_184 : decode b_MD_encipher 184 = .ok (.invokestatic 148, 3) := by decide +kernel
theorem d_MD_encipher_187 : decode b_MD_encipher 187 = .ok (.ixor, 1) := by decide +kernel
theorem d_MD_encipher_188 : decode b_MD_encipher 188 = .ok (.aload_n 0, 1) := by decide +kernel
theorem d_MD_encipher_189 : decode b_MD_encipher 189 = .ok (.getfield 41, 3) := by decide +kernel
theorem d_MD_encipher_192 : decode b_MD_encipher 192 = .ok (.iload 4, 2) := by decide +kernel
