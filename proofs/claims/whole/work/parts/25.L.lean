theorem dL_law_0 : decode cL_law 0 = .ok (.new 7, 3) := by decide +kernel
theorem dL_law_3 : decode cL_law 3 = .ok (.dup, 1) := by decide +kernel
theorem dL_law_4 : decode cL_law 4 = .ok (.invokespecial 9, 3) := by decide +kernel
theorem dL_law_7 : decode cL_law 7 = .ok (.astore_n 1, 1) := by decide +kernel
theorem dL_law_8 : decode cL_law 8 = .ok (.new 10, 3) := by decide +kernel
theorem dL_law_11 : decode cL_law 11 = .ok (.dup, 1) := by decide +kernel
theorem dL_law_12 : decode cL_law 12 = .ok (.invokespecial 12, 3) := by decide +kernel
theorem dL_law_15 : decode cL_law 15 = .ok (.astore_n 2, 1) := by decide +kernel
theorem dL_law_16 : decode cL_law 16 = .ok (.iconst 0, 1) := by decide +kernel
theorem dL_law_17 : decode cL_law 17 = .ok (.istore_n 3, 1) := by decide +kernel
theorem dL_law_18 : decode cL_law 18 = .ok (.iload_n 3, 1) := by decide +kernel
theorem dL_law_19 : decode cL_law 19 = .ok (.aload_n 0, 1) := by decide +kernel
theorem dL_law_20 : decode cL_law 20 = .ok (.arraylength, 1) := by decide +kernel
theorem dL_law_21 : decode cL_law 21 = .ok (.bipush 6, 2) := by decide +kernel
theorem dL_law_23 : decode cL_law 23 = .ok (.isub, 1) := by decide +kernel
theorem dL_law_24 : decode cL_law 24 = .ok (.if_icmp .gt 1562, 3) := by decide +kernel
theorem dL_law_27 : decode cL_law 27 = .ok (.aload_n 0, 1) := by decide +kernel
theorem dL_law_28 : decode cL_law 28 = .ok (.iload_n 3, 1) := by decide +kernel
theorem dL_law_29 : decode cL_law 29 = .ok (.iaload, 1) := by decide +kernel
theorem dL_law_30 : decode cL_law 30 = .ok (.bipush 63, 2) := by decide +kernel
theorem dL_law_32 : decode cL_law 32 = .ok (.iand, 1) := by decide +kernel
theorem dL_law_33 : decode cL_law 33 = .ok (.tableswitch 1547 0 46 #[203, 216, 230, 244, 287, 360, 394, 457, 520, 543, 566, 589, 612, 645, 668, 701, 744, 767, 790, 813, 826, 849, 872, 905, 928, 951, 1004, 1037, 1070, 1103, 1146, 1179, 1202, 1225, 1258, 1281, 1304, 1337, 1350, 1363, 1386, 1409, 1432, 1455, 1488, 1521, 1534], 203) := by decide +kernel
theorem dL_law_236 : decode cL_law 236 = .ok (.aload_n 1, 1) := by decide +kernel
theorem dL_law_237 : decode cL_law 237 = .ok (.invokevirtual 13, 3) := by decide +kernel
theorem dL_law_240 : decode cL_law 240 = .ok (.aload_n 2, 1) := by decide +kernel
theorem dL_law_241 : decode cL_law 241 = .ok (.invokevirtual 17, 3) := by decide +kernel
theorem dL_law_244 : decode cL_law 244 = .ok (.if_icmp .eq 1336, 3) := by decide +kernel
theorem dL_law_247 : decode cL_law 247 = .ok (.iconst 0, 1) := by decide +kernel
theorem dL_law_248 : decode cL_law 248 = .ok (.ireturn, 1) := by decide +kernel
theorem dL_law_249 : decode cL_law 249 = .ok (.aload_n 1, 1) := by decide +kernel
theorem dL_law_250 : decode cL_law 250 = .ok (.invokevirtual 18, 3) := by decide +kernel
theorem dL_law_253 : decode cL_law 253 = .ok (.aload_n 2, 1) := by decide +kernel
theorem dL_law_254 : decode cL_law 254 = .ok (.invokevirtual 22, 3) := by decide +kernel
theorem dL_law_257 : decode cL_law 257 = .ok (.lcmp, 1) := by decide +kernel
theorem dL_law_258 : decode cL_law 258 = .ok (.ifCond .eq 1322, 3) := by decide +kernel
theorem dL_law_261 : decode cL_law 261 = .ok (.iconst 0, 1) := by decide +kernel
theorem dL_law_262 : decode cL_law 262 = .ok (.ireturn, 1) := by decide +kernel
theorem dL_law_263 : decode cL_law 263 = .ok (.aload_n 1, 1) := by decide +kernel
theorem dL_law_264 : decode cL_law 264 = .ok (.invokevirtual 23, 3) := by decide +kernel
theorem dL_law_267 : decode cL_law 267 = .ok (.aload_n 2, 1) := by decide +kernel
theorem dL_law_268 : decode cL_law 268 = .ok (.invokevirtual 26, 3) := by decide +kernel
theorem dL_law_271 : decode cL_law 271 = .ok (.lcmp, 1) := by decide +kernel
theorem dL_law_272 : decode cL_law 272 = .ok (.ifCond .eq 1308, 3) := by decide +kernel
theorem dL_law_275 : decode cL_law 275 = .ok (.iconst 0, 1) := by decide +kernel
theorem dL_law_276 : decode cL_law 276 = .ok (.ireturn, 1) := by decide +kernel
theorem dL_law_277 : decode cL_law 277 = .ok (.aload_n 1, 1) := by decide +kernel
theorem dL_law_278 : decode cL_law 278 = .ok (.aload_n 0, 1) := by decide +kernel
theorem dL_law_279 : decode cL_law 279 = .ok (.iload_n 3, 1) := by decide +kernel
theorem dL_law_280 : decode cL_law 280 = .ok (.iconst 1, 1) := by decide +kernel
theorem dL_law_281 : decode cL_law 281 = .ok (.iadd, 1) := by decide +kernel
theorem dL_law_282 : decode cL_law 282 = .ok (.iaload, 1) := by decide +kernel
theorem dL_law_283 : decode cL_law 283 = .ok (.aload_n 0, 1) := by decide +kernel
theorem dL_law_284 : decode cL_law 284 = .ok (.iload_n 3, 1) := by decide +kernel
theorem dL_law_285 : decode cL_law 285 = .ok (.iconst 2, 1) := by decide +kernel
theorem dL_law_286 : decode cL_law 286 = .ok (.iadd, 1) := by decide +kernel
theorem dL_law_287 : decode cL_law 287 = .ok (.iaload, 1) := by decide +kernel
theorem dL_law_288 : decode cL_law 288 = .ok (.aload_n 0, 1) := by decide +kernel
theorem dL_law_289 : decode cL_law 289 = .ok (.iload_n 3, 1) := by decide +kernel
theorem dL_law_290 : decode cL_law 290 = .ok (.iconst 3, 1) := by decide +kernel
theorem dL_law_291 : decode cL_law 291 = .ok (.iadd, 1) := by decide +kernel
theorem dL_law_292 : decode cL_law 292 = .ok (.iaload, 1) := by decide +kernel
theorem dL_law_293 : decode cL_law 293 = .ok (.invokevirtual 27, 3) := by decide +kernel
theorem dL_law_296 : decode cL_law 296 = .ok (.aload_n 2, 1) := by decide +kernel
theorem dL_law_297 : decode cL_law 297 = .ok (.aload_n 0, 1) := by decide +kernel
theorem dL_law_298 : decode cL_law 298 = .ok (.iload_n 3, 1) := by decide +kernel
theorem dL_law_299 : decode cL_law 299 = .ok (.iconst 1, 1) := by decide +kernel
theorem dL_law_300 : decode cL_law 300 = .ok (.iadd, 1) := by decide +kernel
theorem dL_law_301 : decode cL_law 301 = .ok (.iaload, 1) := by decide +kernel
theorem dL_law_302 : decode cL_law 302 = .ok (.aload_n 0, 1) := by decide +kernel
theorem dL_law_303 : decode cL_law 303 = .ok (.iload_n 3, 1) := by decide +kernel
theorem dL_law_304 : decode cL_law 304 = .ok (.iconst 2, 1) := by decide +kernel
theorem dL_law_305 : decode cL_law 305 = .ok (.iadd, 1) := by decide +kernel
theorem dL_law_306 : decode cL_law 306 = .ok (.iaload, 1) := by decide +kernel
theorem dL_law_307 : decode cL_law 307 = .ok (.aload_n 0, 1) := by decide +kernel
theorem dL_law_308 : decode cL_law 308 = .ok (.iload_n 3, 1) := by decide +kernel
theorem dL_law_309 : decode cL_law 309 = .ok (.iconst 3, 1) := by decide +kernel
theorem dL_law_310 : decode cL_law 310 = .ok (.iadd, 1) := by decide +kernel
theorem dL_law_311 : decode cL_law 311 = .ok (.iaload, 1) := by decide +kernel
theorem dL_law_312 : decode cL_law 312 = .ok (.invokevirtual 31, 3) := by decide +kernel
theorem dL_law_315 : decode cL_law 315 = .ok (.if_icmp .eq 1265, 3) := by decide +kernel
theorem dL_law_318 : decode cL_law 318 = .ok (.iconst 0, 1) := by decide +kernel
theorem dL_law_319 : decode cL_law 319 = .ok (.ireturn, 1) := by decide +kernel
theorem dL_law_320 : decode cL_law 320 = .ok (.aload_n 1, 1) := by decide +kernel
theorem dL_law_321 : decode cL_law 321 = .ok (.aload_n 0, 1) := by decide +kernel
theorem dL_law_322 : decode cL_law 322 = .ok (.iload_n 3, 1) := by decide +kernel
theorem dL_law_323 : decode cL_law 323 = .ok (.iconst 1, 1) := by decide +kernel
theorem dL_law_324 : decode cL_law 324 = .ok (.iadd, 1) := by decide +kernel
theorem dL_law_325 : decode cL_law 325 = .ok (.iaload, 1) := by decide +kernel
theorem dL_law_326 : decode cL_law 326 = .ok (.aload_n 0, 1) := by decide +kernel
theorem dL_law_327 : decode cL_law 327 = .ok (.iload_n 3, 1) := by decide +kernel
theorem dL_law_328 : decode cL_law 328 = .ok (.iconst 2, 1) := by decide +kernel
theorem dL_law_329 : decode cL_law 329 = .ok (.iadd, 1) := by decide +kernel
theorem dL_law_330 : decode cL_law 330 = .ok (.iaload, 1) := by decide +kernel
theorem dL_law_331 : decode cL_law 331 = .ok (.aload_n 0, 1) := by decide +kernel
theorem dL_law_332 : decode cL_law 332 = .ok (.iload_n 3, 1) := by decide +kernel
theorem dL_law_333 : decode cL_law 333 = .ok (.iconst 3, 1) := by decide +kernel
theorem dL_law_334 : decode cL_law 334 = .ok (.iadd, 1) := by decide +kernel
theorem dL_law_335 : decode cL_law 335 = .ok (.iaload, 1) := by decide +kernel
theorem dL_law_336 : decode cL_law 336 = .ok (.i2l, 1) := by decide +kernel
theorem dL_law_337 : decode cL_law 337 = .ok (.bipush 32, 2) := by decide +kernel
theorem dL_law_339 : decode cL_law 339 = .ok (.lshl, 1) := by decide +kernel
theorem dL_law_340 : decode cL_law 340 = .ok (.aload_n 0, 1) := by decide +kernel
theorem dL_law_341 : decode cL_law 341 = .ok (.iload_n 3, 1) := by decide +kernel
theorem dL_law_342 : decode cL_law 342 = .ok (.iconst 4, 1) := by decide +kernel
theorem dL_law_343 : decode cL_law 343 = .ok (.iadd, 1) := by decide +kernel
theorem dL_law_344 : decode cL_law 344 = .ok (.iaload, 1) := by decide +kernel
theorem dL_law_345 : decode cL_law 345 = .ok (.i2l, 1) := by decide +kernel
theorem dL_law_346 : decode cL_law 346 = .ok (.ldc2_w 32, 3) := by decide +kernel
theorem dL_law_349 : decode cL_law 349 = .ok (.land, 1) := by decide +kernel
theorem dL_law_350 : decode cL_law 350 = .ok (.lor, 1) := by decide +kernel
theorem dL_law_351 : decode cL_law 351 = .ok (.invokevirtual 34, 3) := by decide +kernel
theorem dL_law_354 : decode cL_law 354 = .ok (.aload_n 2, 1) := by decide +kernel
theorem dL_law_355 : decode cL_law 355 = .ok (.aload_n 0, 1) := by decide +kernel
theorem dL_law_356 : decode cL_law 356 = .ok (.iload_n 3, 1) := by decide +kernel
theorem dL_law_357 : decode cL_law 357 = .ok (.iconst 1, 1) := by decide +kernel
theorem dL_law_358 : decode cL_law 358 = .ok (.iadd, 1) := by decide +kernel
theorem dL_law_359 : decode cL_law 359 = .ok (.iaload, 1) := by decide +kernel
theorem dL_law_360 : decode cL_law 360 = .ok (.aload_n 0, 1) := by decide +kernel
theorem dL_law_361 : decode cL_law 361 = .ok (.iload_n 3, 1) := by decide +kernel
theorem dL_law_362 : decode cL_law 362 = .ok (.iconst 2, 1) := by decide +kernel
theorem dL_law_363 : decode cL_law 363 = .ok (.iadd, 1) := by decide +kernel
theorem dL_law_364 : decode cL_law 364 = .ok (.iaload, 1) := by decide +kernel
theorem dL_law_365 : decode cL_law 365 = .ok (.aload_n 0, 1) := by decide +kernel
theorem dL_law_366 : decode cL_law 366 = .ok (.iload_n 3, 1) := by decide +kernel
theorem dL_law_367 : decode cL_law 367 = .ok (.iconst 3, 1) := by decide +kernel
theorem dL_law_368 : decode cL_law 368 = .ok (.iadd, 1) := by decide +kernel
theorem dL_law_369 : decode cL_law 369 = .ok (.iaload, 1) := by decide +kernel
theorem dL_law_370 : decode cL_law 370 = .ok (.i2l, 1) := by decide +kernel
theorem dL_law_371 : decode cL_law 371 = .ok (.bipush 32, 2) := by decide +kernel
theorem dL_law_373 : decode cL_law 373 = .ok (.lshl, 1) := by decide +kernel
theorem dL_law_374 : decode cL_law 374 = .ok (.aload_n 0, 1) := by decide +kernel
theorem dL_law_375 : decode cL_law 375 = .ok (.iload_n 3, 1) := by decide +kernel
theorem dL_law_376 : decode cL_law 376 = .ok (.iconst 4, 1) := by decide +kernel
theorem dL_law_377 : decode cL_law 377 = .ok (.iadd, 1) := by decide +kernel
theorem dL_law_378 : decode cL_law 378 = .ok (.iaload, 1) := by decide +kernel
theorem dL_law_379 : decode cL_law 379 = .ok (.i2l, 1) := by decide +kernel
theorem dL_law_380 : decode cL_law 380 = .ok (.ldc2_w 32, 3) := by decide +kernel
theorem dL_law_383 : decode cL_law 383 = .ok (.land, 1) := by decide +kernel
theorem dL_law_384 : decode cL_law 384 = .ok (.lor, 1) := by decide +kernel
theorem dL_law_385 : decode cL_law 385 = .ok (.invokevirtual 38, 3) := by decide +kernel
theorem dL_law_388 : decode cL_law 388 = .ok (.if_icmp .eq 1192, 3) := by decide +kernel
theorem dL_law_391 : decode cL_law 391 = .ok (.iconst 0, 1) := by decide +kernel
theorem dL_law_392 : decode cL_law 392 = .ok (.ireturn, 1) := by decide +kernel
theorem dL_law_393 : decode cL_law 393 = .ok (.aload_n 1, 1) := by decide +kernel
theorem dL_law_394 : decode cL_law 394 = .ok (.aload_n 0, 1) := by decide +kernel
theorem dL_law_395 : decode cL_law 395 = .ok (.iload_n 3, 1) := by decide +kernel
theorem dL_law_396 : decode cL_law 396 = .ok (.iconst 1, 1) := by decide +kernel
theorem dL_law_397 : decode cL_law 397 = .ok (.iadd, 1) := by decide +kernel
theorem dL_law_398 : decode cL_law 398 = .ok (.iaload, 1) := by decide +kernel
theorem dL_law_399 : decode cL_law 399 = .ok (.aload_n 0, 1) := by decide +kernel
theorem dL_law_400 : decode cL_law 400 = .ok (.iload_n 3, 1) := by decide +kernel
theorem dL_law_401 : decode cL_law 401 = .ok (.iconst 2, 1) := by decide +kernel
theorem dL_law_402 : decode cL_law 402 = .ok (.iadd, 1) := by decide +kernel
theorem dL_law_403 : decode cL_law 403 = .ok (.iaload, 1) := by decide +kernel
theorem dL_law_404 : decode cL_law 404 = .ok (.invokevirtual 39, 3) := by decide +kernel
theorem dL_law_407 : decode cL_law 407 = .ok (.aload_n 2, 1) := by decide +kernel
theorem dL_law_408 : decode cL_law 408 = .ok (.aload_n 0, 1) := by decide +kernel
theorem dL_law_409 : decode cL_law 409 = .ok (.iload_n 3, 1) := by decide +kernel
theorem dL_law_410 : decode cL_law 410 = .ok (.iconst 1, 1) := by decide +kernel
theorem dL_law_411 : decode cL_law 411 = .ok (.iadd, 1) := by decide +kernel
theorem dL_law_412 : decode cL_law 412 = .ok (.iaload, 1) := by decide +kernel
theorem dL_law_413 : decode cL_law 413 = .ok (.aload_n 0, 1) := by decide +kernel
theorem dL_law_414 : decode cL_law 414 = .ok (.iload_n 3, 1) := by decide +kernel
theorem dL_law_415 : decode cL_law 415 = .ok (.iconst 2, 1) := by decide +kernel
theorem dL_law_416 : decode cL_law 416 = .ok (.iadd, 1) := by decide +kernel
theorem dL_law_417 : decode cL_law 417 = .ok (.iaload, 1) := by decide +kernel
theorem dL_law_418 : decode cL_law 418 = .ok (.invokevirtual 43, 3) := by decide +kernel
theorem dL_law_421 : decode cL_law 421 = .ok (.lcmp, 1) := by decide +kernel
theorem dL_law_422 : decode cL_law 422 = .ok (.ifCond .eq 1158, 3) := by decide +kernel
theorem dL_law_425 : decode cL_law 425 = .ok (.iconst 0, 1) := by decide +kernel
theorem dL_law_426 : decode cL_law 426 = .ok (.ireturn, 1) := by decide +kernel
theorem dL_law_427 : decode cL_law 427 = .ok (.aload_n 1, 1) := by decide +kernel
theorem dL_law_428 : decode cL_law 428 = .ok (.aload_n 0, 1) := by decide +kernel
theorem dL_law_429 : decode cL_law 429 = .ok (.iload_n 3, 1) := by decide +kernel
theorem dL_law_430 : decode cL_law 430 = .ok (.iconst 1, 1) := by decide +kernel
theorem dL_law_431 : decode cL_law 431 = .ok (.iadd, 1) := by decide +kernel
theorem dL_law_432 : decode cL_law 432 = .ok (.iaload, 1) := by decide +kernel
theorem dL_law_433 : decode cL_law 433 = .ok (.aload_n 0, 1) := by decide +kernel
theorem dL_law_434 : decode cL_law 434 = .ok (.iload_n 3, 1) := by decide +kernel
theorem dL_law_435 : decode cL_law 435 = .ok (.iconst 2, 1) := by decide +kernel
theorem dL_law_436 : decode cL_law 436 = .ok (.iadd, 1) := by decide +kernel
theorem dL_law_437 : decode cL_law 437 = .ok (.iaload, 1) := by decide +kernel
theorem dL_law_438 : decode cL_law 438 = .ok (.aload_n 0, 1) := by decide +kernel
theorem dL_law_439 : decode cL_law 439 = .ok (.iload_n 3, 1) := by decide +kernel
theorem dL_law_440 : decode cL_law 440 = .ok (.iconst 3, 1) := by decide +kernel
theorem dL_law_441 : decode cL_law 441 = .ok (.iadd, 1) := by decide +kernel
theorem dL_law_442 : decode cL_law 442 = .ok (.iaload, 1) := by decide +kernel
theorem dL_law_443 : decode cL_law 443 = .ok (.aload_n 0, 1) := by decide +kernel
theorem dL_law_444 : decode cL_law 444 = .ok (.iload_n 3, 1) := by decide +kernel
theorem dL_law_445 : decode cL_law 445 = .ok (.iconst 4, 1) := by decide +kernel
theorem dL_law_446 : decode cL_law 446 = .ok (.iadd, 1) := by decide +kernel
theorem dL_law_447 : decode cL_law 447 = .ok (.iaload, 1) := by decide +kernel
theorem dL_law_448 : decode cL_law 448 = .ok (.aload_n 0, 1) := by decide +kernel
theorem dL_law_449 : decode cL_law 449 = .ok (.iload_n 3, 1) := by decide +kernel
theorem dL_law_450 : decode cL_law 450 = .ok (.iconst 5, 1) := by decide +kernel
theorem dL_law_451 : decode cL_law 451 = .ok (.iadd, 1) := by decide +kernel
theorem dL_law_452 : decode cL_law 452 = .ok (.iaload, 1) := by decide +kernel
theorem dL_law_453 : decode cL_law 453 = .ok (.invokevirtual 44, 3) := by decide +kernel
theorem dL_law_456 : decode cL_law 456 = .ok (.aload_n 2, 1) := by decide +kernel
theorem dL_law_457 : decode cL_law 457 = .ok (.aload_n 0, 1) := by decide +kernel
theorem dL_law_458 : decode cL_law 458 = .ok (.iload_n 3, 1) := by decide +kernel
theorem dL_law_459 : decode cL_law 459 = .ok (.iconst 1, 1) := by decide +kernel
theorem dL_law_460 : decode cL_law 460 = .ok (.iadd, 1) := by decide +kernel
theorem dL_law_461 : decode cL_law 461 = .ok (.iaload, 1) := by decide +kernel
theorem dL_law_462 : decode cL_law 462 = .ok (.aload_n 0, 1) := by decide +kernel
theorem dL_law_463 : decode cL_law 463 = .ok (.iload_n 3, 1) := by decide +kernel
theorem dL_law_464 : decode cL_law 464 = .ok (.iconst 2, 1) := by decide +kernel
theorem dL_law_465 : decode cL_law 465 = .ok (.iadd, 1) := by decide +kernel
theorem dL_law_466 : decode cL_law 466 = .ok (.iaload, 1) := by decide +kernel
theorem dL_law_467 : decode cL_law 467 = .ok (.aload_n 0, 1) := by decide +kernel
theorem dL_law_468 : decode cL_law 468 = .ok (.iload_n 3, 1) := by decide +kernel
theorem dL_law_469 : decode cL_law 469 = .ok (.iconst 3, 1) := by decide +kernel
theorem dL_law_470 : decode cL_law 470 = .ok (.iadd, 1) := by decide +kernel
theorem dL_law_471 : decode cL_law 471 = .ok (.iaload, 1) := by decide +kernel
theorem dL_law_472 : decode cL_law 472 = .ok (.aload_n 0, 1) := by decide +kernel
theorem dL_law_473 : decode cL_law 473 = .ok (.iload_n 3, 1) := by decide +kernel
theorem dL_law_474 : decode cL_law 474 = .ok (.iconst 4, 1) := by decide +kernel
theorem dL_law_475 : decode cL_law 475 = .ok (.iadd, 1) := by decide +kernel
theorem dL_law_476 : decode cL_law 476 = .ok (.iaload, 1) := by decide +kernel
theorem dL_law_477 : decode cL_law 477 = .ok (.aload_n 0, 1) := by decide +kernel
theorem dL_law_478 : decode cL_law 478 = .ok (.iload_n 3, 1) := by decide +kernel
theorem dL_law_479 : decode cL_law 479 = .ok (.iconst 5, 1) := by decide +kernel
theorem dL_law_480 : decode cL_law 480 = .ok (.iadd, 1) := by decide +kernel
theorem dL_law_481 : decode cL_law 481 = .ok (.iaload, 1) := by decide +kernel
theorem dL_law_482 : decode cL_law 482 = .ok (.invokevirtual 48, 3) := by decide +kernel
theorem dL_law_485 : decode cL_law 485 = .ok (.if_icmp .eq 1095, 3) := by decide +kernel
theorem dL_law_488 : decode cL_law 488 = .ok (.iconst 0, 1) := by decide +kernel
theorem dL_law_489 : decode cL_law 489 = .ok (.ireturn, 1) := by decide +kernel
theorem dL_law_490 : decode cL_law 490 = .ok (.aload_n 1, 1) := by decide +kernel
theorem dL_law_491 : decode cL_law 491 = .ok (.aload_n 0, 1) := by decide +kernel
theorem dL_law_492 : decode cL_law 492 = .ok (.iload_n 3, 1) := by decide +kernel
theorem dL_law_493 : decode cL_law 493 = .ok (.iconst 1, 1) := by decide +kernel
theorem dL_law_494 : decode cL_law 494 = .ok (.iadd, 1) := by decide +kernel
theorem dL_law_495 : decode cL_law 495 = .ok (.iaload, 1) := by decide +kernel
theorem dL_law_496 : decode cL_law 496 = .ok (.aload_n 0, 1) := by decide +kernel
theorem dL_law_497 : decode cL_law 497 = .ok (.iload_n 3, 1) := by decide +kernel
theorem dL_law_498 : decode cL_law 498 = .ok (.iconst 2, 1) := by decide +kernel
theorem dL_law_499 : decode cL_law 499 = .ok (.iadd, 1) := by decide +kernel
theorem dL_law_500 : decode cL_law 500 = .ok (.iaload, 1) := by decide +kernel
theorem dL_law_501 : decode cL_law 501 = .ok (.aload_n 0, 1) := by decide +kernel
theorem dL_law_502 : decode cL_law 502 = .ok (.iload_n 3, 1) := by decide +kernel
theorem dL_law_503 : decode cL_law 503 = .ok (.iconst 3, 1) := by decide +kernel
theorem dL_law_504 : decode cL_law 504 = .ok (.iadd, 1) := by decide +kernel
theorem dL_law_505 : decode cL_law 505 = .ok (.iaload, 1) := by decide +kernel
theorem dL_law_506 : decode cL_law 506 = .ok (.aload_n 0, 1) := by decide +kernel
theorem dL_law_507 : decode cL_law 507 = .ok (.iload_n 3, 1) := by decide +kernel
theorem dL_law_508 : decode cL_law 508 = .ok (.iconst 4, 1) := by decide +kernel
theorem dL_law_509 : decode cL_law 509 = .ok (.iadd, 1) := by decide +kernel
theorem dL_law_510 : decode cL_law 510 = .ok (.iaload, 1) := by decide +kernel
theorem dL_law_511 : decode cL_law 511 = .ok (.aload_n 0, 1) := by decide +kernel
theorem dL_law_512 : decode cL_law 512 = .ok (.iload_n 3, 1) := by decide +kernel
theorem dL_law_513 : decode cL_law 513 = .ok (.iconst 5, 1) := by decide +kernel
theorem dL_law_514 : decode cL_law 514 = .ok (.iadd, 1) := by decide +kernel
theorem dL_law_515 : decode cL_law 515 = .ok (.iaload, 1) := by decide +kernel
theorem dL_law_516 : decode cL_law 516 = .ok (.invokevirtual 49, 3) := by decide +kernel
theorem dL_law_519 : decode cL_law 519 = .ok (.aload_n 2, 1) := by decide +kernel
theorem dL_law_520 : decode cL_law 520 = .ok (.aload_n 0, 1) := by decide +kernel
theorem dL_law_521 : decode cL_law 521 = .ok (.iload_n 3, 1) := by decide +kernel
theorem dL_law_522 : decode cL_law 522 = .ok (.iconst 1, 1) := by decide +kernel
theorem dL_law_523 : decode cL_law 523 = .ok (.iadd, 1) := by decide +kernel
theorem dL_law_524 : decode cL_law 524 = .ok (.iaload, 1) := by decide +kernel
theorem dL_law_525 : decode cL_law 525 = .ok (.aload_n 0, 1) := by decide +kernel
theorem dL_law_526 : decode cL_law 526 = .ok (.iload_n 3, 1) := by decide +kernel
theorem dL_law_527 : decode cL_law 527 = .ok (.iconst 2, 1) := by decide +kernel
theorem dL_law_528 : decode cL_law 528 = .ok (.iadd, 1) := by decide +kernel
theorem dL_law_529 : decode cL_law 529 = .ok (.iaload, 1) := by decide +kernel
theorem dL_law_530 : decode cL_law 530 = .ok (.aload_n 0, 1) := by decide +kernel
theorem dL_law_531 : decode cL_law 531 = .ok (.iload_n 3, 1) := by decide +kernel
theorem dL_law_532 : decode cL_law 532 = .ok (.iconst 3, 1) := by decide +kernel
theorem dL_law_533 : decode cL_law 533 = .ok (.iadd, 1) := by decide +kernel
theorem dL_law_534 : decode cL_law 534 = .ok (.iaload, 1) := by decide +kernel
theorem dL_law_535 : decode cL_law 535 = .ok (.aload_n 0, 1) := by decide +kernel
theorem dL_law_536 : decode cL_law 536 = .ok (.iload_n 3, 1) := by decide +kernel
theorem dL_law_537 : decode cL_law 537 = .ok (.iconst 4, 1) := by decide +kernel
theorem dL_law_538 : decode cL_law 538 = .ok (.iadd, 1) := by decide +kernel
theorem dL_law_539 : decode cL_law 539 = .ok (.iaload, 1) := by decide +kernel
theorem dL_law_540 : decode cL_law 540 = .ok (.aload_n 0, 1) := by decide +kernel
theorem dL_law_541 : decode cL_law 541 = .ok (.iload_n 3, 1) := by decide +kernel
theorem dL_law_542 : decode cL_law 542 = .ok (.iconst 5, 1) := by decide +kernel
theorem dL_law_543 : decode cL_law 543 = .ok (.iadd, 1) := by decide +kernel
theorem dL_law_544 : decode cL_law 544 = .ok (.iaload, 1) := by decide +kernel
theorem dL_law_545 : decode cL_law 545 = .ok (.invokevirtual 53, 3) := by decide +kernel
theorem dL_law_548 : decode cL_law 548 = .ok (.if_icmp .eq 1032, 3) := by decide +kernel
theorem dL_law_551 : decode cL_law 551 = .ok (.iconst 0, 1) := by decide +kernel
theorem dL_law_552 : decode cL_law 552 = .ok (.ireturn, 1) := by decide +kernel
theorem dL_law_553 : decode cL_law 553 = .ok (.aload_n 1, 1) := by decide +kernel
theorem dL_law_554 : decode cL_law 554 = .ok (.aload_n 0, 1) := by decide +kernel
theorem dL_law_555 : decode cL_law 555 = .ok (.iload_n 3, 1) := by decide +kernel
theorem dL_law_556 : decode cL_law 556 = .ok (.iconst 1, 1) := by decide +kernel
theorem dL_law_557 : decode cL_law 557 = .ok (.iadd, 1) := by decide +kernel
theorem dL_law_558 : decode cL_law 558 = .ok (.iaload, 1) := by decide +kernel
theorem dL_law_559 : decode cL_law 559 = .ok (.invokevirtual 54, 3) := by decide +kernel
theorem dL_law_562 : decode cL_law 562 = .ok (.aload_n 2, 1) := by decide +kernel
theorem dL_law_563 : decode cL_law 563 = .ok (.aload_n 0, 1) := by decide +kernel
theorem dL_law_564 : decode cL_law 564 = .ok (.iload_n 3, 1) := by decide +kernel
theorem dL_law_565 : decode cL_law 565 = .ok (.iconst 1, 1) := by decide +kernel
theorem dL_law_566 : decode cL_law 566 = .ok (.iadd, 1) := by decide +kernel
theorem dL_law_567 : decode cL_law 567 = .ok (.iaload, 1) := by decide +kernel
theorem dL_law_568 : decode cL_law 568 = .ok (.invokevirtual 58, 3) := by decide +kernel
theorem dL_law_571 : decode cL_law 571 = .ok (.if_icmp .eq 1009, 3) := by decide +kernel
theorem dL_law_574 : decode cL_law 574 = .ok (.iconst 0, 1) := by decide +kernel
theorem dL_law_575 : decode cL_law 575 = .ok (.ireturn, 1) := by decide +kernel
theorem dL_law_576 : decode cL_law 576 = .ok (.aload_n 1, 1) := by decide +kernel
theorem dL_law_577 : decode cL_law 577 = .ok (.aload_n 0, 1) := by decide +kernel
theorem dL_law_578 : decode cL_law 578 = .ok (.iload_n 3, 1) := by decide +kernel
theorem dL_law_579 : decode cL_law 579 = .ok (.iconst 1, 1) := by decide +kernel
theorem dL_law_580 : decode cL_law 580 = .ok (.iadd, 1) := by decide +kernel
theorem dL_law_581 : decode cL_law 581 = .ok (.iaload, 1) := by decide +kernel
theorem dL_law_582 : decode cL_law 582 = .ok (.invokevirtual 59, 3) := by decide +kernel
theorem dL_law_585 : decode cL_law 585 = .ok (.aload_n 2, 1) := by decide +kernel
theorem dL_law_586 : decode cL_law 586 = .ok (.aload_n 0, 1) := by decide +kernel
theorem dL_law_587 : decode cL_law 587 = .ok (.iload_n 3, 1) := by decide +kernel
theorem dL_law_588 : decode cL_law 588 = .ok (.iconst 1, 1) := by decide +kernel
theorem dL_law_589 : decode cL_law 589 = .ok (.iadd, 1) := by decide +kernel
theorem dL_law_590 : decode cL_law 590 = .ok (.iaload, 1) := by decide +kernel
theorem dL_law_591 : decode cL_law 591 = .ok (.invokevirtual 62, 3) := by decide +kernel
theorem dL_law_594 : decode cL_law 594 = .ok (.if_icmp .eq 986, 3) := by decide +kernel
theorem dL_law_597 : decode cL_law 597 = .ok (.iconst 0, 1) := by decide +kernel
theorem dL_law_598 : decode cL_law 598 = .ok (.ireturn, 1) := by decide +kernel
theorem dL_law_599 : decode cL_law 599 = .ok (.aload_n 1, 1) := by decide +kernel
theorem dL_law_600 : decode cL_law 600 = .ok (.aload_n 0, 1) := by decide +kernel
theorem dL_law_601 : decode cL_law 601 = .ok (.iload_n 3, 1) := by decide +kernel
theorem dL_law_602 : decode cL_law 602 = .ok (.iconst 1, 1) := by decide +kernel
theorem dL_law_603 : decode cL_law 603 = .ok (.iadd, 1) := by decide +kernel
theorem dL_law_604 : decode cL_law 604 = .ok (.iaload, 1) := by decide +kernel
theorem dL_law_605 : decode cL_law 605 = .ok (.invokevirtual 63, 3) := by decide +kernel
theorem dL_law_608 : decode cL_law 608 = .ok (.aload_n 2, 1) := by decide +kernel
theorem dL_law_609 : decode cL_law 609 = .ok (.aload_n 0, 1) := by decide +kernel
theorem dL_law_610 : decode cL_law 610 = .ok (.iload_n 3, 1) := by decide +kernel
theorem dL_law_611 : decode cL_law 611 = .ok (.iconst 1, 1) := by decide +kernel
theorem dL_law_612 : decode cL_law 612 = .ok (.iadd, 1) := by decide +kernel
theorem dL_law_613 : decode cL_law 613 = .ok (.iaload, 1) := by decide +kernel
theorem dL_law_614 : decode cL_law 614 = .ok (.invokevirtual 66, 3) := by decide +kernel
theorem dL_law_617 : decode cL_law 617 = .ok (.if_icmp .eq 963, 3) := by decide +kernel
theorem dL_law_620 : decode cL_law 620 = .ok (.iconst 0, 1) := by decide +kernel
theorem dL_law_621 : decode cL_law 621 = .ok (.ireturn, 1) := by decide +kernel
theorem dL_law_622 : decode cL_law 622 = .ok (.aload_n 1, 1) := by decide +kernel
theorem dL_law_623 : decode cL_law 623 = .ok (.aload_n 0, 1) := by decide +kernel
theorem dL_law_624 : decode cL_law 624 = .ok (.iload_n 3, 1) := by decide +kernel
theorem dL_law_625 : decode cL_law 625 = .ok (.iconst 1, 1) := by decide +kernel
theorem dL_law_626 : decode cL_law 626 = .ok (.iadd, 1) := by decide +kernel
theorem dL_law_627 : decode cL_law 627 = .ok (.iaload, 1) := by decide +kernel
theorem dL_law_628 : decode cL_law 628 = .ok (.invokevirtual 67, 3) := by decide +kernel
theorem dL_law_631 : decode cL_law 631 = .ok (.aload_n 2, 1) := by decide +kernel
theorem dL_law_632 : decode cL_law 632 = .ok (.aload_n 0, 1) := by decide +kernel
theorem dL_law_633 : decode cL_law 633 = .ok (.iload_n 3, 1) := by decide +kernel
theorem dL_law_634 : decode cL_law 634 = .ok (.iconst 1, 1) := by decide +kernel
theorem dL_law_635 : decode cL_law 635 = .ok (.iadd, 1) := by decide +kernel
theorem dL_law_636 : decode cL_law 636 = .ok (.iaload, 1) := by decide +kernel
theorem dL_law_637 : decode cL_law 637 = .ok (.invokevirtual 70, 3) := by decide +kernel
theorem dL_law_640 : decode cL_law 640 = .ok (.if_icmp .eq 940, 3) := by decide +kernel
theorem dL_law_643 : decode cL_law 643 = .ok (.iconst 0, 1) := by decide +kernel
theorem dL_law_644 : decode cL_law 644 = .ok (.ireturn, 1) := by decide +kernel
theorem dL_law_645 : decode cL_law 645 = .ok (.aload_n 1, 1) := by decide +kernel
theorem dL_law_646 : decode cL_law 646 = .ok (.aload_n 0, 1) := by decide +kernel
theorem dL_law_647 : decode cL_law 647 = .ok (.iload_n 3, 1) := by decide +kernel
theorem dL_law_648 : decode cL_law 648 = .ok (.iconst 1, 1) := by decide +kernel
theorem dL_law_649 : decode cL_law 649 = .ok (.iadd, 1) := by decide +kernel
theorem dL_law_650 : decode cL_law 650 = .ok (.iaload, 1) := by decide +kernel
theorem dL_law_651 : decode cL_law 651 = .ok (.aload_n 0, 1) := by decide +kernel
theorem dL_law_652 : decode cL_law 652 = .ok (.iload_n 3, 1) := by decide +kernel
theorem dL_law_653 : decode cL_law 653 = .ok (.iconst 2, 1) := by decide +kernel
theorem dL_law_654 : decode cL_law 654 = .ok (.iadd, 1) := by decide +kernel
theorem dL_law_655 : decode cL_law 655 = .ok (.iaload, 1) := by decide +kernel
theorem dL_law_656 : decode cL_law 656 = .ok (.invokevirtual 71, 3) := by decide +kernel
theorem dL_law_659 : decode cL_law 659 = .ok (.aload_n 2, 1) := by decide +kernel
theorem dL_law_660 : decode cL_law 660 = .ok (.aload_n 0, 1) := by decide +kernel
theorem dL_law_661 : decode cL_law 661 = .ok (.iload_n 3, 1) := by decide +kernel
theorem dL_law_662 : decode cL_law 662 = .ok (.iconst 1, 1) := by decide +kernel
theorem dL_law_663 : decode cL_law 663 = .ok (.iadd, 1) := by decide +kernel
theorem dL_law_664 : decode cL_law 664 = .ok (.iaload, 1) := by decide +kernel
theorem dL_law_665 : decode cL_law 665 = .ok (.aload_n 0, 1) := by decide +kernel
theorem dL_law_666 : decode cL_law 666 = .ok (.iload_n 3, 1) := by decide +kernel
theorem dL_law_667 : decode cL_law 667 = .ok (.iconst 2, 1) := by decide +kernel
theorem dL_law_668 : decode cL_law 668 = .ok (.iadd, 1) := by decide +kernel
theorem dL_law_669 : decode cL_law 669 = .ok (.iaload, 1) := by decide +kernel
theorem dL_law_670 : decode cL_law 670 = .ok (.invokevirtual 75, 3) := by decide +kernel
theorem dL_law_673 : decode cL_law 673 = .ok (.if_icmp .eq 907, 3) := by decide +kernel
theorem dL_law_676 : decode cL_law 676 = .ok (.iconst 0, 1) := by decide +kernel
theorem dL_law_677 : decode cL_law 677 = .ok (.ireturn, 1) := by decide +kernel
theorem dL_law_678 : decode cL_law 678 = .ok (.aload_n 1, 1) := by decide +kernel
theorem dL_law_679 : decode cL_law 679 = .ok (.aload_n 0, 1) := by decide +kernel
theorem dL_law_680 : decode cL_law 680 = .ok (.iload_n 3, 1) := by decide +kernel
theorem dL_law_681 : decode cL_law 681 = .ok (.iconst 1, 1) := by decide +kernel
theorem dL_law_682 : decode cL_law 682 = .ok (.iadd, 1) := by decide +kernel
theorem dL_law_683 : decode cL_law 683 = .ok (.iaload, 1) := by decide +kernel
theorem dL_law_684 : decode cL_law 684 = .ok (.invokevirtual 76, 3) := by decide +kernel
theorem dL_law_687 : decode cL_law 687 = .ok (.aload_n 2, 1) := by decide +kernel
theorem dL_law_688 : decode cL_law 688 = .ok (.aload_n 0, 1) := by decide +kernel
theorem dL_law_689 : decode cL_law 689 = .ok (.iload_n 3, 1) := by decide +kernel
theorem dL_law_690 : decode cL_law 690 = .ok (.iconst 1, 1) := by decide +kernel
theorem dL_law_691 : decode cL_law 691 = .ok (.iadd, 1) := by decide +kernel
theorem dL_law_692 : decode cL_law 692 = .ok (.iaload, 1) := by decide +kernel
theorem dL_law_693 : decode cL_law 693 = .ok (.invokevirtual 79, 3) := by decide +kernel
theorem dL_law_696 : decode cL_law 696 = .ok (.if_icmp .eq 884, 3) := by decide +kernel
theorem dL_law_699 : decode cL_law 699 = .ok (.iconst 0, 1) := by decide +kernel
theorem dL_law_700 : decode cL_law 700 = .ok (.ireturn, 1) := by decide +kernel
theorem dL_law_701 : decode cL_law 701 = .ok (.aload_n 1, 1) := by decide +kernel
theorem dL_law_702 : decode cL_law 702 = .ok (.aload_n 0, 1) := by decide +kernel
theorem dL_law_703 : decode cL_law 703 = .ok (.iload_n 3, 1) := by decide +kernel
theorem dL_law_704 : decode cL_law 704 = .ok (.iconst 1, 1) := by decide +kernel
theorem dL_law_705 : decode cL_law 705 = .ok (.iadd, 1) := by decide +kernel
theorem dL_law_706 : decode cL_law 706 = .ok (.iaload, 1) := by decide +kernel
theorem dL_law_707 : decode cL_law 707 = .ok (.aload_n 0, 1) := by decide +kernel
theorem dL_law_708 : decode cL_law 708 = .ok (.iload_n 3, 1) := by decide +kernel
theorem dL_law_709 : decode cL_law 709 = .ok (.iconst 2, 1) := by decide +kernel
theorem dL_law_710 : decode cL_law 710 = .ok (.iadd, 1) := by decide +kernel
theorem dL_law_711 : decode cL_law 711 = .ok (.iaload, 1) := by decide +kernel
theorem dL_law_712 : decode cL_law 712 = .ok (.invokevirtual 80, 3) := by decide +kernel
theorem dL_law_715 : decode cL_law 715 = .ok (.aload_n 2, 1) := by decide +kernel
theorem dL_law_716 : decode cL_law 716 = .ok (.aload_n 0, 1) := by decide +kernel
theorem dL_law_717 : decode cL_law 717 = .ok (.iload_n 3, 1) := by decide +kernel
theorem dL_law_718 : decode cL_law 718 = .ok (.iconst 1, 1) := by decide +kernel
theorem dL_law_719 : decode cL_law 719 = .ok (.iadd, 1) := by decide +kernel
theorem dL_law_720 : decode cL_law 720 = .ok (.iaload, 1) := by decide +kernel
theorem dL_law_721 : decode cL_law 721 = .ok (.aload_n 0, 1) := by decide +kernel
theorem dL_law_722 : decode cL_law 722 = .ok (.iload_n 3, 1) := by decide +kernel
theorem dL_law_723 : decode cL_law 723 = .ok (.iconst 2, 1) := by decide +kernel
theorem dL_law_724 : decode cL_law 724 = .ok (.iadd, 1) := by decide +kernel
theorem dL_law_725 : decode cL_law 725 = .ok (.iaload, 1) := by decide +kernel
theorem dL_law_726 : decode cL_law 726 = .ok (.invokevirtual 83, 3) := by decide +kernel
theorem dL_law_729 : decode cL_law 729 = .ok (.if_icmp .eq 851, 3) := by decide +kernel
theorem dL_law_732 : decode cL_law 732 = .ok (.iconst 0, 1) := by decide +kernel
theorem dL_law_733 : decode cL_law 733 = .ok (.ireturn, 1) := by decide +kernel
theorem dL_law_734 : decode cL_law 734 = .ok (.aload_n 1, 1) := by decide +kernel
theorem dL_law_735 : decode cL_law 735 = .ok (.aload_n 0, 1) := by decide +kernel
theorem dL_law_736 : decode cL_law 736 = .ok (.iload_n 3, 1) := by decide +kernel
theorem dL_law_737 : decode cL_law 737 = .ok (.iconst 1, 1) := by decide +kernel
theorem dL_law_738 : decode cL_law 738 = .ok (.iadd, 1) := by decide +kernel
theorem dL_law_739 : decode cL_law 739 = .ok (.iaload, 1) := by decide +kernel
theorem dL_law_740 : decode cL_law 740 = .ok (.aload_n 0, 1) := by decide +kernel
theorem dL_law_741 : decode cL_law 741 = .ok (.iload_n 3, 1) := by decide +kernel
theorem dL_law_742 : decode cL_law 742 = .ok (.iconst 2, 1) := by decide +kernel
theorem dL_law_743 : decode cL_law 743 = .ok (.iadd, 1) := by decide +kernel
theorem dL_law_744 : decode cL_law 744 = .ok (.iaload, 1) := by decide +kernel
theorem dL_law_745 : decode cL_law 745 = .ok (.aload_n 0, 1) := by decide +kernel
theorem dL_law_746 : decode cL_law 746 = .ok (.iload_n 3, 1) := by decide +kernel
theorem dL_law_747 : decode cL_law 747 = .ok (.iconst 3, 1) := by decide +kernel
theorem dL_law_748 : decode cL_law 748 = .ok (.iadd, 1) := by decide +kernel
theorem dL_law_749 : decode cL_law 749 = .ok (.iaload, 1) := by decide +kernel
theorem dL_law_750 : decode cL_law 750 = .ok (.invokevirtual 84, 3) := by decide +kernel
theorem dL_law_753 : decode cL_law 753 = .ok (.aload_n 2, 1) := by decide +kernel
theorem dL_law_754 : decode cL_law 754 = .ok (.aload_n 0, 1) := by decide +kernel
theorem dL_law_755 : decode cL_law 755 = .ok (.iload_n 3, 1) := by decide +kernel
theorem dL_law_756 : decode cL_law 756 = .ok (.iconst 1, 1) := by decide +kernel
theorem dL_law_757 : decode cL_law 757 = .ok (.iadd, 1) := by decide +kernel
theorem dL_law_758 : decode cL_law 758 = .ok (.iaload, 1) := by decide +kernel
theorem dL_law_759 : decode cL_law 759 = .ok (.aload_n 0, 1) := by decide +kernel
theorem dL_law_760 : decode cL_law 760 = .ok (.iload_n 3, 1) := by decide +kernel
theorem dL_law_761 : decode cL_law 761 = .ok (.iconst 2, 1) := by decide +kernel
theorem dL_law_762 : decode cL_law 762 = .ok (.iadd, 1) := by decide +kernel
theorem dL_law_763 : decode cL_law 763 = .ok (.iaload, 1) := by decide +kernel
theorem dL_law_764 : decode cL_law 764 = .ok (.aload_n 0, 1) := by decide +kernel
theorem dL_law_765 : decode cL_law 765 = .ok (.iload_n 3, 1) := by decide +kernel
theorem dL_law_766 : decode cL_law 766 = .ok (.iconst 3, 1) := by decide +kernel
theorem dL_law_767 : decode cL_law 767 = .ok (.iadd, 1) := by decide +kernel
theorem dL_law_768 : decode cL_law 768 = .ok (.iaload, 1) := by decide +kernel
theorem dL_law_769 : decode cL_law 769 = .ok (.invokevirtual 88, 3) := by decide +kernel
theorem dL_law_772 : decode cL_law 772 = .ok (.if_icmp .eq 808, 3) := by decide +kernel
theorem dL_law_775 : decode cL_law 775 = .ok (.iconst 0, 1) := by decide +kernel
theorem dL_law_776 : decode cL_law 776 = .ok (.ireturn, 1) := by decide +kernel
theorem dL_law_777 : decode cL_law 777 = .ok (.aload_n 1, 1) := by decide +kernel
theorem dL_law_778 : decode cL_law 778 = .ok (.aload_n 0, 1) := by decide +kernel
theorem dL_law_779 : decode cL_law 779 = .ok (.iload_n 3, 1) := by decide +kernel
theorem dL_law_780 : decode cL_law 780 = .ok (.iconst 1, 1) := by decide +kernel
theorem dL_law_781 : decode cL_law 781 = .ok (.iadd, 1) := by decide +kernel
theorem dL_law_782 : decode cL_law 782 = .ok (.iaload, 1) := by decide +kernel
theorem dL_law_783 : decode cL_law 783 = .ok (.invokevirtual 89, 3) := by decide +kernel
theorem dL_law_786 : decode cL_law 786 = .ok (.aload_n 2, 1) := by decide +kernel
theorem dL_law_787 : decode cL_law 787 = .ok (.aload_n 0, 1) := by decide +kernel
theorem dL_law_788 : decode cL_law 788 = .ok (.iload_n 3, 1) := by decide +kernel
theorem dL_law_789 : decode cL_law 789 = .ok (.iconst 1, 1) := by decide +kernel
theorem dL_law_790 : decode cL_law 790 = .ok (.iadd, 1) := by decide +kernel
theorem dL_law_791 : decode cL_law 791 = .ok (.iaload, 1) := by decide +kernel
theorem dL_law_792 : decode cL_law 792 = .ok (.invokevirtual 93, 3) := by decide +kernel
theorem dL_law_795 : decode cL_law 795 = .ok (.if_icmp .eq 785, 3) := by decide +kernel
theorem dL_law_798 : decode cL_law 798 = .ok (.iconst 0, 1) := by decide +kernel
theorem dL_law_799 : decode cL_law 799 = .ok (.ireturn, 1) := by decide +kernel
theorem dL_law_800 : decode cL_law 800 = .ok (.aload_n 1, 1) := by decide +kernel
theorem dL_law_801 : decode cL_law 801 = .ok (.aload_n 0, 1) := by decide +kernel
theorem dL_law_802 : decode cL_law 802 = .ok (.iload_n 3, 1) := by decide +kernel
theorem dL_law_803 : decode cL_law 803 = .ok (.iconst 1, 1) := by decide +kernel
theorem dL_law_804 : decode cL_law 804 = .ok (.iadd, 1) := by decide +kernel
theorem dL_law_805 : decode cL_law 805 = .ok (.iaload, 1) := by decide +kernel
theorem dL_law_806 : decode cL_law 806 = .ok (.invokevirtual 94, 3) := by decide +kernel
theorem dL_law_809 : decode cL_law 809 = .ok (.aload_n 2, 1) := by decide +kernel
theorem dL_law_810 : decode cL_law 810 = .ok (.aload_n 0, 1) := by decide +kernel
theorem dL_law_811 : decode cL_law 811 = .ok (.iload_n 3, 1) := by decide +kernel
theorem dL_law_812 : decode cL_law 812 = .ok (.iconst 1, 1) := by decide +kernel
theorem dL_law_813 : decode cL_law 813 = .ok (.iadd, 1) := by decide +kernel
theorem dL_law_814 : decode cL_law 814 = .ok (.iaload, 1) := by decide +kernel
theorem dL_law_815 : decode cL_law 815 = .ok (.invokevirtual 97, 3) := by decide +kernel
theorem dL_law_818 : decode cL_law 818 = .ok (.if_icmp .eq 762, 3) := by decide +kernel
theorem dL_law_821 : decode cL_law 821 = .ok (.iconst 0, 1) := by decide +kernel
theorem dL_law_822 : decode cL_law 822 = .ok (.ireturn, 1) := by decide +kernel
theorem dL_law_823 : decode cL_law 823 = .ok (.aload_n 1, 1) := by decide +kernel
theorem dL_law_824 : decode cL_law 824 = .ok (.aload_n 0, 1) := by decide +kernel
theorem dL_law_825 : decode cL_law 825 = .ok (.iload_n 3, 1) := by decide +kernel
theorem dL_law_826 : decode cL_law 826 = .ok (.iconst 1, 1) := by decide +kernel
theorem dL_law_827 : decode cL_law 827 = .ok (.iadd, 1) := by decide +kernel
theorem dL_law_828 : decode cL_law 828 = .ok (.iaload, 1) := by decide +kernel
theorem dL_law_829 : decode cL_law 829 = .ok (.invokevirtual 98, 3) := by decide +kernel
theorem dL_law_832 : decode cL_law 832 = .ok (.aload_n 2, 1) := by decide +kernel
theorem dL_law_833 : decode cL_law 833 = .ok (.aload_n 0, 1) := by decide +kernel
theorem dL_law_834 : decode cL_law 834 = .ok (.iload_n 3, 1) := by decide +kernel
theorem dL_law_835 : decode cL_law 835 = .ok (.iconst 1, 1) := by decide +kernel
theorem dL_law_836 : decode cL_law 836 = .ok (.iadd, 1) := by decide +kernel
theorem dL_law_837 : decode cL_law 837 = .ok (.iaload, 1) := by decide +kernel
theorem dL_law_838 : decode cL_law 838 = .ok (.invokevirtual 101, 3) := by decide +kernel
theorem dL_law_841 : decode cL_law 841 = .ok (.if_icmp .eq 739, 3) := by decide +kernel
theorem dL_law_844 : decode cL_law 844 = .ok (.iconst 0, 1) := by decide +kernel
theorem dL_law_845 : decode cL_law 845 = .ok (.ireturn, 1) := by decide +kernel
theorem dL_law_846 : decode cL_law 846 = .ok (.aload_n 1, 1) := by decide +kernel
theorem dL_law_847 : decode cL_law 847 = .ok (.invokevirtual 102, 3) := by decide +kernel
theorem dL_law_850 : decode cL_law 850 = .ok (.aload_n 2, 1) := by decide +kernel
theorem dL_law_851 : decode cL_law 851 = .ok (.invokevirtual 105, 3) := by decide +kernel
theorem dL_law_854 : decode cL_law 854 = .ok (.if_icmp .eq 726, 3) := by decide +kernel
theorem dL_law_857 : decode cL_law 857 = .ok (.iconst 0, 1) := by decide +kernel
theorem dL_law_858 : decode cL_law 858 = .ok (.ireturn, 1) := by decide +kernel
theorem dL_law_859 : decode cL_law 859 = .ok (.aload_n 1, 1) := by decide +kernel
theorem dL_law_860 : decode cL_law 860 = .ok (.aload_n 0, 1) := by decide +kernel
theorem dL_law_861 : decode cL_law 861 = .ok (.iload_n 3, 1) := by decide +kernel
theorem dL_law_862 : decode cL_law 862 = .ok (.iconst 1, 1) := by decide +kernel
theorem dL_law_863 : decode cL_law 863 = .ok (.iadd, 1) := by decide +kernel
theorem dL_law_864 : decode cL_law 864 = .ok (.iaload, 1) := by decide +kernel
theorem dL_law_865 : decode cL_law 865 = .ok (.invokevirtual 106, 3) := by decide +kernel
theorem dL_law_868 : decode cL_law 868 = .ok (.aload_n 2, 1) := by decide +kernel
theorem dL_law_869 : decode cL_law 869 = .ok (.aload_n 0, 1) := by decide +kernel
theorem dL_law_870 : decode cL_law 870 = .ok (.iload_n 3, 1) := by decide +kernel
theorem dL_law_871 : decode cL_law 871 = .ok (.iconst 1, 1) := by decide +kernel
theorem dL_law_872 : decode cL_law 872 = .ok (.iadd, 1) := by decide +kernel
theorem dL_law_873 : decode cL_law 873 = .ok (.iaload, 1) := by decide +kernel
theorem dL_law_874 : decode cL_law 874 = .ok (.invokevirtual 109, 3) := by decide +kernel
theorem dL_law_877 : decode cL_law 877 = .ok (.if_icmp .eq 703, 3) := by decide +kernel
theorem dL_law_880 : decode cL_law 880 = .ok (.iconst 0, 1) := by decide +kernel
theorem dL_law_881 : decode cL_law 881 = .ok (.ireturn, 1) := by decide +kernel
theorem dL_law_882 : decode cL_law 882 = .ok (.aload_n 1, 1) := by decide +kernel
theorem dL_law_883 : decode cL_law 883 = .ok (.aload_n 0, 1) := by decide +kernel
theorem dL_law_884 : decode cL_law 884 = .ok (.iload_n 3, 1) := by decide +kernel
theorem dL_law_885 : decode cL_law 885 = .ok (.iconst 1, 1) := by decide +kernel
theorem dL_law_886 : decode cL_law 886 = .ok (.iadd, 1) := by decide +kernel
theorem dL_law_887 : decode cL_law 887 = .ok (.iaload, 1) := by decide +kernel
theorem dL_law_888 : decode cL_law 888 = .ok (.invokevirtual 110, 3) := by decide +kernel
theorem dL_law_891 : decode cL_law 891 = .ok (.aload_n 2, 1) := by decide +kernel
theorem dL_law_892 : decode cL_law 892 = .ok (.aload_n 0, 1) := by decide +kernel
theorem dL_law_893 : decode cL_law 893 = .ok (.iload_n 3, 1) := by decide +kernel
theorem dL_law_894 : decode cL_law 894 = .ok (.iconst 1, 1) := by decide +kernel
theorem dL_law_895 : decode cL_law 895 = .ok (.iadd, 1) := by decide +kernel
theorem dL_law_896 : decode cL_law 896 = .ok (.iaload, 1) := by decide +kernel
theorem dL_law_897 : decode cL_law 897 = .ok (.invokevirtual 113, 3) := by decide +kernel
theorem dL_law_900 : decode cL_law 900 = .ok (.if_icmp .eq 680, 3) := by decide +kernel
theorem dL_law_903 : decode cL_law 903 = .ok (.iconst 0, 1) := by decide +kernel
theorem dL_law_904 : decode cL_law 904 = .ok (.ireturn, 1) := by decide +kernel
theorem dL_law_905 : decode cL_law 905 = .ok (.aload_n 1, 1) := by decide +kernel
theorem dL_law_906 : decode cL_law 906 = .ok (.aload_n 0, 1) := by decide +kernel
theorem dL_law_907 : decode cL_law 907 = .ok (.iload_n 3, 1) := by decide +kernel
theorem dL_law_908 : decode cL_law 908 = .ok (.iconst 1, 1) := by decide +kernel
theorem dL_law_909 : decode cL_law 909 = .ok (.iadd, 1) := by decide +kernel
theorem dL_law_910 : decode cL_law 910 = .ok (.iaload, 1) := by decide +kernel
theorem dL_law_911 : decode cL_law 911 = .ok (.aload_n 0, 1) := by decide +kernel
theorem dL_law_912 : decode cL_law 912 = .ok (.iload_n 3, 1) := by decide +kernel
theorem dL_law_913 : decode cL_law 913 = .ok (.iconst 2, 1) := by decide +kernel
theorem dL_law_914 : decode cL_law 914 = .ok (.iadd, 1) := by decide +kernel
theorem dL_law_915 : decode cL_law 915 = .ok (.iaload, 1) := by decide +kernel
theorem dL_law_916 : decode cL_law 916 = .ok (.invokevirtual 114, 3) := by decide +kernel
theorem dL_law_919 : decode cL_law 919 = .ok (.aload_n 2, 1) := by decide +kernel
theorem dL_law_920 : decode cL_law 920 = .ok (.aload_n 0, 1) := by decide +kernel
theorem dL_law_921 : decode cL_law 921 = .ok (.iload_n 3, 1) := by decide +kernel
theorem dL_law_922 : decode cL_law 922 = .ok (.iconst 1, 1) := by decide +kernel
theorem dL_law_923 : decode cL_law 923 = .ok (.iadd, 1) := by decide +kernel
theorem dL_law_924 : decode cL_law 924 = .ok (.iaload, 1) := by decide +kernel
theorem dL_law_925 : decode cL_law 925 = .ok (.aload_n 0, 1) := by decide +kernel
theorem dL_law_926 : decode cL_law 926 = .ok (.iload_n 3, 1) := by decide +kernel
theorem dL_law_927 : decode cL_law 927 = .ok (.iconst 2, 1) := by decide +kernel
theorem dL_law_928 : decode cL_law 928 = .ok (.iadd, 1) := by decide +kernel
theorem dL_law_929 : decode cL_law 929 = .ok (.iaload, 1) := by decide +kernel
theorem dL_law_930 : decode cL_law 930 = .ok (.invokevirtual 117, 3) := by decide +kernel
theorem dL_law_933 : decode cL_law 933 = .ok (.if_icmp .eq 647, 3) := by decide +kernel
theorem dL_law_936 : decode cL_law 936 = .ok (.iconst 0, 1) := by decide +kernel
theorem dL_law_937 : decode cL_law 937 = .ok (.ireturn, 1) := by decide +kernel
theorem dL_law_938 : decode cL_law 938 = .ok (.aload_n 1, 1) := by decide +kernel
theorem dL_law_939 : decode cL_law 939 = .ok (.aload_n 0, 1) := by decide +kernel
theorem dL_law_940 : decode cL_law 940 = .ok (.iload_n 3, 1) := by decide +kernel
theorem dL_law_941 : decode cL_law 941 = .ok (.iconst 1, 1) := by decide +kernel
theorem dL_law_942 : decode cL_law 942 = .ok (.iadd, 1) := by decide +kernel
theorem dL_law_943 : decode cL_law 943 = .ok (.iaload, 1) := by decide +kernel
theorem dL_law_944 : decode cL_law 944 = .ok (.invokevirtual 118, 3) := by decide +kernel
theorem dL_law_947 : decode cL_law 947 = .ok (.aload_n 2, 1) := by decide +kernel
theorem dL_law_948 : decode cL_law 948 = .ok (.aload_n 0, 1) := by decide +kernel
theorem dL_law_949 : decode cL_law 949 = .ok (.iload_n 3, 1) := by decide +kernel
theorem dL_law_950 : decode cL_law 950 = .ok (.iconst 1, 1) := by decide +kernel
theorem dL_law_951 : decode cL_law 951 = .ok (.iadd, 1) := by decide +kernel
theorem dL_law_952 : decode cL_law 952 = .ok (.iaload, 1) := by decide +kernel
theorem dL_law_953 : decode cL_law 953 = .ok (.invokevirtual 121, 3) := by decide +kernel
theorem dL_law_956 : decode cL_law 956 = .ok (.if_icmp .eq 624, 3) := by decide +kernel
theorem dL_law_959 : decode cL_law 959 = .ok (.iconst 0, 1) := by decide +kernel
theorem dL_law_960 : decode cL_law 960 = .ok (.ireturn, 1) := by decide +kernel
theorem dL_law_961 : decode cL_law 961 = .ok (.aload_n 1, 1) := by decide +kernel
theorem dL_law_962 : decode cL_law 962 = .ok (.aload_n 0, 1) := by decide +kernel
theorem dL_law_963 : decode cL_law 963 = .ok (.iload_n 3, 1) := by decide +kernel
theorem dL_law_964 : decode cL_law 964 = .ok (.iconst 1, 1) := by decide +kernel
theorem dL_law_965 : decode cL_law 965 = .ok (.iadd, 1) := by decide +kernel
theorem dL_law_966 : decode cL_law 966 = .ok (.iaload, 1) := by decide +kernel
theorem dL_law_967 : decode cL_law 967 = .ok (.invokevirtual 122, 3) := by decide +kernel
theorem dL_law_970 : decode cL_law 970 = .ok (.aload_n 2, 1) := by decide +kernel
theorem dL_law_971 : decode cL_law 971 = .ok (.aload_n 0, 1) := by decide +kernel
theorem dL_law_972 : decode cL_law 972 = .ok (.iload_n 3, 1) := by decide +kernel
theorem dL_law_973 : decode cL_law 973 = .ok (.iconst 1, 1) := by decide +kernel
theorem dL_law_974 : decode cL_law 974 = .ok (.iadd, 1) := by decide +kernel
theorem dL_law_975 : decode cL_law 975 = .ok (.iaload, 1) := by decide +kernel
theorem dL_law_976 : decode cL_law 976 = .ok (.invokevirtual 125, 3) := by decide +kernel
theorem dL_law_979 : decode cL_law 979 = .ok (.if_icmp .eq 601, 3) := by decide +kernel
theorem dL_law_982 : decode cL_law 982 = .ok (.iconst 0, 1) := by decide +kernel
theorem dL_law_983 : decode cL_law 983 = .ok (.ireturn, 1) := by decide +kernel
theorem dL_law_984 : decode cL_law 984 = .ok (.aload_n 1, 1) := by decide +kernel
theorem dL_law_985 : decode cL_law 985 = .ok (.aload_n 0, 1) := by decide +kernel
theorem dL_law_986 : decode cL_law 986 = .ok (.iload_n 3, 1) := by decide +kernel
theorem dL_law_987 : decode cL_law 987 = .ok (.iconst 1, 1) := by decide +kernel
theorem dL_law_988 : decode cL_law 988 = .ok (.iadd, 1) := by decide +kernel
theorem dL_law_989 : decode cL_law 989 = .ok (.iaload, 1) := by decide +kernel
theorem dL_law_990 : decode cL_law 990 = .ok (.aload_n 0, 1) := by decide +kernel
theorem dL_law_991 : decode cL_law 991 = .ok (.iload_n 3, 1) := by decide +kernel
theorem dL_law_992 : decode cL_law 992 = .ok (.iconst 2, 1) := by decide +kernel
theorem dL_law_993 : decode cL_law 993 = .ok (.iadd, 1) := by decide +kernel
theorem dL_law_994 : decode cL_law 994 = .ok (.iaload, 1) := by decide +kernel
theorem dL_law_995 : decode cL_law 995 = .ok (.aload_n 0, 1) := by decide +kernel
theorem dL_law_996 : decode cL_law 996 = .ok (.iload_n 3, 1) := by decide +kernel
theorem dL_law_997 : decode cL_law 997 = .ok (.iconst 3, 1) := by decide +kernel
theorem dL_law_998 : decode cL_law 998 = .ok (.iadd, 1) := by decide +kernel
theorem dL_law_999 : decode cL_law 999 = .ok (.iaload, 1) := by decide +kernel
theorem dL_law_1000 : decode cL_law 1000 = .ok (.aload_n 0, 1) := by decide +kernel
theorem dL_law_1001 : decode cL_law 1001 = .ok (.iload_n 3, 1) := by decide +kernel
theorem dL_law_1002 : decode cL_law 1002 = .ok (.iconst 4, 1) := by decide +kernel
theorem dL_law_1003 : decode cL_law 1003 = .ok (.iadd, 1) := by decide +kernel
theorem dL_law_1004 : decode cL_law 1004 = .ok (.iaload, 1) := by decide +kernel
theorem dL_law_1005 : decode cL_law 1005 = .ok (.invokevirtual 126, 3) := by decide +kernel
theorem dL_law_1008 : decode cL_law 1008 = .ok (.aload_n 2, 1) := by decide +kernel
theorem dL_law_1009 : decode cL_law 1009 = .ok (.aload_n 0, 1) := by decide +kernel
theorem dL_law_1010 : decode cL_law 1010 = .ok (.iload_n 3, 1) := by decide +kernel
theorem dL_law_1011 : decode cL_law 1011 = .ok (.iconst 1, 1) := by decide +kernel
theorem dL_law_1012 : decode cL_law 1012 = .ok (.iadd, 1) := by decide +kernel
theorem dL_law_1013 : decode cL_law 1013 = .ok (.iaload, 1) := by decide +kernel
theorem dL_law_1014 : decode cL_law 1014 = .ok (.aload_n 0, 1) := by decide +kernel
theorem dL_law_1015 : decode cL_law 1015 = .ok (.iload_n 3, 1) := by decide +kernel
theorem dL_law_1016 : decode cL_law 1016 = .ok (.iconst 2, 1) := by decide +kernel
theorem dL_law_1017 : decode cL_law 1017 = .ok (.iadd, 1) := by decide +kernel
theorem dL_law_1018 : decode cL_law 1018 = .ok (.iaload, 1) := by decide +kernel
theorem dL_law_1019 : decode cL_law 1019 = .ok (.aload_n 0, 1) := by decide +kernel
theorem dL_law_1020 : decode cL_law 1020 = .ok (.iload_n 3, 1) := by decide +kernel
theorem dL_law_1021 : decode cL_law 1021 = .ok (.iconst 3, 1) := by decide +kernel
theorem dL_law_1022 : decode cL_law 1022 = .ok (.iadd, 1) := by decide +kernel
theorem dL_law_1023 : decode cL_law 1023 = .ok (.iaload, 1) := by decide +kernel
theorem dL_law_1024 : decode cL_law 1024 = .ok (.aload_n 0, 1) := by decide +kernel
theorem dL_law_1025 : decode cL_law 1025 = .ok (.iload_n 3, 1) := by decide +kernel
theorem dL_law_1026 : decode cL_law 1026 = .ok (.iconst 4, 1) := by decide +kernel
theorem dL_law_1027 : decode cL_law 1027 = .ok (.iadd, 1) := by decide +kernel
theorem dL_law_1028 : decode cL_law 1028 = .ok (.iaload, 1) := by decide +kernel
theorem dL_law_1029 : decode cL_law 1029 = .ok (.invokevirtual 130, 3) := by decide +kernel
theorem dL_law_1032 : decode cL_law 1032 = .ok (.if_icmp .eq 548, 3) := by decide +kernel
theorem dL_law_1035 : decode cL_law 1035 = .ok (.iconst 0, 1) := by decide +kernel
theorem dL_law_1036 : decode cL_law 1036 = .ok (.ireturn, 1) := by decide +kernel
theorem dL_law_1037 : decode cL_law 1037 = .ok (.aload_n 1, 1) := by decide +kernel
theorem dL_law_1038 : decode cL_law 1038 = .ok (.aload_n 0, 1) := by decide +kernel
theorem dL_law_1039 : decode cL_law 1039 = .ok (.iload_n 3, 1) := by decide +kernel
theorem dL_law_1040 : decode cL_law 1040 = .ok (.iconst 1, 1) := by decide +kernel
theorem dL_law_1041 : decode cL_law 1041 = .ok (.iadd, 1) := by decide +kernel
theorem dL_law_1042 : decode cL_law 1042 = .ok (.iaload, 1) := by decide +kernel
theorem dL_law_1043 : decode cL_law 1043 = .ok (.aload_n 0, 1) := by decide +kernel
theorem dL_law_1044 : decode cL_law 1044 = .ok (.iload_n 3, 1) := by decide +kernel
theorem dL_law_1045 : decode cL_law 1045 = .ok (.iconst 2, 1) := by decide +kernel
theorem dL_law_1046 : decode cL_law 1046 = .ok (.iadd, 1) := by decide +kernel
theorem dL_law_1047 : decode cL_law 1047 = .ok (.iaload, 1) := by decide +kernel
theorem dL_law_1048 : decode cL_law 1048 = .ok (.invokevirtual 131, 3) := by decide +kernel
theorem dL_law_1051 : decode cL_law 1051 = .ok (.aload_n 2, 1) := by decide +kernel
theorem dL_law_1052 : decode cL_law 1052 = .ok (.aload_n 0, 1) := by decide +kernel
theorem dL_law_1053 : decode cL_law 1053 = .ok (.iload_n 3, 1) := by decide +kernel
theorem dL_law_1054 : decode cL_law 1054 = .ok (.iconst 1, 1) := by decide +kernel
theorem dL_law_1055 : decode cL_law 1055 = .ok (.iadd, 1) := by decide +kernel
theorem dL_law_1056 : decode cL_law 1056 = .ok (.iaload, 1) := by decide +kernel
theorem dL_law_1057 : decode cL_law 1057 = .ok (.aload_n 0, 1) := by decide +kernel
theorem dL_law_1058 : decode cL_law 1058 = .ok (.iload_n 3, 1) := by decide +kernel
theorem dL_law_1059 : decode cL_law 1059 = .ok (.iconst 2, 1) := by decide +kernel
theorem dL_law_1060 : decode cL_law 1060 = .ok (.iadd, 1) := by decide +kernel
theorem dL_law_1061 : decode cL_law 1061 = .ok (.iaload, 1) := by decide +kernel
theorem dL_law_1062 : decode cL_law 1062 = .ok (.invokevirtual 134, 3) := by decide +kernel
theorem dL_law_1065 : decode cL_law 1065 = .ok (.if_icmp .eq 515, 3) := by decide +kernel
theorem dL_law_1068 : decode cL_law 1068 = .ok (.iconst 0, 1) := by decide +kernel
theorem dL_law_1069 : decode cL_law 1069 = .ok (.ireturn, 1) := by decide +kernel
theorem dL_law_1070 : decode cL_law 1070 = .ok (.aload_n 1, 1) := by decide +kernel
theorem dL_law_1071 : decode cL_law 1071 = .ok (.aload_n 0, 1) := by decide +kernel
theorem dL_law_1072 : decode cL_law 1072 = .ok (.iload_n 3, 1) := by decide +kernel
theorem dL_law_1073 : decode cL_law 1073 = .ok (.iconst 1, 1) := by decide +kernel
theorem dL_law_1074 : decode cL_law 1074 = .ok (.iadd, 1) := by decide +kernel
theorem dL_law_1075 : decode cL_law 1075 = .ok (.iaload, 1) := by decide +kernel
theorem dL_law_1076 : decode cL_law 1076 = .ok (.aload_n 0, 1) := by decide +kernel
theorem dL_law_1077 : decode cL_law 1077 = .ok (.iload_n 3, 1) := by decide +kernel
theorem dL_law_1078 : decode cL_law 1078 = .ok (.iconst 2, 1) := by decide +kernel
theorem dL_law_1079 : decode cL_law 1079 = .ok (.iadd, 1) := by decide +kernel
theorem dL_law_1080 : decode cL_law 1080 = .ok (.iaload, 1) := by decide +kernel
theorem dL_law_1081 : decode cL_law 1081 = .ok (.invokevirtual 135, 3) := by decide +kernel
theorem dL_law_1084 : decode cL_law 1084 = .ok (.aload_n 2, 1) := by decide +kernel
theorem dL_law_1085 : decode cL_law 1085 = .ok (.aload_n 0, 1) := by decide +kernel
theorem dL_law_1086 : decode cL_law 1086 = .ok (.iload_n 3, 1) := by decide +kernel
theorem dL_law_1087 : decode cL_law 1087 = .ok (.iconst 1, 1) := by decide +kernel
theorem dL_law_1088 : decode cL_law 1088 = .ok (.iadd, 1) := by decide +kernel
theorem dL_law_1089 : decode cL_law 1089 = .ok (.iaload, 1) := by decide +kernel
theorem dL_law_1090 : decode cL_law 1090 = .ok (.aload_n 0, 1) := by decide +kernel
theorem dL_law_1091 : decode cL_law 1091 = .ok (.iload_n 3, 1) := by decide +kernel
theorem dL_law_1092 : decode cL_law 1092 = .ok (.iconst 2, 1) := by decide +kernel
theorem dL_law_1093 : decode cL_law 1093 = .ok (.iadd, 1) := by decide +kernel
theorem dL_law_1094 : decode cL_law 1094 = .ok (.iaload, 1) := by decide +kernel
theorem dL_law_1095 : decode cL_law 1095 = .ok (.invokevirtual 138, 3) := by decide +kernel
theorem dL_law_1098 : decode cL_law 1098 = .ok (.if_icmp .eq 482, 3) := by decide +kernel
theorem dL_law_1101 : decode cL_law 1101 = .ok (.iconst 0, 1) := by decide +kernel
theorem dL_law_1102 : decode cL_law 1102 = .ok (.ireturn, 1) := by decide +kernel
theorem dL_law_1103 : decode cL_law 1103 = .ok (.aload_n 1, 1) := by decide +kernel
theorem dL_law_1104 : decode cL_law 1104 = .ok (.aload_n 0, 1) := by decide +kernel
theorem dL_law_1105 : decode cL_law 1105 = .ok (.iload_n 3, 1) := by decide +kernel
theorem dL_law_1106 : decode cL_law 1106 = .ok (.iconst 1, 1) := by decide +kernel
theorem dL_law_1107 : decode cL_law 1107 = .ok (.iadd, 1) := by decide +kernel
theorem dL_law_1108 : decode cL_law 1108 = .ok (.iaload, 1) := by decide +kernel
theorem dL_law_1109 : decode cL_law 1109 = .ok (.aload_n 0, 1) := by decide +kernel
theorem dL_law_1110 : decode cL_law 1110 = .ok (.iload_n 3, 1) := by decide +kernel
theorem dL_law_1111 : decode cL_law 1111 = .ok (.iconst 2, 1) := by decide +kernel
theorem dL_law_1112 : decode cL_law 1112 = .ok (.iadd, 1) := by decide +kernel
theorem dL_law_1113 : decode cL_law 1113 = .ok (.iaload, 1) := by decide +kernel
theorem dL_law_1114 : decode cL_law 1114 = .ok (.invokevirtual 139, 3) := by decide +kernel
theorem dL_law_1117 : decode cL_law 1117 = .ok (.aload_n 2, 1) := by decide +kernel
theorem dL_law_1118 : decode cL_law 1118 = .ok (.aload_n 0, 1) := by decide +kernel
theorem dL_law_1119 : decode cL_law 1119 = .ok (.iload_n 3, 1) := by decide +kernel
theorem dL_law_1120 : decode cL_law 1120 = .ok (.iconst 1, 1) := by decide +kernel
theorem dL_law_1121 : decode cL_law 1121 = .ok (.iadd, 1) := by decide +kernel
theorem dL_law_1122 : decode cL_law 1122 = .ok (.iaload, 1) := by decide +kernel
theorem dL_law_1123 : decode cL_law 1123 = .ok (.aload_n 0, 1) := by decide +kernel
theorem dL_law_1124 : decode cL_law 1124 = .ok (.iload_n 3, 1) := by decide +kernel
theorem dL_law_1125 : decode cL_law 1125 = .ok (.iconst 2, 1) := by decide +kernel
theorem dL_law_1126 : decode cL_law 1126 = .ok (.iadd, 1) := by decide +kernel
theorem dL_law_1127 : decode cL_law 1127 = .ok (.iaload, 1) := by decide +kernel
theorem dL_law_1128 : decode cL_law 1128 = .ok (.invokevirtual 142, 3) := by decide +kernel
theorem dL_law_1131 : decode cL_law 1131 = .ok (.if_icmp .eq 449, 3) := by decide +kernel
theorem dL_law_1134 : decode cL_law 1134 = .ok (.iconst 0, 1) := by decide +kernel
theorem dL_law_1135 : decode cL_law 1135 = .ok (.ireturn, 1) := by decide +kernel
theorem dL_law_1136 : decode cL_law 1136 = .ok (.aload_n 1, 1) := by decide +kernel
theorem dL_law_1137 : decode cL_law 1137 = .ok (.aload_n 0, 1) := by decide +kernel
theorem dL_law_1138 : decode cL_law 1138 = .ok (.iload_n 3, 1) := by decide +kernel
theorem dL_law_1139 : decode cL_law 1139 = .ok (.iconst 1, 1) := by decide +kernel
theorem dL_law_1140 : decode cL_law 1140 = .ok (.iadd, 1) := by decide +kernel
theorem dL_law_1141 : decode cL_law 1141 = .ok (.iaload, 1) := by decide +kernel
theorem dL_law_1142 : decode cL_law 1142 = .ok (.aload_n 0, 1) := by decide +kernel
theorem dL_law_1143 : decode cL_law 1143 = .ok (.iload_n 3, 1) := by decide +kernel
theorem dL_law_1144 : decode cL_law 1144 = .ok (.iconst 2, 1) := by decide +kernel
theorem dL_law_1145 : decode cL_law 1145 = .ok (.iadd, 1) := by decide +kernel
theorem dL_law_1146 : decode cL_law 1146 = .ok (.iaload, 1) := by decide +kernel
theorem dL_law_1147 : decode cL_law 1147 = .ok (.aload_n 0, 1) := by decide +kernel
theorem dL_law_1148 : decode cL_law 1148 = .ok (.iload_n 3, 1) := by decide +kernel
theorem dL_law_1149 : decode cL_law 1149 = .ok (.iconst 3, 1) := by decide +kernel
theorem dL_law_1150 : decode cL_law 1150 = .ok (.iadd, 1) := by decide +kernel
theorem dL_law_1151 : decode cL_law 1151 = .ok (.iaload, 1) := by decide +kernel
theorem dL_law_1152 : decode cL_law 1152 = .ok (.invokevirtual 143, 3) := by decide +kernel
theorem dL_law_1155 : decode cL_law 1155 = .ok (.aload_n 2, 1) := by decide +kernel
theorem dL_law_1156 : decode cL_law 1156 = .ok (.aload_n 0, 1) := by decide +kernel
theorem dL_law_1157 : decode cL_law 1157 = .ok (.iload_n 3, 1) := by decide +kernel
theorem dL_law_1158 : decode cL_law 1158 = .ok (.iconst 1, 1) := by decide +kernel
theorem dL_law_1159 : decode cL_law 1159 = .ok (.iadd, 1) := by decide +kernel
theorem dL_law_1160 : decode cL_law 1160 = .ok (.iaload, 1) := by decide +kernel
theorem dL_law_1161 : decode cL_law 1161 = .ok (.aload_n 0, 1) := by decide +kernel
theorem dL_law_1162 : decode cL_law 1162 = .ok (.iload_n 3, 1) := by decide +kernel
theorem dL_law_1163 : decode cL_law 1163 = .ok (.iconst 2, 1) := by decide +kernel
theorem dL_law_1164 : decode cL_law 1164 = .ok (.iadd, 1) := by decide +kernel
theorem dL_law_1165 : decode cL_law 1165 = .ok (.iaload, 1) := by decide +kernel
theorem dL_law_1166 : decode cL_law 1166 = .ok (.aload_n 0, 1) := by decide +kernel
theorem dL_law_1167 : decode cL_law 1167 = .ok (.iload_n 3, 1) := by decide +kernel
theorem dL_law_1168 : decode cL_law 1168 = .ok (.iconst 3, 1) := by decide +kernel
theorem dL_law_1169 : decode cL_law 1169 = .ok (.iadd, 1) := by decide +kernel
theorem dL_law_1170 : decode cL_law 1170 = .ok (.iaload, 1) := by decide +kernel
theorem dL_law_1171 : decode cL_law 1171 = .ok (.invokevirtual 146, 3) := by decide +kernel
theorem dL_law_1174 : decode cL_law 1174 = .ok (.if_icmp .eq 406, 3) := by decide +kernel
theorem dL_law_1177 : decode cL_law 1177 = .ok (.iconst 0, 1) := by decide +kernel
theorem dL_law_1178 : decode cL_law 1178 = .ok (.ireturn, 1) := by decide +kernel
theorem dL_law_1179 : decode cL_law 1179 = .ok (.aload_n 1, 1) := by decide +kernel
theorem dL_law_1180 : decode cL_law 1180 = .ok (.aload_n 0, 1) := by decide +kernel
theorem dL_law_1181 : decode cL_law 1181 = .ok (.iload_n 3, 1) := by decide +kernel
theorem dL_law_1182 : decode cL_law 1182 = .ok (.iconst 1, 1) := by decide +kernel
theorem dL_law_1183 : decode cL_law 1183 = .ok (.iadd, 1) := by decide +kernel
theorem dL_law_1184 : decode cL_law 1184 = .ok (.iaload, 1) := by decide +kernel
theorem dL_law_1185 : decode cL_law 1185 = .ok (.aload_n 0, 1) := by decide +kernel
theorem dL_law_1186 : decode cL_law 1186 = .ok (.iload_n 3, 1) := by decide +kernel
theorem dL_law_1187 : decode cL_law 1187 = .ok (.iconst 2, 1) := by decide +kernel
theorem dL_law_1188 : decode cL_law 1188 = .ok (.iadd, 1) := by decide +kernel
theorem dL_law_1189 : decode cL_law 1189 = .ok (.iaload, 1) := by decide +kernel
theorem dL_law_1190 : decode cL_law 1190 = .ok (.invokevirtual 147, 3) := by decide +kernel
theorem dL_law_1193 : decode cL_law 1193 = .ok (.aload_n 2, 1) := by decide +kernel
theorem dL_law_1194 : decode cL_law 1194 = .ok (.aload_n 0, 1) := by decide +kernel
theorem dL_law_1195 : decode cL_law 1195 = .ok (.iload_n 3, 1) := by decide +kernel
theorem dL_law_1196 : decode cL_law 1196 = .ok (.iconst 1, 1) := by decide +kernel
theorem dL_law_1197 : decode cL_law 1197 = .ok (.iadd, 1) := by decide +kernel
theorem dL_law_1198 : decode cL_law 1198 = .ok (.iaload, 1) := by decide +kernel
theorem dL_law_1199 : decode cL_law 1199 = .ok (.aload_n 0, 1) := by decide +kernel
theorem dL_law_1200 : decode cL_law 1200 = .ok (.iload_n 3, 1) := by decide +kernel
theorem dL_law_1201 : decode cL_law 1201 = .ok (.iconst 2, 1) := by decide +kernel
theorem dL_law_1202 : decode cL_law 1202 = .ok (.iadd, 1) := by decide +kernel
theorem dL_law_1203 : decode cL_law 1203 = .ok (.iaload, 1) := by decide +kernel
theorem dL_law_1204 : decode cL_law 1204 = .ok (.invokevirtual 150, 3) := by decide +kernel
theorem dL_law_1207 : decode cL_law 1207 = .ok (.if_icmp .eq 373, 3) := by decide +kernel
theorem dL_law_1210 : decode cL_law 1210 = .ok (.iconst 0, 1) := by decide +kernel
theorem dL_law_1211 : decode cL_law 1211 = .ok (.ireturn, 1) := by decide +kernel
theorem dL_law_1212 : decode cL_law 1212 = .ok (.aload_n 1, 1) := by decide +kernel
theorem dL_law_1213 : decode cL_law 1213 = .ok (.aload_n 0, 1) := by decide +kernel
theorem dL_law_1214 : decode cL_law 1214 = .ok (.iload_n 3, 1) := by decide +kernel
theorem dL_law_1215 : decode cL_law 1215 = .ok (.iconst 1, 1) := by decide +kernel
theorem dL_law_1216 : decode cL_law 1216 = .ok (.iadd, 1) := by decide +kernel
theorem dL_law_1217 : decode cL_law 1217 = .ok (.iaload, 1) := by decide +kernel
theorem dL_law_1218 : decode cL_law 1218 = .ok (.invokevirtual 151, 3) := by decide +kernel
theorem dL_law_1221 : decode cL_law 1221 = .ok (.aload_n 2, 1) := by decide +kernel
theorem dL_law_1222 : decode cL_law 1222 = .ok (.aload_n 0, 1) := by decide +kernel
theorem dL_law_1223 : decode cL_law 1223 = .ok (.iload_n 3, 1) := by decide +kernel
theorem dL_law_1224 : decode cL_law 1224 = .ok (.iconst 1, 1) := by decide +kernel
theorem dL_law_1225 : decode cL_law 1225 = .ok (.iadd, 1) := by decide +kernel
theorem dL_law_1226 : decode cL_law 1226 = .ok (.iaload, 1) := by decide +kernel
theorem dL_law_1227 : decode cL_law 1227 = .ok (.invokevirtual 154, 3) := by decide +kernel
theorem dL_law_1230 : decode cL_law 1230 = .ok (.if_icmp .eq 350, 3) := by decide +kernel
theorem dL_law_1233 : decode cL_law 1233 = .ok (.iconst 0, 1) := by decide +kernel
theorem dL_law_1234 : decode cL_law 1234 = .ok (.ireturn, 1) := by decide +kernel
theorem dL_law_1235 : decode cL_law 1235 = .ok (.aload_n 1, 1) := by decide +kernel
theorem dL_law_1236 : decode cL_law 1236 = .ok (.aload_n 0, 1) := by decide +kernel
theorem dL_law_1237 : decode cL_law 1237 = .ok (.iload_n 3, 1) := by decide +kernel
theorem dL_law_1238 : decode cL_law 1238 = .ok (.iconst 1, 1) := by decide +kernel
theorem dL_law_1239 : decode cL_law 1239 = .ok (.iadd, 1) := by decide +kernel
theorem dL_law_1240 : decode cL_law 1240 = .ok (.iaload, 1) := by decide +kernel
theorem dL_law_1241 : decode cL_law 1241 = .ok (.invokevirtual 155, 3) := by decide +kernel
theorem dL_law_1244 : decode cL_law 1244 = .ok (.aload_n 2, 1) := by decide +kernel
theorem dL_law_1245 : decode cL_law 1245 = .ok (.aload_n 0, 1) := by decide +kernel
theorem dL_law_1246 : decode cL_law 1246 = .ok (.iload_n 3, 1) := by decide +kernel
theorem dL_law_1247 : decode cL_law 1247 = .ok (.iconst 1, 1) := by decide +kernel
theorem dL_law_1248 : decode cL_law 1248 = .ok (.iadd, 1) := by decide +kernel
theorem dL_law_1249 : decode cL_law 1249 = .ok (.iaload, 1) := by decide +kernel
theorem dL_law_1250 : decode cL_law 1250 = .ok (.invokevirtual 158, 3) := by decide +kernel
theorem dL_law_1253 : decode cL_law 1253 = .ok (.if_icmp .eq 327, 3) := by decide +kernel
theorem dL_law_1256 : decode cL_law 1256 = .ok (.iconst 0, 1) := by decide +kernel
theorem dL_law_1257 : decode cL_law 1257 = .ok (.ireturn, 1) := by decide +kernel
theorem dL_law_1258 : decode cL_law 1258 = .ok (.aload_n 1, 1) := by decide +kernel
theorem dL_law_1259 : decode cL_law 1259 = .ok (.aload_n 0, 1) := by decide +kernel
theorem dL_law_1260 : decode cL_law 1260 = .ok (.iload_n 3, 1) := by decide +kernel
theorem dL_law_1261 : decode cL_law 1261 = .ok (.iconst 1, 1) := by decide +kernel
theorem dL_law_1262 : decode cL_law 1262 = .ok (.iadd, 1) := by decide +kernel
theorem dL_law_1263 : decode cL_law 1263 = .ok (.iaload, 1) := by decide +kernel
theorem dL_law_1264 : decode cL_law 1264 = .ok (.aload_n 0, 1) := by decide +kernel
theorem dL_law_1265 : decode cL_law 1265 = .ok (.iload_n 3, 1) := by decide +kernel
theorem dL_law_1266 : decode cL_law 1266 = .ok (.iconst 2, 1) := by decide +kernel
theorem dL_law_1267 : decode cL_law 1267 = .ok (.iadd, 1) := by decide +kernel
theorem dL_law_1268 : decode cL_law 1268 = .ok (.iaload, 1) := by decide +kernel
theorem dL_law_1269 : decode cL_law 1269 = .ok (.invokevirtual 159, 3) := by decide +kernel
theorem dL_law_1272 : decode cL_law 1272 = .ok (.aload_n 2, 1) := by decide +kernel
theorem dL_law_1273 : decode cL_law 1273 = .ok (.aload_n 0, 1) := by decide +kernel
theorem dL_law_1274 : decode cL_law 1274 = .ok (.iload_n 3, 1) := by decide +kernel
theorem dL_law_1275 : decode cL_law 1275 = .ok (.iconst 1, 1) := by decide +kernel
theorem dL_law_1276 : decode cL_law 1276 = .ok (.iadd, 1) := by decide +kernel
theorem dL_law_1277 : decode cL_law 1277 = .ok (.iaload, 1) := by decide +kernel
theorem dL_law_1278 : decode cL_law 1278 = .ok (.aload_n 0, 1) := by decide +kernel
theorem dL_law_1279 : decode cL_law 1279 = .ok (.iload_n 3, 1) := by decide +kernel
theorem dL_law_1280 : decode cL_law 1280 = .ok (.iconst 2, 1) := by decide +kernel
theorem dL_law_1281 : decode cL_law 1281 = .ok (.iadd, 1) := by decide +kernel
theorem dL_law_1282 : decode cL_law 1282 = .ok (.iaload, 1) := by decide +kernel
theorem dL_law_1283 : decode cL_law 1283 = .ok (.invokevirtual 162, 3) := by decide +kernel
theorem dL_law_1286 : decode cL_law 1286 = .ok (.if_icmp .eq 294, 3) := by decide +kernel
theorem dL_law_1289 : decode cL_law 1289 = .ok (.iconst 0, 1) := by decide +kernel
theorem dL_law_1290 : decode cL_law 1290 = .ok (.ireturn, 1) := by decide +kernel
theorem dL_law_1291 : decode cL_law 1291 = .ok (.aload_n 1, 1) := by decide +kernel
theorem dL_law_1292 : decode cL_law 1292 = .ok (.aload_n 0, 1) := by decide +kernel
theorem dL_law_1293 : decode cL_law 1293 = .ok (.iload_n 3, 1) := by decide +kernel
theorem dL_law_1294 : decode cL_law 1294 = .ok (.iconst 1, 1) := by decide +kernel
theorem dL_law_1295 : decode cL_law 1295 = .ok (.iadd, 1) := by decide +kernel
theorem dL_law_1296 : decode cL_law 1296 = .ok (.iaload, 1) := by decide +kernel
theorem dL_law_1297 : decode cL_law 1297 = .ok (.invokevirtual 163, 3) := by decide +kernel
theorem dL_law_1300 : decode cL_law 1300 = .ok (.aload_n 2, 1) := by decide +kernel
theorem dL_law_1301 : decode cL_law 1301 = .ok (.aload_n 0, 1) := by decide +kernel
theorem dL_law_1302 : decode cL_law 1302 = .ok (.iload_n 3, 1) := by decide +kernel
theorem dL_law_1303 : decode cL_law 1303 = .ok (.iconst 1, 1) := by decide +kernel
theorem dL_law_1304 : decode cL_law 1304 = .ok (.iadd, 1) := by decide +kernel
theorem dL_law_1305 : decode cL_law 1305 = .ok (.iaload, 1) := by decide +kernel
theorem dL_law_1306 : decode cL_law 1306 = .ok (.invokevirtual 166, 3) := by decide +kernel
theorem dL_law_1309 : decode cL_law 1309 = .ok (.if_icmp .eq 271, 3) := by decide +kernel
theorem dL_law_1312 : decode cL_law 1312 = .ok (.iconst 0, 1) := by decide +kernel
theorem dL_law_1313 : decode cL_law 1313 = .ok (.ireturn, 1) := by decide +kernel
theorem dL_law_1314 : decode cL_law 1314 = .ok (.aload_n 1, 1) := by decide +kernel
theorem dL_law_1315 : decode cL_law 1315 = .ok (.aload_n 0, 1) := by decide +kernel
theorem dL_law_1316 : decode cL_law 1316 = .ok (.iload_n 3, 1) := by decide +kernel
theorem dL_law_1317 : decode cL_law 1317 = .ok (.iconst 1, 1) := by decide +kernel
theorem dL_law_1318 : decode cL_law 1318 = .ok (.iadd, 1) := by decide +kernel
theorem dL_law_1319 : decode cL_law 1319 = .ok (.iaload, 1) := by decide +kernel
theorem dL_law_1320 : decode cL_law 1320 = .ok (.invokevirtual 167, 3) := by decide +kernel
theorem dL_law_1323 : decode cL_law 1323 = .ok (.aload_n 2, 1) := by decide +kernel
theorem dL_law_1324 : decode cL_law 1324 = .ok (.aload_n 0, 1) := by decide +kernel
theorem dL_law_1325 : decode cL_law 1325 = .ok (.iload_n 3, 1) := by decide +kernel
theorem dL_law_1326 : decode cL_law 1326 = .ok (.iconst 1, 1) := by decide +kernel
theorem dL_law_1327 : decode cL_law 1327 = .ok (.iadd, 1) := by decide +kernel
theorem dL_law_1328 : decode cL_law 1328 = .ok (.iaload, 1) := by decide +kernel
theorem dL_law_1329 : decode cL_law 1329 = .ok (.invokevirtual 170, 3) := by decide +kernel
theorem dL_law_1332 : decode cL_law 1332 = .ok (.if_icmp .eq 248, 3) := by decide +kernel
theorem dL_law_1335 : decode cL_law 1335 = .ok (.iconst 0, 1) := by decide +kernel
theorem dL_law_1336 : decode cL_law 1336 = .ok (.ireturn, 1) := by decide +kernel
theorem dL_law_1337 : decode cL_law 1337 = .ok (.aload_n 1, 1) := by decide +kernel
theorem dL_law_1338 : decode cL_law 1338 = .ok (.aload_n 0, 1) := by decide +kernel
theorem dL_law_1339 : decode cL_law 1339 = .ok (.iload_n 3, 1) := by decide +kernel
theorem dL_law_1340 : decode cL_law 1340 = .ok (.iconst 1, 1) := by decide +kernel
theorem dL_law_1341 : decode cL_law 1341 = .ok (.iadd, 1) := by decide +kernel
theorem dL_law_1342 : decode cL_law 1342 = .ok (.iaload, 1) := by decide +kernel
theorem dL_law_1343 : decode cL_law 1343 = .ok (.aload_n 0, 1) := by decide +kernel
theorem dL_law_1344 : decode cL_law 1344 = .ok (.iload_n 3, 1) := by decide +kernel
theorem dL_law_1345 : decode cL_law 1345 = .ok (.iconst 2, 1) := by decide +kernel
theorem dL_law_1346 : decode cL_law 1346 = .ok (.iadd, 1) := by decide +kernel
theorem dL_law_1347 : decode cL_law 1347 = .ok (.iaload, 1) := by decide +kernel
theorem dL_law_1348 : decode cL_law 1348 = .ok (.invokevirtual 171, 3) := by decide +kernel
theorem dL_law_1351 : decode cL_law 1351 = .ok (.aload_n 2, 1) := by decide +kernel
theorem dL_law_1352 : decode cL_law 1352 = .ok (.aload_n 0, 1) := by decide +kernel
theorem dL_law_1353 : decode cL_law 1353 = .ok (.iload_n 3, 1) := by decide +kernel
theorem dL_law_1354 : decode cL_law 1354 = .ok (.iconst 1, 1) := by decide +kernel
theorem dL_law_1355 : decode cL_law 1355 = .ok (.iadd, 1) := by decide +kernel
theorem dL_law_1356 : decode cL_law 1356 = .ok (.iaload, 1) := by decide +kernel
theorem dL_law_1357 : decode cL_law 1357 = .ok (.aload_n 0, 1) := by decide +kernel
theorem dL_law_1358 : decode cL_law 1358 = .ok (.iload_n 3, 1) := by decide +kernel
theorem dL_law_1359 : decode cL_law 1359 = .ok (.iconst 2, 1) := by decide +kernel
theorem dL_law_1360 : decode cL_law 1360 = .ok (.iadd, 1) := by decide +kernel
theorem dL_law_1361 : decode cL_law 1361 = .ok (.iaload, 1) := by decide +kernel
theorem dL_law_1362 : decode cL_law 1362 = .ok (.invokevirtual 174, 3) := by decide +kernel
theorem dL_law_1365 : decode cL_law 1365 = .ok (.if_icmp .eq 215, 3) := by decide +kernel
theorem dL_law_1368 : decode cL_law 1368 = .ok (.iconst 0, 1) := by decide +kernel
theorem dL_law_1369 : decode cL_law 1369 = .ok (.ireturn, 1) := by decide +kernel
theorem dL_law_1370 : decode cL_law 1370 = .ok (.aload_n 1, 1) := by decide +kernel
theorem dL_law_1371 : decode cL_law 1371 = .ok (.invokevirtual 175, 3) := by decide +kernel
theorem dL_law_1374 : decode cL_law 1374 = .ok (.aload_n 2, 1) := by decide +kernel
theorem dL_law_1375 : decode cL_law 1375 = .ok (.invokevirtual 178, 3) := by decide +kernel
theorem dL_law_1378 : decode cL_law 1378 = .ok (.if_icmp .eq 202, 3) := by decide +kernel
theorem dL_law_1381 : decode cL_law 1381 = .ok (.iconst 0, 1) := by decide +kernel
theorem dL_law_1382 : decode cL_law 1382 = .ok (.ireturn, 1) := by decide +kernel
theorem dL_law_1383 : decode cL_law 1383 = .ok (.aload_n 1, 1) := by decide +kernel
theorem dL_law_1384 : decode cL_law 1384 = .ok (.invokevirtual 179, 3) := by decide +kernel
theorem dL_law_1387 : decode cL_law 1387 = .ok (.aload_n 2, 1) := by decide +kernel
theorem dL_law_1388 : decode cL_law 1388 = .ok (.invokevirtual 182, 3) := by decide +kernel
theorem dL_law_1391 : decode cL_law 1391 = .ok (.if_icmp .eq 189, 3) := by decide +kernel
theorem dL_law_1394 : decode cL_law 1394 = .ok (.iconst 0, 1) := by decide +kernel
theorem dL_law_1395 : decode cL_law 1395 = .ok (.ireturn, 1) := by decide +kernel
theorem dL_law_1396 : decode cL_law 1396 = .ok (.aload_n 1, 1) := by decide +kernel
theorem dL_law_1397 : decode cL_law 1397 = .ok (.aload_n 0, 1) := by decide +kernel
theorem dL_law_1398 : decode cL_law 1398 = .ok (.iload_n 3, 1) := by decide +kernel
theorem dL_law_1399 : decode cL_law 1399 = .ok (.iconst 1, 1) := by decide +kernel
theorem dL_law_1400 : decode cL_law 1400 = .ok (.iadd, 1) := by decide +kernel
theorem dL_law_1401 : decode cL_law 1401 = .ok (.iaload, 1) := by decide +kernel
theorem dL_law_1402 : decode cL_law 1402 = .ok (.invokevirtual 183, 3) := by decide +kernel
theorem dL_law_1405 : decode cL_law 1405 = .ok (.aload_n 2, 1) := by decide +kernel
theorem dL_law_1406 : decode cL_law 1406 = .ok (.aload_n 0, 1) := by decide +kernel
theorem dL_law_1407 : decode cL_law 1407 = .ok (.iload_n 3, 1) := by decide +kernel
theorem dL_law_1408 : decode cL_law 1408 = .ok (.iconst 1, 1) := by decide +kernel
theorem dL_law_1409 : decode cL_law 1409 = .ok (.iadd, 1) := by decide +kernel
theorem dL_law_1410 : decode cL_law 1410 = .ok (.iaload, 1) := by decide +kernel
theorem dL_law_1411 : decode cL_law 1411 = .ok (.invokevirtual 186, 3) := by decide +kernel
theorem dL_law_1414 : decode cL_law 1414 = .ok (.if_icmp .eq 166, 3) := by decide +kernel
theorem dL_law_1417 : decode cL_law 1417 = .ok (.iconst 0, 1) := by decide +kernel
theorem dL_law_1418 : decode cL_law 1418 = .ok (.ireturn, 1) := by decide +kernel
theorem dL_law_1419 : decode cL_law 1419 = .ok (.aload_n 1, 1) := by decide +kernel
theorem dL_law_1420 : decode cL_law 1420 = .ok (.aload_n 0, 1) := by decide +kernel
theorem dL_law_1421 : decode cL_law 1421 = .ok (.iload_n 3, 1) := by decide +kernel
theorem dL_law_1422 : decode cL_law 1422 = .ok (.iconst 1, 1) := by decide +kernel
theorem dL_law_1423 : decode cL_law 1423 = .ok (.iadd, 1) := by decide +kernel
theorem dL_law_1424 : decode cL_law 1424 = .ok (.iaload, 1) := by decide +kernel
theorem dL_law_1425 : decode cL_law 1425 = .ok (.invokevirtual 187, 3) := by decide +kernel
theorem dL_law_1428 : decode cL_law 1428 = .ok (.aload_n 2, 1) := by decide +kernel
theorem dL_law_1429 : decode cL_law 1429 = .ok (.aload_n 0, 1) := by decide +kernel
theorem dL_law_1430 : decode cL_law 1430 = .ok (.iload_n 3, 1) := by decide +kernel
theorem dL_law_1431 : decode cL_law 1431 = .ok (.iconst 1, 1) := by decide +kernel
theorem dL_law_1432 : decode cL_law 1432 = .ok (.iadd, 1) := by decide +kernel
theorem dL_law_1433 : decode cL_law 1433 = .ok (.iaload, 1) := by decide +kernel
theorem dL_law_1434 : decode cL_law 1434 = .ok (.invokevirtual 190, 3) := by decide +kernel
theorem dL_law_1437 : decode cL_law 1437 = .ok (.if_icmp .eq 143, 3) := by decide +kernel
theorem dL_law_1440 : decode cL_law 1440 = .ok (.iconst 0, 1) := by decide +kernel
theorem dL_law_1441 : decode cL_law 1441 = .ok (.ireturn, 1) := by decide +kernel
theorem dL_law_1442 : decode cL_law 1442 = .ok (.aload_n 1, 1) := by decide +kernel
theorem dL_law_1443 : decode cL_law 1443 = .ok (.aload_n 0, 1) := by decide +kernel
theorem dL_law_1444 : decode cL_law 1444 = .ok (.iload_n 3, 1) := by decide +kernel
theorem dL_law_1445 : decode cL_law 1445 = .ok (.iconst 1, 1) := by decide +kernel
theorem dL_law_1446 : decode cL_law 1446 = .ok (.iadd, 1) := by decide +kernel
theorem dL_law_1447 : decode cL_law 1447 = .ok (.iaload, 1) := by decide +kernel
theorem dL_law_1448 : decode cL_law 1448 = .ok (.invokevirtual 191, 3) := by decide +kernel
theorem dL_law_1451 : decode cL_law 1451 = .ok (.aload_n 2, 1) := by decide +kernel
theorem dL_law_1452 : decode cL_law 1452 = .ok (.aload_n 0, 1) := by decide +kernel
theorem dL_law_1453 : decode cL_law 1453 = .ok (.iload_n 3, 1) := by decide +kernel
theorem dL_law_1454 : decode cL_law 1454 = .ok (.iconst 1, 1) := by decide +kernel
theorem dL_law_1455 : decode cL_law 1455 = .ok (.iadd, 1) := by decide +kernel
theorem dL_law_1456 : decode cL_law 1456 = .ok (.iaload, 1) := by decide +kernel
theorem dL_law_1457 : decode cL_law 1457 = .ok (.invokevirtual 194, 3) := by decide +kernel
theorem dL_law_1460 : decode cL_law 1460 = .ok (.if_icmp .eq 120, 3) := by decide +kernel
theorem dL_law_1463 : decode cL_law 1463 = .ok (.iconst 0, 1) := by decide +kernel
theorem dL_law_1464 : decode cL_law 1464 = .ok (.ireturn, 1) := by decide +kernel
theorem dL_law_1465 : decode cL_law 1465 = .ok (.aload_n 1, 1) := by decide +kernel
theorem dL_law_1466 : decode cL_law 1466 = .ok (.aload_n 0, 1) := by decide +kernel
theorem dL_law_1467 : decode cL_law 1467 = .ok (.iload_n 3, 1) := by decide +kernel
theorem dL_law_1468 : decode cL_law 1468 = .ok (.iconst 1, 1) := by decide +kernel
theorem dL_law_1469 : decode cL_law 1469 = .ok (.iadd, 1) := by decide +kernel
theorem dL_law_1470 : decode cL_law 1470 = .ok (.iaload, 1) := by decide +kernel
theorem dL_law_1471 : decode cL_law 1471 = .ok (.invokevirtual 195, 3) := by decide +kernel
theorem dL_law_1474 : decode cL_law 1474 = .ok (.aload_n 2, 1) := by decide +kernel
theorem dL_law_1475 : decode cL_law 1475 = .ok (.aload_n 0, 1) := by decide +kernel
theorem dL_law_1476 : decode cL_law 1476 = .ok (.iload_n 3, 1) := by decide +kernel
theorem dL_law_1477 : decode cL_law 1477 = .ok (.iconst 1, 1) := by decide +kernel
theorem dL_law_1478 : decode cL_law 1478 = .ok (.iadd, 1) := by decide +kernel
theorem dL_law_1479 : decode cL_law 1479 = .ok (.iaload, 1) := by decide +kernel
theorem dL_law_1480 : decode cL_law 1480 = .ok (.invokevirtual 198, 3) := by decide +kernel
theorem dL_law_1483 : decode cL_law 1483 = .ok (.if_icmp .eq 97, 3) := by decide +kernel
theorem dL_law_1486 : decode cL_law 1486 = .ok (.iconst 0, 1) := by decide +kernel
theorem dL_law_1487 : decode cL_law 1487 = .ok (.ireturn, 1) := by decide +kernel
theorem dL_law_1488 : decode cL_law 1488 = .ok (.aload_n 1, 1) := by decide +kernel
theorem dL_law_1489 : decode cL_law 1489 = .ok (.aload_n 0, 1) := by decide +kernel
theorem dL_law_1490 : decode cL_law 1490 = .ok (.iload_n 3, 1) := by decide +kernel
theorem dL_law_1491 : decode cL_law 1491 = .ok (.iconst 1, 1) := by decide +kernel
theorem dL_law_1492 : decode cL_law 1492 = .ok (.iadd, 1) := by decide +kernel
theorem dL_law_1493 : decode cL_law 1493 = .ok (.iaload, 1) := by decide +kernel
theorem dL_law_1494 : decode cL_law 1494 = .ok (.aload_n 0, 1) := by decide +kernel
theorem dL_law_1495 : decode cL_law 1495 = .ok (.iload_n 3, 1) := by decide +kernel
theorem dL_law_1496 : decode cL_law 1496 = .ok (.iconst 2, 1) := by decide +kernel
theorem dL_law_1497 : decode cL_law 1497 = .ok (.iadd, 1) := by decide +kernel
theorem dL_law_1498 : decode cL_law 1498 = .ok (.iaload, 1) := by decide +kernel
theorem dL_law_1499 : decode cL_law 1499 = .ok (.invokevirtual 199, 3) := by decide +kernel
theorem dL_law_1502 : decode cL_law 1502 = .ok (.aload_n 2, 1) := by decide +kernel
theorem dL_law_1503 : decode cL_law 1503 = .ok (.aload_n 0, 1) := by decide +kernel
theorem dL_law_1504 : decode cL_law 1504 = .ok (.iload_n 3, 1) := by decide +kernel
theorem dL_law_1505 : decode cL_law 1505 = .ok (.iconst 1, 1) := by decide +kernel
theorem dL_law_1506 : decode cL_law 1506 = .ok (.iadd, 1) := by decide +kernel
theorem dL_law_1507 : decode cL_law 1507 = .ok (.iaload, 1) := by decide +kernel
theorem dL_law_1508 : decode cL_law 1508 = .ok (.aload_n 0, 1) := by decide +kernel
theorem dL_law_1509 : decode cL_law 1509 = .ok (.iload_n 3, 1) := by decide +kernel
theorem dL_law_1510 : decode cL_law 1510 = .ok (.iconst 2, 1) := by decide +kernel
theorem dL_law_1511 : decode cL_law 1511 = .ok (.iadd, 1) := by decide +kernel
theorem dL_law_1512 : decode cL_law 1512 = .ok (.iaload, 1) := by decide +kernel
theorem dL_law_1513 : decode cL_law 1513 = .ok (.invokevirtual 202, 3) := by decide +kernel
theorem dL_law_1516 : decode cL_law 1516 = .ok (.if_icmp .eq 64, 3) := by decide +kernel
theorem dL_law_1519 : decode cL_law 1519 = .ok (.iconst 0, 1) := by decide +kernel
theorem dL_law_1520 : decode cL_law 1520 = .ok (.ireturn, 1) := by decide +kernel
theorem dL_law_1521 : decode cL_law 1521 = .ok (.aload_n 1, 1) := by decide +kernel
theorem dL_law_1522 : decode cL_law 1522 = .ok (.aload_n 0, 1) := by decide +kernel
theorem dL_law_1523 : decode cL_law 1523 = .ok (.iload_n 3, 1) := by decide +kernel
theorem dL_law_1524 : decode cL_law 1524 = .ok (.iconst 1, 1) := by decide +kernel
theorem dL_law_1525 : decode cL_law 1525 = .ok (.iadd, 1) := by decide +kernel
theorem dL_law_1526 : decode cL_law 1526 = .ok (.iaload, 1) := by decide +kernel
theorem dL_law_1527 : decode cL_law 1527 = .ok (.aload_n 0, 1) := by decide +kernel
theorem dL_law_1528 : decode cL_law 1528 = .ok (.iload_n 3, 1) := by decide +kernel
theorem dL_law_1529 : decode cL_law 1529 = .ok (.iconst 2, 1) := by decide +kernel
theorem dL_law_1530 : decode cL_law 1530 = .ok (.iadd, 1) := by decide +kernel
theorem dL_law_1531 : decode cL_law 1531 = .ok (.iaload, 1) := by decide +kernel
theorem dL_law_1532 : decode cL_law 1532 = .ok (.invokevirtual 203, 3) := by decide +kernel
theorem dL_law_1535 : decode cL_law 1535 = .ok (.aload_n 2, 1) := by decide +kernel
theorem dL_law_1536 : decode cL_law 1536 = .ok (.aload_n 0, 1) := by decide +kernel
theorem dL_law_1537 : decode cL_law 1537 = .ok (.iload_n 3, 1) := by decide +kernel
theorem dL_law_1538 : decode cL_law 1538 = .ok (.iconst 1, 1) := by decide +kernel
theorem dL_law_1539 : decode cL_law 1539 = .ok (.iadd, 1) := by decide +kernel
theorem dL_law_1540 : decode cL_law 1540 = .ok (.iaload, 1) := by decide +kernel
theorem dL_law_1541 : decode cL_law 1541 = .ok (.aload_n 0, 1) := by decide +kernel
theorem dL_law_1542 : decode cL_law 1542 = .ok (.iload_n 3, 1) := by decide +kernel
theorem dL_law_1543 : decode cL_law 1543 = .ok (.iconst 2, 1) := by decide +kernel
theorem dL_law_1544 : decode cL_law 1544 = .ok (.iadd, 1) := by decide +kernel
theorem dL_law_1545 : decode cL_law 1545 = .ok (.iaload, 1) := by decide +kernel
theorem dL_law_1546 : decode cL_law 1546 = .ok (.invokevirtual 206, 3) := by decide +kernel
theorem dL_law_1549 : decode cL_law 1549 = .ok (.if_icmp .eq 31, 3) := by decide +kernel
theorem dL_law_1552 : decode cL_law 1552 = .ok (.iconst 0, 1) := by decide +kernel
theorem dL_law_1553 : decode cL_law 1553 = .ok (.ireturn, 1) := by decide +kernel
theorem dL_law_1554 : decode cL_law 1554 = .ok (.aload_n 1, 1) := by decide +kernel
theorem dL_law_1555 : decode cL_law 1555 = .ok (.invokevirtual 207, 3) := by decide +kernel
theorem dL_law_1558 : decode cL_law 1558 = .ok (.aload_n 2, 1) := by decide +kernel
theorem dL_law_1559 : decode cL_law 1559 = .ok (.invokevirtual 210, 3) := by decide +kernel
theorem dL_law_1562 : decode cL_law 1562 = .ok (.if_icmp .eq 18, 3) := by decide +kernel
theorem dL_law_1565 : decode cL_law 1565 = .ok (.iconst 0, 1) := by decide +kernel
theorem dL_law_1566 : decode cL_law 1566 = .ok (.ireturn, 1) := by decide +kernel
theorem dL_law_1567 : decode cL_law 1567 = .ok (.aload_n 1, 1) := by decide +kernel
theorem dL_law_1568 : decode cL_law 1568 = .ok (.invokevirtual 211, 3) := by decide +kernel
theorem dL_law_1571 : decode cL_law 1571 = .ok (.aload_n 2, 1) := by decide +kernel
theorem dL_law_1572 : decode cL_law 1572 = .ok (.invokevirtual 214, 3) := by decide +kernel
theorem dL_law_1575 : decode cL_law 1575 = .ok (.if_icmp .eq 5, 3) := by decide +kernel
theorem dL_law_1578 : decode cL_law 1578 = .ok (.iconst 0, 1) := by decide +kernel
theorem dL_law_1579 : decode cL_law 1579 = .ok (.ireturn, 1) := by decide +kernel
theorem dL_law_1580 : decode cL_law 1580 = .ok (.iinc 3 6, 3) := by decide +kernel
theorem dL_law_1583 : decode cL_law 1583 = .ok (.goto (-1565), 3) := by decide +kernel
theorem dL_law_1586 : decode cL_law 1586 = .ok (.iconst 1, 1) := by decide +kernel
theorem dL_law_1587 : decode cL_law 1587 = .ok (.ireturn, 1) := by decide +kernel
def fL_law_18 (v : mE) : Nat → Nat → Nat → Int32 → mM Int32
  | 0 => fun _ _ _ => fun _ => none
  | n + 1 => fun l1 l2 l3 => let r18 := fL_law_18 v n; bIf (((Int32.ofNat (eN v)) - (6 : Int32)) < l3) (bRetZ (1 : Int32)) (bScr v l3 (fun x2 => bSw (x2 &&& (63 : Int32)) 0 [(236, bCallV 8 l1 (fX8_status l1) (fun x3 => bCallV 9 l2 (fX9_status l2) (fun x4 => bIf (x3 = x4) (r18 l1 l2 (l3 + 6)) (bRetZ (0 : Int32))))), (249, bCallV 8 l1 (fX8_top l1) (fun x5 => bCallV 9 l2 (fX9_top l2) (fun x6 => bIf ((lg_cmp x5 x6) = 0) (r18 l1 l2 (l3 + 6)) (bRetZ (0 : Int32))))), (263, bCallV 8 l1 (fX8_bottom l1) (fun x7 => bCallV 9 l2 (fX9_bottom l2) (fun x8 => bIf ((lg_cmp x7 x8) = 0) (r18 l1 l2 (l3 + 6)) (bRetZ (0 : Int32))))), (277, bScr v (l3 + (1 : Int32)) (fun x9 => bScr v (l3 + (2 : Int32)) (fun x10 => bScr v (l3 + (3 : Int32)) (fun x11 => bCallV 8 l1 (fX8_tray l1 x9 x10 x11) (fun x12 => bScr v (l3 + (1 : Int32)) (fun x13 => bScr v (l3 + (2 : Int32)) (fun x14 => bScr v (l3 + (3 : Int32)) (fun x15 => bCallV 9 l2 (fX9_tray l2 x13 x14 x15) (fun x16 => bIf (x12 = x16) (r18 l1 l2 (l3 + 6)) (bRetZ (0 : Int32))))))))))), (320, bScr v (l3 + (1 : Int32)) (fun x17 => bScr v (l3 + (2 : Int32)) (fun x18 => bScr v (l3 + (3 : Int32)) (fun x19 => bScr v (l3 + (4 : Int32)) (fun x20 => bCallV 8 l1 (fX8_write l1 x17 x18 (((Int32.toInt64 x19) <<< (Int32.toInt64 (32 : Int32) &&& 63)) ||| ((Int32.toInt64 x20) &&& (4294967295 : Int64)))) (fun x21 => bScr v (l3 + (1 : Int32)) (fun x22 => bScr v (l3 + (2 : Int32)) (fun x23 => bScr v (l3 + (3 : Int32)) (fun x24 => bScr v (l3 + (4 : Int32)) (fun x25 => bCallV 9 l2 (fX9_write l2 x22 x23 (((Int32.toInt64 x24) <<< (Int32.toInt64 (32 : Int32) &&& 63)) ||| ((Int32.toInt64 x25) &&& (4294967295 : Int64)))) (fun x26 => bIf (x21 = x26) (r18 l1 l2 (l3 + 6)) (bRetZ (0 : Int32))))))))))))), (393, bScr v (l3 + (1 : Int32)) (fun x27 => bScr v (l3 + (2 : Int32)) (fun x28 => bCallV 8 l1 (fX8_read l1 x27 x28) (fun x29 => bScr v (l3 + (1 : Int32)) (fun x30 => bScr v (l3 + (2 : Int32)) (fun x31 => bCallV 9 l2 (fX9_read l2 x30 x31) (fun x32 => bIf ((lg_cmp x29 x32) = 0) (r18 l1 l2 (l3 + 6)) (bRetZ (0 : Int32))))))))), (427, bScr v (l3 + (1 : Int32)) (fun x33 => bScr v (l3 + (2 : Int32)) (fun x34 => bScr v (l3 + (3 : Int32)) (fun x35 => bScr v (l3 + (4 : Int32)) (fun x36 => bScr v (l3 + (5 : Int32)) (fun x37 => bCallV 8 l1 (fX8_pour l1 x33 x34 x35 x36 x37) (fun x38 => bScr v (l3 + (1 : Int32)) (fun x39 => bScr v (l3 + (2 : Int32)) (fun x40 => bScr v (l3 + (3 : Int32)) (fun x41 => bScr v (l3 + (4 : Int32)) (fun x42 => bScr v (l3 + (5 : Int32)) (fun x43 => bCallV 9 l2 (fX9_pour l2 x39 x40 x41 x42 x43) (fun x44 => bIf (x38 = x44) (r18 l1 l2 (l3 + 6)) (bRetZ (0 : Int32))))))))))))))), (490, bScr v (l3 + (1 : Int32)) (fun x45 => bScr v (l3 + (2 : Int32)) (fun x46 => bScr v (l3 + (3 : Int32)) (fun x47 => bScr v (l3 + (4 : Int32)) (fun x48 => bScr v (l3 + (5 : Int32)) (fun x49 => bCallV 8 l1 (fX8_feed l1 x45 x46 x47 x48 x49) (fun x50 => bScr v (l3 + (1 : Int32)) (fun x51 => bScr v (l3 + (2 : Int32)) (fun x52 => bScr v (l3 + (3 : Int32)) (fun x53 => bScr v (l3 + (4 : Int32)) (fun x54 => bScr v (l3 + (5 : Int32)) (fun x55 => bCallV 9 l2 (fX9_feed l2 x51 x52 x53 x54 x55) (fun x56 => bIf (x50 = x56) (r18 l1 l2 (l3 + 6)) (bRetZ (0 : Int32))))))))))))))), (553, bScr v (l3 + (1 : Int32)) (fun x57 => bCallV 8 l1 (fX8_well l1 x57) (fun x58 => bScr v (l3 + (1 : Int32)) (fun x59 => bCallV 9 l2 (fX9_well l2 x59) (fun x60 => bIf (x58 = x60) (r18 l1 l2 (l3 + 6)) (bRetZ (0 : Int32))))))), (576, bScr v (l3 + (1 : Int32)) (fun x61 => bCallV 8 l1 (fX8_law l1 x61) (fun x62 => bScr v (l3 + (1 : Int32)) (fun x63 => bCallV 9 l2 (fX9_law l2 x63) (fun x64 => bIf (x62 = x64) (r18 l1 l2 (l3 + 6)) (bRetZ (0 : Int32))))))), (599, bScr v (l3 + (1 : Int32)) (fun x65 => bCallV 8 l1 (fX8_fault l1 x65) (fun x66 => bScr v (l3 + (1 : Int32)) (fun x67 => bCallV 9 l2 (fX9_fault l2 x67) (fun x68 => bIf (x66 = x68) (r18 l1 l2 (l3 + 6)) (bRetZ (0 : Int32))))))), (622, bScr v (l3 + (1 : Int32)) (fun x69 => bCallV 8 l1 (fX8_many l1 x69) (fun x70 => bScr v (l3 + (1 : Int32)) (fun x71 => bCallV 9 l2 (fX9_many l2 x71) (fun x72 => bIf (x70 = x72) (r18 l1 l2 (l3 + 6)) (bRetZ (0 : Int32))))))), (645, bScr v (l3 + (1 : Int32)) (fun x73 => bScr v (l3 + (2 : Int32)) (fun x74 => bCallV 8 l1 (fX8_person l1 x73 x74) (fun x75 => bScr v (l3 + (1 : Int32)) (fun x76 => bScr v (l3 + (2 : Int32)) (fun x77 => bCallV 9 l2 (fX9_person l2 x76 x77) (fun x78 => bIf (x75 = x78) (r18 l1 l2 (l3 + 6)) (bRetZ (0 : Int32))))))))), (678, bScr v (l3 + (1 : Int32)) (fun x79 => bCallV 8 l1 (fX8_heirs l1 x79) (fun x80 => bScr v (l3 + (1 : Int32)) (fun x81 => bCallV 9 l2 (fX9_heirs l2 x81) (fun x82 => bIf (x80 = x82) (r18 l1 l2 (l3 + 6)) (bRetZ (0 : Int32))))))), (701, bScr v (l3 + (1 : Int32)) (fun x83 => bScr v (l3 + (2 : Int32)) (fun x84 => bCallV 8 l1 (fX8_rope l1 x83 x84) (fun x85 => bScr v (l3 + (1 : Int32)) (fun x86 => bScr v (l3 + (2 : Int32)) (fun x87 => bCallV 9 l2 (fX9_rope l2 x86 x87) (fun x88 => bIf (x85 = x88) (r18 l1 l2 (l3 + 6)) (bRetZ (0 : Int32))))))))), (734, bScr v (l3 + (1 : Int32)) (fun x89 => bScr v (l3 + (2 : Int32)) (fun x90 => bScr v (l3 + (3 : Int32)) (fun x91 => bCallV 8 l1 (fX8_piece l1 x89 x90 x91) (fun x92 => bScr v (l3 + (1 : Int32)) (fun x93 => bScr v (l3 + (2 : Int32)) (fun x94 => bScr v (l3 + (3 : Int32)) (fun x95 => bCallV 9 l2 (fX9_piece l2 x93 x94 x95) (fun x96 => bIf (x92 = x96) (r18 l1 l2 (l3 + 6)) (bRetZ (0 : Int32))))))))))), (777, bScr v (l3 + (1 : Int32)) (fun x97 => bCallV 8 l1 (fX8_seed l1 x97) (fun x98 => bScr v (l3 + (1 : Int32)) (fun x99 => bCallV 9 l2 (fX9_seed l2 x99) (fun x100 => bIf (x98 = x100) (r18 l1 l2 (l3 + 6)) (bRetZ (0 : Int32))))))), (800, bScr v (l3 + (1 : Int32)) (fun x101 => bCallV 8 l1 (fX8_pass l1 x101) (fun x102 => bScr v (l3 + (1 : Int32)) (fun x103 => bCallV 9 l2 (fX9_pass l2 x103) (fun x104 => bIf (x102 = x104) (r18 l1 l2 (l3 + 6)) (bRetZ (0 : Int32))))))), (823, bScr v (l3 + (1 : Int32)) (fun x105 => bCallV 8 l1 (fX8_drinks l1 x105) (fun x106 => bScr v (l3 + (1 : Int32)) (fun x107 => bCallV 9 l2 (fX9_drinks l2 x107) (fun x108 => bIf (x106 = x108) (r18 l1 l2 (l3 + 6)) (bRetZ (0 : Int32))))))), (846, bCallV 8 l1 (fX8_who l1) (fun x109 => bCallV 9 l2 (fX9_who l2) (fun x110 => bIf (x109 = x110) (r18 l1 l2 (l3 + 6)) (bRetZ (0 : Int32))))), (859, bScr v (l3 + (1 : Int32)) (fun x111 => bCallV 8 l1 (fX8_depth l1 x111) (fun x112 => bScr v (l3 + (1 : Int32)) (fun x113 => bCallV 9 l2 (fX9_depth l2 x113) (fun x114 => bIf (x112 = x114) (r18 l1 l2 (l3 + 6)) (bRetZ (0 : Int32))))))), (882, bScr v (l3 + (1 : Int32)) (fun x115 => bCallV 8 l1 (fX8_whoThen l1 x115) (fun x116 => bScr v (l3 + (1 : Int32)) (fun x117 => bCallV 9 l2 (fX9_whoThen l2 x117) (fun x118 => bIf (x116 = x118) (r18 l1 l2 (l3 + 6)) (bRetZ (0 : Int32))))))), (905, bScr v (l3 + (1 : Int32)) (fun x119 => bScr v (l3 + (2 : Int32)) (fun x120 => bCallV 8 l1 (fX8_owner l1 x119 x120) (fun x121 => bScr v (l3 + (1 : Int32)) (fun x122 => bScr v (l3 + (2 : Int32)) (fun x123 => bCallV 9 l2 (fX9_owner l2 x122 x123) (fun x124 => bIf (x121 = x124) (r18 l1 l2 (l3 + 6)) (bRetZ (0 : Int32))))))))), (938, bScr v (l3 + (1 : Int32)) (fun x125 => bCallV 8 l1 (fX8_thirst l1 x125) (fun x126 => bScr v (l3 + (1 : Int32)) (fun x127 => bCallV 9 l2 (fX9_thirst l2 x127) (fun x128 => bIf (x126 = x128) (r18 l1 l2 (l3 + 6)) (bRetZ (0 : Int32))))))), (961, bScr v (l3 + (1 : Int32)) (fun x129 => bCallV 8 l1 (fX8_last l1 x129) (fun x130 => bScr v (l3 + (1 : Int32)) (fun x131 => bCallV 9 l2 (fX9_last l2 x131) (fun x132 => bIf (x130 = x132) (r18 l1 l2 (l3 + 6)) (bRetZ (0 : Int32))))))), (984, bScr v (l3 + (1 : Int32)) (fun x133 => bScr v (l3 + (2 : Int32)) (fun x134 => bScr v (l3 + (3 : Int32)) (fun x135 => bScr v (l3 + (4 : Int32)) (fun x136 => bCallV 8 l1 (fX8_odds l1 x133 x134 x135 x136) (fun x137 => bScr v (l3 + (1 : Int32)) (fun x138 => bScr v (l3 + (2 : Int32)) (fun x139 => bScr v (l3 + (3 : Int32)) (fun x140 => bScr v (l3 + (4 : Int32)) (fun x141 => bCallV 9 l2 (fX9_odds l2 x138 x139 x140 x141) (fun x142 => bIf (x137 = x142) (r18 l1 l2 (l3 + 6)) (bRetZ (0 : Int32))))))))))))), (1037, bScr v (l3 + (1 : Int32)) (fun x143 => bScr v (l3 + (2 : Int32)) (fun x144 => bCallV 8 l1 (fX8_knot l1 x143 x144) (fun x145 => bScr v (l3 + (1 : Int32)) (fun x146 => bScr v (l3 + (2 : Int32)) (fun x147 => bCallV 9 l2 (fX9_knot l2 x146 x147) (fun x148 => bIf (x145 = x148) (r18 l1 l2 (l3 + 6)) (bRetZ (0 : Int32))))))))), (1070, bScr v (l3 + (1 : Int32)) (fun x149 => bScr v (l3 + (2 : Int32)) (fun x150 => bCallV 8 l1 (fX8_undo l1 x149 x150) (fun x151 => bScr v (l3 + (1 : Int32)) (fun x152 => bScr v (l3 + (2 : Int32)) (fun x153 => bCallV 9 l2 (fX9_undo l2 x152 x153) (fun x154 => bIf (x151 = x154) (r18 l1 l2 (l3 + 6)) (bRetZ (0 : Int32))))))))), (1103, bScr v (l3 + (1 : Int32)) (fun x155 => bScr v (l3 + (2 : Int32)) (fun x156 => bCallV 8 l1 (fX8_cut l1 x155 x156) (fun x157 => bScr v (l3 + (1 : Int32)) (fun x158 => bScr v (l3 + (2 : Int32)) (fun x159 => bCallV 9 l2 (fX9_cut_ l2 x158 x159) (fun x160 => bIf (x157 = x160) (r18 l1 l2 (l3 + 6)) (bRetZ (0 : Int32))))))))), (1136, bScr v (l3 + (1 : Int32)) (fun x161 => bScr v (l3 + (2 : Int32)) (fun x162 => bScr v (l3 + (3 : Int32)) (fun x163 => bCallV 8 l1 (fX8_sell l1 x161 x162 x163) (fun x164 => bScr v (l3 + (1 : Int32)) (fun x165 => bScr v (l3 + (2 : Int32)) (fun x166 => bScr v (l3 + (3 : Int32)) (fun x167 => bCallV 9 l2 (fX9_sell l2 x165 x166 x167) (fun x168 => bIf (x164 = x168) (r18 l1 l2 (l3 + 6)) (bRetZ (0 : Int32))))))))))), (1179, bScr v (l3 + (1 : Int32)) (fun x169 => bScr v (l3 + (2 : Int32)) (fun x170 => bCallV 8 l1 (fX8_lend l1 x169 x170) (fun x171 => bScr v (l3 + (1 : Int32)) (fun x172 => bScr v (l3 + (2 : Int32)) (fun x173 => bCallV 9 l2 (fX9_lend l2 x172 x173) (fun x174 => bIf (x171 = x174) (r18 l1 l2 (l3 + 6)) (bRetZ (0 : Int32))))))))), (1212, bScr v (l3 + (1 : Int32)) (fun x175 => bCallV 8 l1 (fX8_takeBack l1 x175) (fun x176 => bScr v (l3 + (1 : Int32)) (fun x177 => bCallV 9 l2 (fX9_takeBack l2 x177) (fun x178 => bIf (x176 = x178) (r18 l1 l2 (l3 + 6)) (bRetZ (0 : Int32))))))), (1235, bScr v (l3 + (1 : Int32)) (fun x179 => bCallV 8 l1 (fX8_dig l1 x179) (fun x180 => bScr v (l3 + (1 : Int32)) (fun x181 => bCallV 9 l2 (fX9_dig l2 x181) (fun x182 => bIf (x180 = x182) (r18 l1 l2 (l3 + 6)) (bRetZ (0 : Int32))))))), (1258, bScr v (l3 + (1 : Int32)) (fun x183 => bScr v (l3 + (2 : Int32)) (fun x184 => bCallV 8 l1 (fX8_led l1 x183 x184) (fun x185 => bScr v (l3 + (1 : Int32)) (fun x186 => bScr v (l3 + (2 : Int32)) (fun x187 => bCallV 9 l2 (fX9_led l2 x186 x187) (fun x188 => bIf (x185 = x188) (r18 l1 l2 (l3 + 6)) (bRetZ (0 : Int32))))))))), (1291, bScr v (l3 + (1 : Int32)) (fun x189 => bCallV 8 l1 (fX8_share l1 x189) (fun x190 => bScr v (l3 + (1 : Int32)) (fun x191 => bCallV 9 l2 (fX9_share l2 x191) (fun x192 => bIf (x190 = x192) (r18 l1 l2 (l3 + 6)) (bRetZ (0 : Int32))))))), (1314, bScr v (l3 + (1 : Int32)) (fun x193 => bCallV 8 l1 (fX8_heirloom l1 x193) (fun x194 => bScr v (l3 + (1 : Int32)) (fun x195 => bCallV 9 l2 (fX9_heirloom l2 x195) (fun x196 => bIf (x194 = x196) (r18 l1 l2 (l3 + 6)) (bRetZ (0 : Int32))))))), (1337, bScr v (l3 + (1 : Int32)) (fun x197 => bScr v (l3 + (2 : Int32)) (fun x198 => bCallV 8 l1 (fX8_yardsOf l1 x197 x198) (fun x199 => bScr v (l3 + (1 : Int32)) (fun x200 => bScr v (l3 + (2 : Int32)) (fun x201 => bCallV 9 l2 (fX9_yardsOf l2 x200 x201) (fun x202 => bIf (x199 = x202) (r18 l1 l2 (l3 + 6)) (bRetZ (0 : Int32))))))))), (1370, bCallV 8 l1 (fX8_needed l1) (fun x203 => bCallV 9 l2 (fX9_needed l2) (fun x204 => bIf (x203 = x204) (r18 l1 l2 (l3 + 6)) (bRetZ (0 : Int32))))), (1383, bCallV 8 l1 (fX8_plan l1) (fun x205 => bCallV 9 l2 (fX9_plan l2) (fun x206 => bIf (x205 = x206) (r18 l1 l2 (l3 + 6)) (bRetZ (0 : Int32))))), (1396, bScr v (l3 + (1 : Int32)) (fun x207 => bCallV 8 l1 (fX8_spread l1 x207) (fun x208 => bScr v (l3 + (1 : Int32)) (fun x209 => bCallV 9 l2 (fX9_spread l2 x209) (fun x210 => bIf (x208 = x210) (r18 l1 l2 (l3 + 6)) (bRetZ (0 : Int32))))))), (1419, bScr v (l3 + (1 : Int32)) (fun x211 => bCallV 8 l1 (fX8_holds l1 x211) (fun x212 => bScr v (l3 + (1 : Int32)) (fun x213 => bCallV 9 l2 (fX9_holds l2 x213) (fun x214 => bIf (x212 = x214) (r18 l1 l2 (l3 + 6)) (bRetZ (0 : Int32))))))), (1442, bScr v (l3 + (1 : Int32)) (fun x215 => bCallV 8 l1 (fX8_best l1 x215) (fun x216 => bScr v (l3 + (1 : Int32)) (fun x217 => bCallV 9 l2 (fX9_best l2 x217) (fun x218 => bIf (x216 = x218) (r18 l1 l2 (l3 + 6)) (bRetZ (0 : Int32))))))), (1465, bScr v (l3 + (1 : Int32)) (fun x219 => bCallV 8 l1 (fX8_drawing l1 x219) (fun x220 => bScr v (l3 + (1 : Int32)) (fun x221 => bCallV 9 l2 (fX9_drawing l2 x221) (fun x222 => bIf (x220 = x222) (r18 l1 l2 (l3 + 6)) (bRetZ (0 : Int32))))))), (1488, bScr v (l3 + (1 : Int32)) (fun x223 => bScr v (l3 + (2 : Int32)) (fun x224 => bCallV 8 l1 (fX8_waiting l1 x223 x224) (fun x225 => bScr v (l3 + (1 : Int32)) (fun x226 => bScr v (l3 + (2 : Int32)) (fun x227 => bCallV 9 l2 (fX9_waiting l2 x226 x227) (fun x228 => bIf (x225 = x228) (r18 l1 l2 (l3 + 6)) (bRetZ (0 : Int32))))))))), (1521, bScr v (l3 + (1 : Int32)) (fun x229 => bScr v (l3 + (2 : Int32)) (fun x230 => bCallV 8 l1 (fX8_leastWaiting l1 x229 x230) (fun x231 => bScr v (l3 + (1 : Int32)) (fun x232 => bScr v (l3 + (2 : Int32)) (fun x233 => bCallV 9 l2 (fX9_leastWaiting l2 x232 x233) (fun x234 => bIf (x231 = x234) (r18 l1 l2 (l3 + 6)) (bRetZ (0 : Int32))))))))), (1554, bCallV 8 l1 (fX8_mark l1) (fun x235 => bCallV 9 l2 (fX9_mark l2) (fun x236 => bIf (x235 = x236) (r18 l1 l2 (l3 + 6)) (bRetZ (0 : Int32))))), (1567, bCallV 8 l1 (fX8_back l1) (fun x237 => bCallV 9 l2 (fX9_back l2) (fun x238 => bIf (x237 = x238) (r18 l1 l2 (l3 + 6)) (bRetZ (0 : Int32)))))] (r18 l1 l2 (l3 + 6))))
theorem qL_law_18 (v : mE)  (n : Nat) (l1 : Nat) (l2 : Nat) (l3 : Int32) : fL_law_18 v (n + 1) l1 l2 l3 = bIf (((Int32.ofNat (eN v)) - (6 : Int32)) < l3) (bRetZ (1 : Int32)) (bScr v l3 (fun x2 => bSw (x2 &&& (63 : Int32)) 0 [(236, bCallV 8 l1 (fX8_status l1) (fun x3 => bCallV 9 l2 (fX9_status l2) (fun x4 => bIf (x3 = x4) ((fL_law_18 v n) l1 l2 (l3 + 6)) (bRetZ (0 : Int32))))), (249, bCallV 8 l1 (fX8_top l1) (fun x5 => bCallV 9 l2 (fX9_top l2) (fun x6 => bIf ((lg_cmp x5 x6) = 0) ((fL_law_18 v n) l1 l2 (l3 + 6)) (bRetZ (0 : Int32))))), (263, bCallV 8 l1 (fX8_bottom l1) (fun x7 => bCallV 9 l2 (fX9_bottom l2) (fun x8 => bIf ((lg_cmp x7 x8) = 0) ((fL_law_18 v n) l1 l2 (l3 + 6)) (bRetZ (0 : Int32))))), (277, bScr v (l3 + (1 : Int32)) (fun x9 => bScr v (l3 + (2 : Int32)) (fun x10 => bScr v (l3 + (3 : Int32)) (fun x11 => bCallV 8 l1 (fX8_tray l1 x9 x10 x11) (fun x12 => bScr v (l3 + (1 : Int32)) (fun x13 => bScr v (l3 + (2 : Int32)) (fun x14 => bScr v (l3 + (3 : Int32)) (fun x15 => bCallV 9 l2 (fX9_tray l2 x13 x14 x15) (fun x16 => bIf (x12 = x16) ((fL_law_18 v n) l1 l2 (l3 + 6)) (bRetZ (0 : Int32))))))))))), (320, bScr v (l3 + (1 : Int32)) (fun x17 => bScr v (l3 + (2 : Int32)) (fun x18 => bScr v (l3 + (3 : Int32)) (fun x19 => bScr v (l3 + (4 : Int32)) (fun x20 => bCallV 8 l1 (fX8_write l1 x17 x18 (((Int32.toInt64 x19) <<< (Int32.toInt64 (32 : Int32) &&& 63)) ||| ((Int32.toInt64 x20) &&& (4294967295 : Int64)))) (fun x21 => bScr v (l3 + (1 : Int32)) (fun x22 => bScr v (l3 + (2 : Int32)) (fun x23 => bScr v (l3 + (3 : Int32)) (fun x24 => bScr v (l3 + (4 : Int32)) (fun x25 => bCallV 9 l2 (fX9_write l2 x22 x23 (((Int32.toInt64 x24) <<< (Int32.toInt64 (32 : Int32) &&& 63)) ||| ((Int32.toInt64 x25) &&& (4294967295 : Int64)))) (fun x26 => bIf (x21 = x26) ((fL_law_18 v n) l1 l2 (l3 + 6)) (bRetZ (0 : Int32))))))))))))), (393, bScr v (l3 + (1 : Int32)) (fun x27 => bScr v (l3 + (2 : Int32)) (fun x28 => bCallV 8 l1 (fX8_read l1 x27 x28) (fun x29 => bScr v (l3 + (1 : Int32)) (fun x30 => bScr v (l3 + (2 : Int32)) (fun x31 => bCallV 9 l2 (fX9_read l2 x30 x31) (fun x32 => bIf ((lg_cmp x29 x32) = 0) ((fL_law_18 v n) l1 l2 (l3 + 6)) (bRetZ (0 : Int32))))))))), (427, bScr v (l3 + (1 : Int32)) (fun x33 => bScr v (l3 + (2 : Int32)) (fun x34 => bScr v (l3 + (3 : Int32)) (fun x35 => bScr v (l3 + (4 : Int32)) (fun x36 => bScr v (l3 + (5 : Int32)) (fun x37 => bCallV 8 l1 (fX8_pour l1 x33 x34 x35 x36 x37) (fun x38 => bScr v (l3 + (1 : Int32)) (fun x39 => bScr v (l3 + (2 : Int32)) (fun x40 => bScr v (l3 + (3 : Int32)) (fun x41 => bScr v (l3 + (4 : Int32)) (fun x42 => bScr v (l3 + (5 : Int32)) (fun x43 => bCallV 9 l2 (fX9_pour l2 x39 x40 x41 x42 x43) (fun x44 => bIf (x38 = x44) ((fL_law_18 v n) l1 l2 (l3 + 6)) (bRetZ (0 : Int32))))))))))))))), (490, bScr v (l3 + (1 : Int32)) (fun x45 => bScr v (l3 + (2 : Int32)) (fun x46 => bScr v (l3 + (3 : Int32)) (fun x47 => bScr v (l3 + (4 : Int32)) (fun x48 => bScr v (l3 + (5 : Int32)) (fun x49 => bCallV 8 l1 (fX8_feed l1 x45 x46 x47 x48 x49) (fun x50 => bScr v (l3 + (1 : Int32)) (fun x51 => bScr v (l3 + (2 : Int32)) (fun x52 => bScr v (l3 + (3 : Int32)) (fun x53 => bScr v (l3 + (4 : Int32)) (fun x54 => bScr v (l3 + (5 : Int32)) (fun x55 => bCallV 9 l2 (fX9_feed l2 x51 x52 x53 x54 x55) (fun x56 => bIf (x50 = x56) ((fL_law_18 v n) l1 l2 (l3 + 6)) (bRetZ (0 : Int32))))))))))))))), (553, bScr v (l3 + (1 : Int32)) (fun x57 => bCallV 8 l1 (fX8_well l1 x57) (fun x58 => bScr v (l3 + (1 : Int32)) (fun x59 => bCallV 9 l2 (fX9_well l2 x59) (fun x60 => bIf (x58 = x60) ((fL_law_18 v n) l1 l2 (l3 + 6)) (bRetZ (0 : Int32))))))), (576, bScr v (l3 + (1 : Int32)) (fun x61 => bCallV 8 l1 (fX8_law l1 x61) (fun x62 => bScr v (l3 + (1 : Int32)) (fun x63 => bCallV 9 l2 (fX9_law l2 x63) (fun x64 => bIf (x62 = x64) ((fL_law_18 v n) l1 l2 (l3 + 6)) (bRetZ (0 : Int32))))))), (599, bScr v (l3 + (1 : Int32)) (fun x65 => bCallV 8 l1 (fX8_fault l1 x65) (fun x66 => bScr v (l3 + (1 : Int32)) (fun x67 => bCallV 9 l2 (fX9_fault l2 x67) (fun x68 => bIf (x66 = x68) ((fL_law_18 v n) l1 l2 (l3 + 6)) (bRetZ (0 : Int32))))))), (622, bScr v (l3 + (1 : Int32)) (fun x69 => bCallV 8 l1 (fX8_many l1 x69) (fun x70 => bScr v (l3 + (1 : Int32)) (fun x71 => bCallV 9 l2 (fX9_many l2 x71) (fun x72 => bIf (x70 = x72) ((fL_law_18 v n) l1 l2 (l3 + 6)) (bRetZ (0 : Int32))))))), (645, bScr v (l3 + (1 : Int32)) (fun x73 => bScr v (l3 + (2 : Int32)) (fun x74 => bCallV 8 l1 (fX8_person l1 x73 x74) (fun x75 => bScr v (l3 + (1 : Int32)) (fun x76 => bScr v (l3 + (2 : Int32)) (fun x77 => bCallV 9 l2 (fX9_person l2 x76 x77) (fun x78 => bIf (x75 = x78) ((fL_law_18 v n) l1 l2 (l3 + 6)) (bRetZ (0 : Int32))))))))), (678, bScr v (l3 + (1 : Int32)) (fun x79 => bCallV 8 l1 (fX8_heirs l1 x79) (fun x80 => bScr v (l3 + (1 : Int32)) (fun x81 => bCallV 9 l2 (fX9_heirs l2 x81) (fun x82 => bIf (x80 = x82) ((fL_law_18 v n) l1 l2 (l3 + 6)) (bRetZ (0 : Int32))))))), (701, bScr v (l3 + (1 : Int32)) (fun x83 => bScr v (l3 + (2 : Int32)) (fun x84 => bCallV 8 l1 (fX8_rope l1 x83 x84) (fun x85 => bScr v (l3 + (1 : Int32)) (fun x86 => bScr v (l3 + (2 : Int32)) (fun x87 => bCallV 9 l2 (fX9_rope l2 x86 x87) (fun x88 => bIf (x85 = x88) ((fL_law_18 v n) l1 l2 (l3 + 6)) (bRetZ (0 : Int32))))))))), (734, bScr v (l3 + (1 : Int32)) (fun x89 => bScr v (l3 + (2 : Int32)) (fun x90 => bScr v (l3 + (3 : Int32)) (fun x91 => bCallV 8 l1 (fX8_piece l1 x89 x90 x91) (fun x92 => bScr v (l3 + (1 : Int32)) (fun x93 => bScr v (l3 + (2 : Int32)) (fun x94 => bScr v (l3 + (3 : Int32)) (fun x95 => bCallV 9 l2 (fX9_piece l2 x93 x94 x95) (fun x96 => bIf (x92 = x96) ((fL_law_18 v n) l1 l2 (l3 + 6)) (bRetZ (0 : Int32))))))))))), (777, bScr v (l3 + (1 : Int32)) (fun x97 => bCallV 8 l1 (fX8_seed l1 x97) (fun x98 => bScr v (l3 + (1 : Int32)) (fun x99 => bCallV 9 l2 (fX9_seed l2 x99) (fun x100 => bIf (x98 = x100) ((fL_law_18 v n) l1 l2 (l3 + 6)) (bRetZ (0 : Int32))))))), (800, bScr v (l3 + (1 : Int32)) (fun x101 => bCallV 8 l1 (fX8_pass l1 x101) (fun x102 => bScr v (l3 + (1 : Int32)) (fun x103 => bCallV 9 l2 (fX9_pass l2 x103) (fun x104 => bIf (x102 = x104) ((fL_law_18 v n) l1 l2 (l3 + 6)) (bRetZ (0 : Int32))))))), (823, bScr v (l3 + (1 : Int32)) (fun x105 => bCallV 8 l1 (fX8_drinks l1 x105) (fun x106 => bScr v (l3 + (1 : Int32)) (fun x107 => bCallV 9 l2 (fX9_drinks l2 x107) (fun x108 => bIf (x106 = x108) ((fL_law_18 v n) l1 l2 (l3 + 6)) (bRetZ (0 : Int32))))))), (846, bCallV 8 l1 (fX8_who l1) (fun x109 => bCallV 9 l2 (fX9_who l2) (fun x110 => bIf (x109 = x110) ((fL_law_18 v n) l1 l2 (l3 + 6)) (bRetZ (0 : Int32))))), (859, bScr v (l3 + (1 : Int32)) (fun x111 => bCallV 8 l1 (fX8_depth l1 x111) (fun x112 => bScr v (l3 + (1 : Int32)) (fun x113 => bCallV 9 l2 (fX9_depth l2 x113) (fun x114 => bIf (x112 = x114) ((fL_law_18 v n) l1 l2 (l3 + 6)) (bRetZ (0 : Int32))))))), (882, bScr v (l3 + (1 : Int32)) (fun x115 => bCallV 8 l1 (fX8_whoThen l1 x115) (fun x116 => bScr v (l3 + (1 : Int32)) (fun x117 => bCallV 9 l2 (fX9_whoThen l2 x117) (fun x118 => bIf (x116 = x118) ((fL_law_18 v n) l1 l2 (l3 + 6)) (bRetZ (0 : Int32))))))), (905, bScr v (l3 + (1 : Int32)) (fun x119 => bScr v (l3 + (2 : Int32)) (fun x120 => bCallV 8 l1 (fX8_owner l1 x119 x120) (fun x121 => bScr v (l3 + (1 : Int32)) (fun x122 => bScr v (l3 + (2 : Int32)) (fun x123 => bCallV 9 l2 (fX9_owner l2 x122 x123) (fun x124 => bIf (x121 = x124) ((fL_law_18 v n) l1 l2 (l3 + 6)) (bRetZ (0 : Int32))))))))), (938, bScr v (l3 + (1 : Int32)) (fun x125 => bCallV 8 l1 (fX8_thirst l1 x125) (fun x126 => bScr v (l3 + (1 : Int32)) (fun x127 => bCallV 9 l2 (fX9_thirst l2 x127) (fun x128 => bIf (x126 = x128) ((fL_law_18 v n) l1 l2 (l3 + 6)) (bRetZ (0 : Int32))))))), (961, bScr v (l3 + (1 : Int32)) (fun x129 => bCallV 8 l1 (fX8_last l1 x129) (fun x130 => bScr v (l3 + (1 : Int32)) (fun x131 => bCallV 9 l2 (fX9_last l2 x131) (fun x132 => bIf (x130 = x132) ((fL_law_18 v n) l1 l2 (l3 + 6)) (bRetZ (0 : Int32))))))), (984, bScr v (l3 + (1 : Int32)) (fun x133 => bScr v (l3 + (2 : Int32)) (fun x134 => bScr v (l3 + (3 : Int32)) (fun x135 => bScr v (l3 + (4 : Int32)) (fun x136 => bCallV 8 l1 (fX8_odds l1 x133 x134 x135 x136) (fun x137 => bScr v (l3 + (1 : Int32)) (fun x138 => bScr v (l3 + (2 : Int32)) (fun x139 => bScr v (l3 + (3 : Int32)) (fun x140 => bScr v (l3 + (4 : Int32)) (fun x141 => bCallV 9 l2 (fX9_odds l2 x138 x139 x140 x141) (fun x142 => bIf (x137 = x142) ((fL_law_18 v n) l1 l2 (l3 + 6)) (bRetZ (0 : Int32))))))))))))), (1037, bScr v (l3 + (1 : Int32)) (fun x143 => bScr v (l3 + (2 : Int32)) (fun x144 => bCallV 8 l1 (fX8_knot l1 x143 x144) (fun x145 => bScr v (l3 + (1 : Int32)) (fun x146 => bScr v (l3 + (2 : Int32)) (fun x147 => bCallV 9 l2 (fX9_knot l2 x146 x147) (fun x148 => bIf (x145 = x148) ((fL_law_18 v n) l1 l2 (l3 + 6)) (bRetZ (0 : Int32))))))))), (1070, bScr v (l3 + (1 : Int32)) (fun x149 => bScr v (l3 + (2 : Int32)) (fun x150 => bCallV 8 l1 (fX8_undo l1 x149 x150) (fun x151 => bScr v (l3 + (1 : Int32)) (fun x152 => bScr v (l3 + (2 : Int32)) (fun x153 => bCallV 9 l2 (fX9_undo l2 x152 x153) (fun x154 => bIf (x151 = x154) ((fL_law_18 v n) l1 l2 (l3 + 6)) (bRetZ (0 : Int32))))))))), (1103, bScr v (l3 + (1 : Int32)) (fun x155 => bScr v (l3 + (2 : Int32)) (fun x156 => bCallV 8 l1 (fX8_cut l1 x155 x156) (fun x157 => bScr v (l3 + (1 : Int32)) (fun x158 => bScr v (l3 + (2 : Int32)) (fun x159 => bCallV 9 l2 (fX9_cut_ l2 x158 x159) (fun x160 => bIf (x157 = x160) ((fL_law_18 v n) l1 l2 (l3 + 6)) (bRetZ (0 : Int32))))))))), (1136, bScr v (l3 + (1 : Int32)) (fun x161 => bScr v (l3 + (2 : Int32)) (fun x162 => bScr v (l3 + (3 : Int32)) (fun x163 => bCallV 8 l1 (fX8_sell l1 x161 x162 x163) (fun x164 => bScr v (l3 + (1 : Int32)) (fun x165 => bScr v (l3 + (2 : Int32)) (fun x166 => bScr v (l3 + (3 : Int32)) (fun x167 => bCallV 9 l2 (fX9_sell l2 x165 x166 x167) (fun x168 => bIf (x164 = x168) ((fL_law_18 v n) l1 l2 (l3 + 6)) (bRetZ (0 : Int32))))))))))), (1179, bScr v (l3 + (1 : Int32)) (fun x169 => bScr v (l3 + (2 : Int32)) (fun x170 => bCallV 8 l1 (fX8_lend l1 x169 x170) (fun x171 => bScr v (l3 + (1 : Int32)) (fun x172 => bScr v (l3 + (2 : Int32)) (fun x173 => bCallV 9 l2 (fX9_lend l2 x172 x173) (fun x174 => bIf (x171 = x174) ((fL_law_18 v n) l1 l2 (l3 + 6)) (bRetZ (0 : Int32))))))))), (1212, bScr v (l3 + (1 : Int32)) (fun x175 => bCallV 8 l1 (fX8_takeBack l1 x175) (fun x176 => bScr v (l3 + (1 : Int32)) (fun x177 => bCallV 9 l2 (fX9_takeBack l2 x177) (fun x178 => bIf (x176 = x178) ((fL_law_18 v n) l1 l2 (l3 + 6)) (bRetZ (0 : Int32))))))), (1235, bScr v (l3 + (1 : Int32)) (fun x179 => bCallV 8 l1 (fX8_dig l1 x179) (fun x180 => bScr v (l3 + (1 : Int32)) (fun x181 => bCallV 9 l2 (fX9_dig l2 x181) (fun x182 => bIf (x180 = x182) ((fL_law_18 v n) l1 l2 (l3 + 6)) (bRetZ (0 : Int32))))))), (1258, bScr v (l3 + (1 : Int32)) (fun x183 => bScr v (l3 + (2 : Int32)) (fun x184 => bCallV 8 l1 (fX8_led l1 x183 x184) (fun x185 => bScr v (l3 + (1 : Int32)) (fun x186 => bScr v (l3 + (2 : Int32)) (fun x187 => bCallV 9 l2 (fX9_led l2 x186 x187) (fun x188 => bIf (x185 = x188) ((fL_law_18 v n) l1 l2 (l3 + 6)) (bRetZ (0 : Int32))))))))), (1291, bScr v (l3 + (1 : Int32)) (fun x189 => bCallV 8 l1 (fX8_share l1 x189) (fun x190 => bScr v (l3 + (1 : Int32)) (fun x191 => bCallV 9 l2 (fX9_share l2 x191) (fun x192 => bIf (x190 = x192) ((fL_law_18 v n) l1 l2 (l3 + 6)) (bRetZ (0 : Int32))))))), (1314, bScr v (l3 + (1 : Int32)) (fun x193 => bCallV 8 l1 (fX8_heirloom l1 x193) (fun x194 => bScr v (l3 + (1 : Int32)) (fun x195 => bCallV 9 l2 (fX9_heirloom l2 x195) (fun x196 => bIf (x194 = x196) ((fL_law_18 v n) l1 l2 (l3 + 6)) (bRetZ (0 : Int32))))))), (1337, bScr v (l3 + (1 : Int32)) (fun x197 => bScr v (l3 + (2 : Int32)) (fun x198 => bCallV 8 l1 (fX8_yardsOf l1 x197 x198) (fun x199 => bScr v (l3 + (1 : Int32)) (fun x200 => bScr v (l3 + (2 : Int32)) (fun x201 => bCallV 9 l2 (fX9_yardsOf l2 x200 x201) (fun x202 => bIf (x199 = x202) ((fL_law_18 v n) l1 l2 (l3 + 6)) (bRetZ (0 : Int32))))))))), (1370, bCallV 8 l1 (fX8_needed l1) (fun x203 => bCallV 9 l2 (fX9_needed l2) (fun x204 => bIf (x203 = x204) ((fL_law_18 v n) l1 l2 (l3 + 6)) (bRetZ (0 : Int32))))), (1383, bCallV 8 l1 (fX8_plan l1) (fun x205 => bCallV 9 l2 (fX9_plan l2) (fun x206 => bIf (x205 = x206) ((fL_law_18 v n) l1 l2 (l3 + 6)) (bRetZ (0 : Int32))))), (1396, bScr v (l3 + (1 : Int32)) (fun x207 => bCallV 8 l1 (fX8_spread l1 x207) (fun x208 => bScr v (l3 + (1 : Int32)) (fun x209 => bCallV 9 l2 (fX9_spread l2 x209) (fun x210 => bIf (x208 = x210) ((fL_law_18 v n) l1 l2 (l3 + 6)) (bRetZ (0 : Int32))))))), (1419, bScr v (l3 + (1 : Int32)) (fun x211 => bCallV 8 l1 (fX8_holds l1 x211) (fun x212 => bScr v (l3 + (1 : Int32)) (fun x213 => bCallV 9 l2 (fX9_holds l2 x213) (fun x214 => bIf (x212 = x214) ((fL_law_18 v n) l1 l2 (l3 + 6)) (bRetZ (0 : Int32))))))), (1442, bScr v (l3 + (1 : Int32)) (fun x215 => bCallV 8 l1 (fX8_best l1 x215) (fun x216 => bScr v (l3 + (1 : Int32)) (fun x217 => bCallV 9 l2 (fX9_best l2 x217) (fun x218 => bIf (x216 = x218) ((fL_law_18 v n) l1 l2 (l3 + 6)) (bRetZ (0 : Int32))))))), (1465, bScr v (l3 + (1 : Int32)) (fun x219 => bCallV 8 l1 (fX8_drawing l1 x219) (fun x220 => bScr v (l3 + (1 : Int32)) (fun x221 => bCallV 9 l2 (fX9_drawing l2 x221) (fun x222 => bIf (x220 = x222) ((fL_law_18 v n) l1 l2 (l3 + 6)) (bRetZ (0 : Int32))))))), (1488, bScr v (l3 + (1 : Int32)) (fun x223 => bScr v (l3 + (2 : Int32)) (fun x224 => bCallV 8 l1 (fX8_waiting l1 x223 x224) (fun x225 => bScr v (l3 + (1 : Int32)) (fun x226 => bScr v (l3 + (2 : Int32)) (fun x227 => bCallV 9 l2 (fX9_waiting l2 x226 x227) (fun x228 => bIf (x225 = x228) ((fL_law_18 v n) l1 l2 (l3 + 6)) (bRetZ (0 : Int32))))))))), (1521, bScr v (l3 + (1 : Int32)) (fun x229 => bScr v (l3 + (2 : Int32)) (fun x230 => bCallV 8 l1 (fX8_leastWaiting l1 x229 x230) (fun x231 => bScr v (l3 + (1 : Int32)) (fun x232 => bScr v (l3 + (2 : Int32)) (fun x233 => bCallV 9 l2 (fX9_leastWaiting l2 x232 x233) (fun x234 => bIf (x231 = x234) ((fL_law_18 v n) l1 l2 (l3 + 6)) (bRetZ (0 : Int32))))))))), (1554, bCallV 8 l1 (fX8_mark l1) (fun x235 => bCallV 9 l2 (fX9_mark l2) (fun x236 => bIf (x235 = x236) ((fL_law_18 v n) l1 l2 (l3 + 6)) (bRetZ (0 : Int32))))), (1567, bCallV 8 l1 (fX8_back l1) (fun x237 => bCallV 9 l2 (fX9_back l2) (fun x238 => bIf (x237 = x238) ((fL_law_18 v n) l1 l2 (l3 + 6)) (bRetZ (0 : Int32)))))] ((fL_law_18 v n) l1 l2 (l3 + 6)))) := rfl
set_option maxRecDepth 20000 in
theorem rL_law_18 (v : mE) (d : Nat) : ∀ (n : Nat) (l1 : Nat) (l2 : Nat) (l3 : Int32), Rz v RL cL_law 4 (some .boolean) false emI (d + 36) 18 [(0, vX 35), (1, vR l1), (2, vR l2), (3, vI l3)] [] (fL_law_18 v n l1 l2 l3)
  | 0, _, _, _ => fun _ _ _ hm => by cases hm
  | n + 1, l1, l2, l3 => by
    have h18 := rL_law_18 v d n
    unfold fL_law_18
    generalize fL_law_18 v n = r18 at h18 ⊢
    refine rz_iload_n 19 3 dL_law_18 rfl rfl ?_
    refine rz_xload_n 20 0 dL_law_19 rfl rfl ?_
    refine rz_scrLen 21 dL_law_20 rfl rfl ?_
    refine rz_bipush 23 dL_law_21 rfl cb_6 ?_
    refine rz_isub 24 dL_law_23 rfl ?_
    refine rz_icmp_gt 1586 27 dL_law_24 rfl rfl ?_ ?_
    · refine rz_iconst 1587 dL_law_1586 rfl ci_1 ?_
      exact rz_zreturn rfl rfl dL_law_1587
    · refine rz_xload_n 28 0 dL_law_27 rfl rfl ?_
      refine rz_iload_n 29 3 dL_law_28 rfl rfl ?_
      refine rz_scr 30 dL_law_29 rfl rfl (fun x2 => ?_)
      refine rz_bipush 32 dL_law_30 rfl cb_63 ?_
      refine rz_iand 33 dL_law_32 rfl ?_
      refine rz_table 1580 dL_law_33 rfl rfl rfl rfl ?_ ?_
      · refine rz_iinc (lv' := [(3, vI (l3 + 6)), (0, vX 35), (1, vR l1), (2, vR l2)]) 1583 3 dL_law_1580 rfl rfl (cn_6 _) rfl rfl ?_
        refine rz_goto 18 dL_law_1583 rfl ?_
        exact rz_sub [1, 2, 3, 0] rfl (h18 l1 l2 (l3 + 6))
      · refine List.forall_mem_cons.mpr ⟨?_, List.forall_mem_cons.mpr ⟨?_, List.forall_mem_cons.mpr ⟨?_, List.forall_mem_cons.mpr ⟨?_, List.forall_mem_cons.mpr ⟨?_, List.forall_mem_cons.mpr ⟨?_, List.forall_mem_cons.mpr ⟨?_, List.forall_mem_cons.mpr ⟨?_, List.forall_mem_cons.mpr ⟨?_, List.forall_mem_cons.mpr ⟨?_, List.forall_mem_cons.mpr ⟨?_, List.forall_mem_cons.mpr ⟨?_, List.forall_mem_cons.mpr ⟨?_, List.forall_mem_cons.mpr ⟨?_, List.forall_mem_cons.mpr ⟨?_, List.forall_mem_cons.mpr ⟨?_, List.forall_mem_cons.mpr ⟨?_, List.forall_mem_cons.mpr ⟨?_, List.forall_mem_cons.mpr ⟨?_, List.forall_mem_cons.mpr ⟨?_, List.forall_mem_cons.mpr ⟨?_, List.forall_mem_cons.mpr ⟨?_, List.forall_mem_cons.mpr ⟨?_, List.forall_mem_cons.mpr ⟨?_, List.forall_mem_cons.mpr ⟨?_, List.forall_mem_cons.mpr ⟨?_, List.forall_mem_cons.mpr ⟨?_, List.forall_mem_cons.mpr ⟨?_, List.forall_mem_cons.mpr ⟨?_, List.forall_mem_cons.mpr ⟨?_, List.forall_mem_cons.mpr ⟨?_, List.forall_mem_cons.mpr ⟨?_, List.forall_mem_cons.mpr ⟨?_, List.forall_mem_cons.mpr ⟨?_, List.forall_mem_cons.mpr ⟨?_, List.forall_mem_cons.mpr ⟨?_, List.forall_mem_cons.mpr ⟨?_, List.forall_mem_cons.mpr ⟨?_, List.forall_mem_cons.mpr ⟨?_, List.forall_mem_cons.mpr ⟨?_, List.forall_mem_cons.mpr ⟨?_, List.forall_mem_cons.mpr ⟨?_, List.forall_mem_cons.mpr ⟨?_, List.forall_mem_cons.mpr ⟨?_, List.forall_mem_cons.mpr ⟨?_, List.forall_mem_cons.mpr ⟨?_, List.forall_mem_cons.mpr ⟨?_, fun _ h => absurd h List.not_mem_nil⟩⟩⟩⟩⟩⟩⟩⟩⟩⟩⟩⟩⟩⟩⟩⟩⟩⟩⟩⟩⟩⟩⟩⟩⟩⟩⟩⟩⟩⟩⟩⟩⟩⟩⟩⟩⟩⟩⟩⟩⟩⟩⟩⟩⟩⟩⟩
        · refine rz_pr ?_
          refine rz_aload_n 237 1 dL_law_236 rfl rfl ?_
          refine rz_callV 240 dL_law_237 rfl (tX8_status v (d + 35) l1) rfl rfl rfl rfl ml_L_13 im_X8_status se_X8_X8_status in_X8 co_X8_status rfl rfl (fun x3 => ?_)
          refine rz_aload_n 241 2 dL_law_240 rfl rfl ?_
          refine rz_callV 244 dL_law_241 rfl (tX9_status v (d + 35) l2) rfl rfl rfl rfl ml_L_17 im_X9_status se_X9_X9_status in_X9 co_X9_status rfl rfl (fun x4 => ?_)
          refine rz_icmp_eq 1580 247 dL_law_244 rfl rfl ?_ ?_
          · refine rz_iinc (lv' := [(3, vI (l3 + 6)), (0, vX 35), (1, vR l1), (2, vR l2)]) 1583 3 dL_law_1580 rfl rfl (cn_6 _) rfl rfl ?_
            refine rz_goto 18 dL_law_1583 rfl ?_
            exact rz_sub [1, 2, 3, 0] rfl (h18 l1 l2 (l3 + 6))
          · refine rz_iconst 248 dL_law_247 rfl ci_0 ?_
            exact rz_zreturn rfl rfl dL_law_248
        · refine rz_pr ?_
          refine rz_aload_n 250 1 dL_law_249 rfl rfl ?_
          refine rz_callV 253 dL_law_250 rfl (tX8_top v (d + 35) l1) rfl rfl rfl rfl ml_L_18 im_X8_top se_X8_X8_top in_X8 co_X8_top rfl rfl (fun x5 => ?_)
          refine rz_aload_n 254 2 dL_law_253 rfl rfl ?_
          refine rz_callV 257 dL_law_254 rfl (tX9_top v (d + 35) l2) rfl rfl rfl rfl ml_L_22 im_X9_top se_X9_X9_top in_X9 co_X9_top rfl rfl (fun x6 => ?_)
          refine rz_lcmp 258 dL_law_257 rfl ?_
          refine rz_if_eq 1580 261 dL_law_258 rfl rfl ?_ ?_
          · refine rz_iinc (lv' := [(3, vI (l3 + 6)), (0, vX 35), (1, vR l1), (2, vR l2)]) 1583 3 dL_law_1580 rfl rfl (cn_6 _) rfl rfl ?_
            refine rz_goto 18 dL_law_1583 rfl ?_
            exact rz_sub [1, 2, 3, 0] rfl (h18 l1 l2 (l3 + 6))
          · refine rz_iconst 262 dL_law_261 rfl ci_0 ?_
            exact rz_zreturn rfl rfl dL_law_262
        · refine rz_pr ?_
          refine rz_aload_n 264 1 dL_law_263 rfl rfl ?_
          refine rz_callV 267 dL_law_264 rfl (tX8_bottom v (d + 35) l1) rfl rfl rfl rfl ml_L_23 im_X8_bottom se_X8_X8_bottom in_X8 co_X8_bottom rfl rfl (fun x7 => ?_)
          refine rz_aload_n 268 2 dL_law_267 rfl rfl ?_
          refine rz_callV 271 dL_law_268 rfl (tX9_bottom v (d + 35) l2) rfl rfl rfl rfl ml_L_26 im_X9_bottom se_X9_X9_bottom in_X9 co_X9_bottom rfl rfl (fun x8 => ?_)
          refine rz_lcmp 272 dL_law_271 rfl ?_
          refine rz_if_eq 1580 275 dL_law_272 rfl rfl ?_ ?_
          · refine rz_iinc (lv' := [(3, vI (l3 + 6)), (0, vX 35), (1, vR l1), (2, vR l2)]) 1583 3 dL_law_1580 rfl rfl (cn_6 _) rfl rfl ?_
            refine rz_goto 18 dL_law_1583 rfl ?_
            exact rz_sub [1, 2, 3, 0] rfl (h18 l1 l2 (l3 + 6))
          · refine rz_iconst 276 dL_law_275 rfl ci_0 ?_
            exact rz_zreturn rfl rfl dL_law_276
        · refine rz_pr ?_
          refine rz_aload_n 278 1 dL_law_277 rfl rfl ?_
          refine rz_xload_n 279 0 dL_law_278 rfl rfl ?_
          refine rz_iload_n 280 3 dL_law_279 rfl rfl ?_
          refine rz_iconst 281 dL_law_280 rfl ci_1 ?_
          refine rz_iadd 282 dL_law_281 rfl ?_
          refine rz_scr 283 dL_law_282 rfl rfl (fun x9 => ?_)
          refine rz_xload_n 284 0 dL_law_283 rfl rfl ?_
          refine rz_iload_n 285 3 dL_law_284 rfl rfl ?_
          refine rz_iconst 286 dL_law_285 rfl ci_2 ?_
          refine rz_iadd 287 dL_law_286 rfl ?_
          refine rz_scr 288 dL_law_287 rfl rfl (fun x10 => ?_)
          refine rz_xload_n 289 0 dL_law_288 rfl rfl ?_
          refine rz_iload_n 290 3 dL_law_289 rfl rfl ?_
          refine rz_iconst 291 dL_law_290 rfl ci_3 ?_
          refine rz_iadd 292 dL_law_291 rfl ?_
          refine rz_scr 293 dL_law_292 rfl rfl (fun x11 => ?_)
          refine rz_callV 296 dL_law_293 rfl (tX8_tray v (d + 33) l1 x9 x10 x11) rfl rfl rfl rfl ml_L_27 im_X8_tray se_X8_X8_tray in_X8 co_X8_tray rfl rfl (fun x12 => ?_)
          refine rz_aload_n 297 2 dL_law_296 rfl rfl ?_
          refine rz_xload_n 298 0 dL_law_297 rfl rfl ?_
          refine rz_iload_n 299 3 dL_law_298 rfl rfl ?_
          refine rz_iconst 300 dL_law_299 rfl ci_1 ?_
          refine rz_iadd 301 dL_law_300 rfl ?_
          refine rz_scr 302 dL_law_301 rfl rfl (fun x13 => ?_)
          refine rz_xload_n 303 0 dL_law_302 rfl rfl ?_
          refine rz_iload_n 304 3 dL_law_303 rfl rfl ?_
          refine rz_iconst 305 dL_law_304 rfl ci_2 ?_
          refine rz_iadd 306 dL_law_305 rfl ?_
          refine rz_scr 307 dL_law_306 rfl rfl (fun x14 => ?_)
          refine rz_xload_n 308 0 dL_law_307 rfl rfl ?_
          refine rz_iload_n 309 3 dL_law_308 rfl rfl ?_
          refine rz_iconst 310 dL_law_309 rfl ci_3 ?_
          refine rz_iadd 311 dL_law_310 rfl ?_
          refine rz_scr 312 dL_law_311 rfl rfl (fun x15 => ?_)
          refine rz_callV 315 dL_law_312 rfl (tX9_tray v (d + 34) l2 x13 x14 x15) rfl rfl rfl rfl ml_L_31 im_X9_tray se_X9_X9_tray in_X9 co_X9_tray rfl rfl (fun x16 => ?_)
          refine rz_icmp_eq 1580 318 dL_law_315 rfl rfl ?_ ?_
          · refine rz_iinc (lv' := [(3, vI (l3 + 6)), (0, vX 35), (1, vR l1), (2, vR l2)]) 1583 3 dL_law_1580 rfl rfl (cn_6 _) rfl rfl ?_
            refine rz_goto 18 dL_law_1583 rfl ?_
            exact rz_sub [1, 2, 3, 0] rfl (h18 l1 l2 (l3 + 6))
          · refine rz_iconst 319 dL_law_318 rfl ci_0 ?_
            exact rz_zreturn rfl rfl dL_law_319
        · refine rz_pr ?_
          refine rz_aload_n 321 1 dL_law_320 rfl rfl ?_
          refine rz_xload_n 322 0 dL_law_321 rfl rfl ?_
          refine rz_iload_n 323 3 dL_law_322 rfl rfl ?_
          refine rz_iconst 324 dL_law_323 rfl ci_1 ?_
          refine rz_iadd 325 dL_law_324 rfl ?_
          refine rz_scr 326 dL_law_325 rfl rfl (fun x17 => ?_)
          refine rz_xload_n 327 0 dL_law_326 rfl rfl ?_
          refine rz_iload_n 328 3 dL_law_327 rfl rfl ?_
          refine rz_iconst 329 dL_law_328 rfl ci_2 ?_
          refine rz_iadd 330 dL_law_329 rfl ?_
          refine rz_scr 331 dL_law_330 rfl rfl (fun x18 => ?_)
          refine rz_xload_n 332 0 dL_law_331 rfl rfl ?_
          refine rz_iload_n 333 3 dL_law_332 rfl rfl ?_
          refine rz_iconst 334 dL_law_333 rfl ci_3 ?_
          refine rz_iadd 335 dL_law_334 rfl ?_
          refine rz_scr 336 dL_law_335 rfl rfl (fun x19 => ?_)
          refine rz_i2l 337 dL_law_336 rfl ?_
          refine rz_bipush 339 dL_law_337 rfl cb_32 ?_
          refine rz_lshl 340 dL_law_339 rfl ?_
          refine rz_xload_n 341 0 dL_law_340 rfl rfl ?_
          refine rz_iload_n 342 3 dL_law_341 rfl rfl ?_
          refine rz_iconst 343 dL_law_342 rfl ci_4 ?_
          refine rz_iadd 344 dL_law_343 rfl ?_
          refine rz_scr 345 dL_law_344 rfl rfl (fun x20 => ?_)
          refine rz_i2l 346 dL_law_345 rfl ?_
          refine rz_ldc2 349 dL_law_346 rfl cu_L_32 ?_
          refine rz_land 350 dL_law_349 rfl ?_
          refine rz_lor 351 dL_law_350 rfl ?_
          refine rz_callV 354 dL_law_351 rfl (tX8_write v (d + 33) l1 x17 x18 (((Int32.toInt64 x19) <<< (Int32.toInt64 (32 : Int32) &&& 63)) ||| ((Int32.toInt64 x20) &&& (4294967295 : Int64)))) rfl rfl rfl rfl ml_L_34 im_X8_write se_X8_X8_write in_X8 co_X8_write rfl rfl (fun x21 => ?_)
          refine rz_aload_n 355 2 dL_law_354 rfl rfl ?_
          refine rz_xload_n 356 0 dL_law_355 rfl rfl ?_
          refine rz_iload_n 357 3 dL_law_356 rfl rfl ?_
          refine rz_iconst 358 dL_law_357 rfl ci_1 ?_
          refine rz_iadd 359 dL_law_358 rfl ?_
          refine rz_scr 360 dL_law_359 rfl rfl (fun x22 => ?_)
          refine rz_xload_n 361 0 dL_law_360 rfl rfl ?_
          refine rz_iload_n 362 3 dL_law_361 rfl rfl ?_
          refine rz_iconst 363 dL_law_362 rfl ci_2 ?_
          refine rz_iadd 364 dL_law_363 rfl ?_
          refine rz_scr 365 dL_law_364 rfl rfl (fun x23 => ?_)
          refine rz_xload_n 366 0 dL_law_365 rfl rfl ?_
          refine rz_iload_n 367 3 dL_law_366 rfl rfl ?_
          refine rz_iconst 368 dL_law_367 rfl ci_3 ?_
          refine rz_iadd 369 dL_law_368 rfl ?_
          refine rz_scr 370 dL_law_369 rfl rfl (fun x24 => ?_)
          refine rz_i2l 371 dL_law_370 rfl ?_
          refine rz_bipush 373 dL_law_371 rfl cb_32 ?_
          refine rz_lshl 374 dL_law_373 rfl ?_
          refine rz_xload_n 375 0 dL_law_374 rfl rfl ?_
          refine rz_iload_n 376 3 dL_law_375 rfl rfl ?_
          refine rz_iconst 377 dL_law_376 rfl ci_4 ?_
          refine rz_iadd 378 dL_law_377 rfl ?_
          refine rz_scr 379 dL_law_378 rfl rfl (fun x25 => ?_)
          refine rz_i2l 380 dL_law_379 rfl ?_
          refine rz_ldc2 383 dL_law_380 rfl cu_L_32 ?_
          refine rz_land 384 dL_law_383 rfl ?_
          refine rz_lor 385 dL_law_384 rfl ?_
          refine rz_callV 388 dL_law_385 rfl (tX9_write v (d + 33) l2 x22 x23 (((Int32.toInt64 x24) <<< (Int32.toInt64 (32 : Int32) &&& 63)) ||| ((Int32.toInt64 x25) &&& (4294967295 : Int64)))) rfl rfl rfl rfl ml_L_38 im_X9_write se_X9_X9_write in_X9 co_X9_write rfl rfl (fun x26 => ?_)
          refine rz_icmp_eq 1580 391 dL_law_388 rfl rfl ?_ ?_
          · refine rz_iinc (lv' := [(3, vI (l3 + 6)), (0, vX 35), (1, vR l1), (2, vR l2)]) 1583 3 dL_law_1580 rfl rfl (cn_6 _) rfl rfl ?_
            refine rz_goto 18 dL_law_1583 rfl ?_
            exact rz_sub [1, 2, 3, 0] rfl (h18 l1 l2 (l3 + 6))
          · refine rz_iconst 392 dL_law_391 rfl ci_0 ?_
            exact rz_zreturn rfl rfl dL_law_392
        · refine rz_pr ?_
          refine rz_aload_n 394 1 dL_law_393 rfl rfl ?_
          refine rz_xload_n 395 0 dL_law_394 rfl rfl ?_
          refine rz_iload_n 396 3 dL_law_395 rfl rfl ?_
          refine rz_iconst 397 dL_law_396 rfl ci_1 ?_
          refine rz_iadd 398 dL_law_397 rfl ?_
          refine rz_scr 399 dL_law_398 rfl rfl (fun x27 => ?_)
          refine rz_xload_n 400 0 dL_law_399 rfl rfl ?_
          refine rz_iload_n 401 3 dL_law_400 rfl rfl ?_
          refine rz_iconst 402 dL_law_401 rfl ci_2 ?_
          refine rz_iadd 403 dL_law_402 rfl ?_
          refine rz_scr 404 dL_law_403 rfl rfl (fun x28 => ?_)
          refine rz_callV 407 dL_law_404 rfl (tX8_read v (d + 33) l1 x27 x28) rfl rfl rfl rfl ml_L_39 im_X8_read se_X8_X8_read in_X8 co_X8_read rfl rfl (fun x29 => ?_)
          refine rz_aload_n 408 2 dL_law_407 rfl rfl ?_
          refine rz_xload_n 409 0 dL_law_408 rfl rfl ?_
          refine rz_iload_n 410 3 dL_law_409 rfl rfl ?_
          refine rz_iconst 411 dL_law_410 rfl ci_1 ?_
          refine rz_iadd 412 dL_law_411 rfl ?_
          refine rz_scr 413 dL_law_412 rfl rfl (fun x30 => ?_)
          refine rz_xload_n 414 0 dL_law_413 rfl rfl ?_
          refine rz_iload_n 415 3 dL_law_414 rfl rfl ?_
          refine rz_iconst 416 dL_law_415 rfl ci_2 ?_
          refine rz_iadd 417 dL_law_416 rfl ?_
          refine rz_scr 418 dL_law_417 rfl rfl (fun x31 => ?_)
          refine rz_callV 421 dL_law_418 rfl (tX9_read v (d + 33) l2 x30 x31) rfl rfl rfl rfl ml_L_43 im_X9_read se_X9_X9_read in_X9 co_X9_read rfl rfl (fun x32 => ?_)
          refine rz_lcmp 422 dL_law_421 rfl ?_
          refine rz_if_eq 1580 425 dL_law_422 rfl rfl ?_ ?_
          · refine rz_iinc (lv' := [(3, vI (l3 + 6)), (0, vX 35), (1, vR l1), (2, vR l2)]) 1583 3 dL_law_1580 rfl rfl (cn_6 _) rfl rfl ?_
            refine rz_goto 18 dL_law_1583 rfl ?_
            exact rz_sub [1, 2, 3, 0] rfl (h18 l1 l2 (l3 + 6))
          · refine rz_iconst 426 dL_law_425 rfl ci_0 ?_
            exact rz_zreturn rfl rfl dL_law_426
        · refine rz_pr ?_
          refine rz_aload_n 428 1 dL_law_427 rfl rfl ?_
          refine rz_xload_n 429 0 dL_law_428 rfl rfl ?_
          refine rz_iload_n 430 3 dL_law_429 rfl rfl ?_
          refine rz_iconst 431 dL_law_430 rfl ci_1 ?_
          refine rz_iadd 432 dL_law_431 rfl ?_
          refine rz_scr 433 dL_law_432 rfl rfl (fun x33 => ?_)
          refine rz_xload_n 434 0 dL_law_433 rfl rfl ?_
          refine rz_iload_n 435 3 dL_law_434 rfl rfl ?_
          refine rz_iconst 436 dL_law_435 rfl ci_2 ?_
          refine rz_iadd 437 dL_law_436 rfl ?_
          refine rz_scr 438 dL_law_437 rfl rfl (fun x34 => ?_)
          refine rz_xload_n 439 0 dL_law_438 rfl rfl ?_
          refine rz_iload_n 440 3 dL_law_439 rfl rfl ?_
          refine rz_iconst 441 dL_law_440 rfl ci_3 ?_
          refine rz_iadd 442 dL_law_441 rfl ?_
          refine rz_scr 443 dL_law_442 rfl rfl (fun x35 => ?_)
          refine rz_xload_n 444 0 dL_law_443 rfl rfl ?_
          refine rz_iload_n 445 3 dL_law_444 rfl rfl ?_
          refine rz_iconst 446 dL_law_445 rfl ci_4 ?_
          refine rz_iadd 447 dL_law_446 rfl ?_
          refine rz_scr 448 dL_law_447 rfl rfl (fun x36 => ?_)
          refine rz_xload_n 449 0 dL_law_448 rfl rfl ?_
          refine rz_iload_n 450 3 dL_law_449 rfl rfl ?_
          refine rz_iconst 451 dL_law_450 rfl ci_5 ?_
          refine rz_iadd 452 dL_law_451 rfl ?_
          refine rz_scr 453 dL_law_452 rfl rfl (fun x37 => ?_)
          refine rz_callV 456 dL_law_453 rfl (tX8_pour v (d + 33) l1 x33 x34 x35 x36 x37) rfl rfl rfl rfl ml_L_44 im_X8_pour se_X8_X8_pour in_X8 co_X8_pour rfl rfl (fun x38 => ?_)
          refine rz_aload_n 457 2 dL_law_456 rfl rfl ?_
          refine rz_xload_n 458 0 dL_law_457 rfl rfl ?_
          refine rz_iload_n 459 3 dL_law_458 rfl rfl ?_
          refine rz_iconst 460 dL_law_459 rfl ci_1 ?_
          refine rz_iadd 461 dL_law_460 rfl ?_
          refine rz_scr 462 dL_law_461 rfl rfl (fun x39 => ?_)
          refine rz_xload_n 463 0 dL_law_462 rfl rfl ?_
          refine rz_iload_n 464 3 dL_law_463 rfl rfl ?_
          refine rz_iconst 465 dL_law_464 rfl ci_2 ?_
          refine rz_iadd 466 dL_law_465 rfl ?_
          refine rz_scr 467 dL_law_466 rfl rfl (fun x40 => ?_)
          refine rz_xload_n 468 0 dL_law_467 rfl rfl ?_
          refine rz_iload_n 469 3 dL_law_468 rfl rfl ?_
          refine rz_iconst 470 dL_law_469 rfl ci_3 ?_
          refine rz_iadd 471 dL_law_470 rfl ?_
          refine rz_scr 472 dL_law_471 rfl rfl (fun x41 => ?_)
          refine rz_xload_n 473 0 dL_law_472 rfl rfl ?_
          refine rz_iload_n 474 3 dL_law_473 rfl rfl ?_
          refine rz_iconst 475 dL_law_474 rfl ci_4 ?_
          refine rz_iadd 476 dL_law_475 rfl ?_
          refine rz_scr 477 dL_law_476 rfl rfl (fun x42 => ?_)
          refine rz_xload_n 478 0 dL_law_477 rfl rfl ?_
          refine rz_iload_n 479 3 dL_law_478 rfl rfl ?_
          refine rz_iconst 480 dL_law_479 rfl ci_5 ?_
          refine rz_iadd 481 dL_law_480 rfl ?_
          refine rz_scr 482 dL_law_481 rfl rfl (fun x43 => ?_)
          refine rz_callV 485 dL_law_482 rfl (tX9_pour v (d + 34) l2 x39 x40 x41 x42 x43) rfl rfl rfl rfl ml_L_48 im_X9_pour se_X9_X9_pour in_X9 co_X9_pour rfl rfl (fun x44 => ?_)
          refine rz_icmp_eq 1580 488 dL_law_485 rfl rfl ?_ ?_
          · refine rz_iinc (lv' := [(3, vI (l3 + 6)), (0, vX 35), (1, vR l1), (2, vR l2)]) 1583 3 dL_law_1580 rfl rfl (cn_6 _) rfl rfl ?_
            refine rz_goto 18 dL_law_1583 rfl ?_
            exact rz_sub [1, 2, 3, 0] rfl (h18 l1 l2 (l3 + 6))
          · refine rz_iconst 489 dL_law_488 rfl ci_0 ?_
            exact rz_zreturn rfl rfl dL_law_489
        · refine rz_pr ?_
          refine rz_aload_n 491 1 dL_law_490 rfl rfl ?_
          refine rz_xload_n 492 0 dL_law_491 rfl rfl ?_
          refine rz_iload_n 493 3 dL_law_492 rfl rfl ?_
          refine rz_iconst 494 dL_law_493 rfl ci_1 ?_
          refine rz_iadd 495 dL_law_494 rfl ?_
          refine rz_scr 496 dL_law_495 rfl rfl (fun x45 => ?_)
          refine rz_xload_n 497 0 dL_law_496 rfl rfl ?_
          refine rz_iload_n 498 3 dL_law_497 rfl rfl ?_
          refine rz_iconst 499 dL_law_498 rfl ci_2 ?_
          refine rz_iadd 500 dL_law_499 rfl ?_
          refine rz_scr 501 dL_law_500 rfl rfl (fun x46 => ?_)
          refine rz_xload_n 502 0 dL_law_501 rfl rfl ?_
          refine rz_iload_n 503 3 dL_law_502 rfl rfl ?_
          refine rz_iconst 504 dL_law_503 rfl ci_3 ?_
          refine rz_iadd 505 dL_law_504 rfl ?_
          refine rz_scr 506 dL_law_505 rfl rfl (fun x47 => ?_)
          refine rz_xload_n 507 0 dL_law_506 rfl rfl ?_
          refine rz_iload_n 508 3 dL_law_507 rfl rfl ?_
          refine rz_iconst 509 dL_law_508 rfl ci_4 ?_
          refine rz_iadd 510 dL_law_509 rfl ?_
          refine rz_scr 511 dL_law_510 rfl rfl (fun x48 => ?_)
          refine rz_xload_n 512 0 dL_law_511 rfl rfl ?_
          refine rz_iload_n 513 3 dL_law_512 rfl rfl ?_
          refine rz_iconst 514 dL_law_513 rfl ci_5 ?_
          refine rz_iadd 515 dL_law_514 rfl ?_
          refine rz_scr 516 dL_law_515 rfl rfl (fun x49 => ?_)
          refine rz_callV 519 dL_law_516 rfl (tX8_feed v (d + 34) l1 x45 x46 x47 x48 x49) rfl rfl rfl rfl ml_L_49 im_X8_feed se_X8_X8_feed in_X8 co_X8_feed rfl rfl (fun x50 => ?_)
          refine rz_aload_n 520 2 dL_law_519 rfl rfl ?_
          refine rz_xload_n 521 0 dL_law_520 rfl rfl ?_
          refine rz_iload_n 522 3 dL_law_521 rfl rfl ?_
          refine rz_iconst 523 dL_law_522 rfl ci_1 ?_
          refine rz_iadd 524 dL_law_523 rfl ?_
          refine rz_scr 525 dL_law_524 rfl rfl (fun x51 => ?_)
          refine rz_xload_n 526 0 dL_law_525 rfl rfl ?_
          refine rz_iload_n 527 3 dL_law_526 rfl rfl ?_
          refine rz_iconst 528 dL_law_527 rfl ci_2 ?_
          refine rz_iadd 529 dL_law_528 rfl ?_
          refine rz_scr 530 dL_law_529 rfl rfl (fun x52 => ?_)
          refine rz_xload_n 531 0 dL_law_530 rfl rfl ?_
          refine rz_iload_n 532 3 dL_law_531 rfl rfl ?_
          refine rz_iconst 533 dL_law_532 rfl ci_3 ?_
          refine rz_iadd 534 dL_law_533 rfl ?_
          refine rz_scr 535 dL_law_534 rfl rfl (fun x53 => ?_)
          refine rz_xload_n 536 0 dL_law_535 rfl rfl ?_
          refine rz_iload_n 537 3 dL_law_536 rfl rfl ?_
          refine rz_iconst 538 dL_law_537 rfl ci_4 ?_
          refine rz_iadd 539 dL_law_538 rfl ?_
          refine rz_scr 540 dL_law_539 rfl rfl (fun x54 => ?_)
          refine rz_xload_n 541 0 dL_law_540 rfl rfl ?_
          refine rz_iload_n 542 3 dL_law_541 rfl rfl ?_
          refine rz_iconst 543 dL_law_542 rfl ci_5 ?_
          refine rz_iadd 544 dL_law_543 rfl ?_
          refine rz_scr 545 dL_law_544 rfl rfl (fun x55 => ?_)
          refine rz_callV 548 dL_law_545 rfl (tX9_feed v (d + 34) l2 x51 x52 x53 x54 x55) rfl rfl rfl rfl ml_L_53 im_X9_feed se_X9_X9_feed in_X9 co_X9_feed rfl rfl (fun x56 => ?_)
          refine rz_icmp_eq 1580 551 dL_law_548 rfl rfl ?_ ?_
          · refine rz_iinc (lv' := [(3, vI (l3 + 6)), (0, vX 35), (1, vR l1), (2, vR l2)]) 1583 3 dL_law_1580 rfl rfl (cn_6 _) rfl rfl ?_
            refine rz_goto 18 dL_law_1583 rfl ?_
            exact rz_sub [1, 2, 3, 0] rfl (h18 l1 l2 (l3 + 6))
          · refine rz_iconst 552 dL_law_551 rfl ci_0 ?_
            exact rz_zreturn rfl rfl dL_law_552
        · refine rz_pr ?_
          refine rz_aload_n 554 1 dL_law_553 rfl rfl ?_
          refine rz_xload_n 555 0 dL_law_554 rfl rfl ?_
          refine rz_iload_n 556 3 dL_law_555 rfl rfl ?_
          refine rz_iconst 557 dL_law_556 rfl ci_1 ?_
          refine rz_iadd 558 dL_law_557 rfl ?_
          refine rz_scr 559 dL_law_558 rfl rfl (fun x57 => ?_)
          refine rz_callV 562 dL_law_559 rfl (tX8_well v (d + 24) l1 x57) rfl rfl rfl rfl ml_L_54 im_X8_well se_X8_X8_well in_X8 co_X8_well rfl rfl (fun x58 => ?_)
          refine rz_aload_n 563 2 dL_law_562 rfl rfl ?_
          refine rz_xload_n 564 0 dL_law_563 rfl rfl ?_
          refine rz_iload_n 565 3 dL_law_564 rfl rfl ?_
          refine rz_iconst 566 dL_law_565 rfl ci_1 ?_
          refine rz_iadd 567 dL_law_566 rfl ?_
          refine rz_scr 568 dL_law_567 rfl rfl (fun x59 => ?_)
          refine rz_callV 571 dL_law_568 rfl (tX9_well v (d + 28) l2 x59) rfl rfl rfl rfl ml_L_58 im_X9_well se_X9_X9_well in_X9 co_X9_well rfl rfl (fun x60 => ?_)
          refine rz_icmp_eq 1580 574 dL_law_571 rfl rfl ?_ ?_
          · refine rz_iinc (lv' := [(3, vI (l3 + 6)), (0, vX 35), (1, vR l1), (2, vR l2)]) 1583 3 dL_law_1580 rfl rfl (cn_6 _) rfl rfl ?_
            refine rz_goto 18 dL_law_1583 rfl ?_
            exact rz_sub [1, 2, 3, 0] rfl (h18 l1 l2 (l3 + 6))
          · refine rz_iconst 575 dL_law_574 rfl ci_0 ?_
            exact rz_zreturn rfl rfl dL_law_575
        · refine rz_pr ?_
          refine rz_aload_n 577 1 dL_law_576 rfl rfl ?_
          refine rz_xload_n 578 0 dL_law_577 rfl rfl ?_
          refine rz_iload_n 579 3 dL_law_578 rfl rfl ?_
          refine rz_iconst 580 dL_law_579 rfl ci_1 ?_
          refine rz_iadd 581 dL_law_580 rfl ?_
          refine rz_scr 582 dL_law_581 rfl rfl (fun x61 => ?_)
          refine rz_callV 585 dL_law_582 rfl (tX8_law v (d + 0) l1 x61) rfl rfl rfl rfl ml_L_59 im_X8_law se_X8_X8_law in_X8 co_X8_law rfl rfl (fun x62 => ?_)
          refine rz_aload_n 586 2 dL_law_585 rfl rfl ?_
          refine rz_xload_n 587 0 dL_law_586 rfl rfl ?_
          refine rz_iload_n 588 3 dL_law_587 rfl rfl ?_
          refine rz_iconst 589 dL_law_588 rfl ci_1 ?_
          refine rz_iadd 590 dL_law_589 rfl ?_
          refine rz_scr 591 dL_law_590 rfl rfl (fun x63 => ?_)
          refine rz_callV 594 dL_law_591 rfl (tX9_law v (d + 5) l2 x63) rfl rfl rfl rfl ml_L_62 im_X9_law se_X9_X9_law in_X9 co_X9_law rfl rfl (fun x64 => ?_)
          refine rz_icmp_eq 1580 597 dL_law_594 rfl rfl ?_ ?_
          · refine rz_iinc (lv' := [(3, vI (l3 + 6)), (0, vX 35), (1, vR l1), (2, vR l2)]) 1583 3 dL_law_1580 rfl rfl (cn_6 _) rfl rfl ?_
            refine rz_goto 18 dL_law_1583 rfl ?_
            exact rz_sub [1, 2, 3, 0] rfl (h18 l1 l2 (l3 + 6))
          · refine rz_iconst 598 dL_law_597 rfl ci_0 ?_
            exact rz_zreturn rfl rfl dL_law_598
        · refine rz_pr ?_
          refine rz_aload_n 600 1 dL_law_599 rfl rfl ?_
          refine rz_xload_n 601 0 dL_law_600 rfl rfl ?_
          refine rz_iload_n 602 3 dL_law_601 rfl rfl ?_
          refine rz_iconst 603 dL_law_602 rfl ci_1 ?_
          refine rz_iadd 604 dL_law_603 rfl ?_
          refine rz_scr 605 dL_law_604 rfl rfl (fun x65 => ?_)
          refine rz_callV 608 dL_law_605 rfl (tX8_fault v (d + 35) l1 x65) rfl rfl rfl rfl ml_L_63 im_X8_fault se_X8_X8_fault in_X8 co_X8_fault rfl rfl (fun x66 => ?_)
          refine rz_aload_n 609 2 dL_law_608 rfl rfl ?_
          refine rz_xload_n 610 0 dL_law_609 rfl rfl ?_
          refine rz_iload_n 611 3 dL_law_610 rfl rfl ?_
          refine rz_iconst 612 dL_law_611 rfl ci_1 ?_
          refine rz_iadd 613 dL_law_612 rfl ?_
          refine rz_scr 614 dL_law_613 rfl rfl (fun x67 => ?_)
          refine rz_callV 617 dL_law_614 rfl (tX9_fault v (d + 35) l2 x67) rfl rfl rfl rfl ml_L_66 im_X9_fault se_X9_X9_fault in_X9 co_X9_fault rfl rfl (fun x68 => ?_)
          refine rz_icmp_eq 1580 620 dL_law_617 rfl rfl ?_ ?_
          · refine rz_iinc (lv' := [(3, vI (l3 + 6)), (0, vX 35), (1, vR l1), (2, vR l2)]) 1583 3 dL_law_1580 rfl rfl (cn_6 _) rfl rfl ?_
            refine rz_goto 18 dL_law_1583 rfl ?_
            exact rz_sub [1, 2, 3, 0] rfl (h18 l1 l2 (l3 + 6))
          · refine rz_iconst 621 dL_law_620 rfl ci_0 ?_
            exact rz_zreturn rfl rfl dL_law_621
        · refine rz_pr ?_
          refine rz_aload_n 623 1 dL_law_622 rfl rfl ?_
          refine rz_xload_n 624 0 dL_law_623 rfl rfl ?_
          refine rz_iload_n 625 3 dL_law_624 rfl rfl ?_
          refine rz_iconst 626 dL_law_625 rfl ci_1 ?_
          refine rz_iadd 627 dL_law_626 rfl ?_
          refine rz_scr 628 dL_law_627 rfl rfl (fun x69 => ?_)
          refine rz_callV 631 dL_law_628 rfl (tX8_many v (d + 33) l1 x69) rfl rfl rfl rfl ml_L_67 im_X8_many se_X8_X8_many in_X8 co_X8_many rfl rfl (fun x70 => ?_)
          refine rz_aload_n 632 2 dL_law_631 rfl rfl ?_
          refine rz_xload_n 633 0 dL_law_632 rfl rfl ?_
          refine rz_iload_n 634 3 dL_law_633 rfl rfl ?_
          refine rz_iconst 635 dL_law_634 rfl ci_1 ?_
          refine rz_iadd 636 dL_law_635 rfl ?_
          refine rz_scr 637 dL_law_636 rfl rfl (fun x71 => ?_)
          refine rz_callV 640 dL_law_637 rfl (tX9_many v (d + 32) l2 x71) rfl rfl rfl rfl ml_L_70 im_X9_many se_X9_X9_many in_X9 co_X9_many rfl rfl (fun x72 => ?_)
          refine rz_icmp_eq 1580 643 dL_law_640 rfl rfl ?_ ?_
          · refine rz_iinc (lv' := [(3, vI (l3 + 6)), (0, vX 35), (1, vR l1), (2, vR l2)]) 1583 3 dL_law_1580 rfl rfl (cn_6 _) rfl rfl ?_
            refine rz_goto 18 dL_law_1583 rfl ?_
            exact rz_sub [1, 2, 3, 0] rfl (h18 l1 l2 (l3 + 6))
          · refine rz_iconst 644 dL_law_643 rfl ci_0 ?_
            exact rz_zreturn rfl rfl dL_law_644
        · refine rz_pr ?_
          refine rz_aload_n 646 1 dL_law_645 rfl rfl ?_
          refine rz_xload_n 647 0 dL_law_646 rfl rfl ?_
          refine rz_iload_n 648 3 dL_law_647 rfl rfl ?_
          refine rz_iconst 649 dL_law_648 rfl ci_1 ?_
          refine rz_iadd 650 dL_law_649 rfl ?_
          refine rz_scr 651 dL_law_650 rfl rfl (fun x73 => ?_)
          refine rz_xload_n 652 0 dL_law_651 rfl rfl ?_
          refine rz_iload_n 653 3 dL_law_652 rfl rfl ?_
          refine rz_iconst 654 dL_law_653 rfl ci_2 ?_
          refine rz_iadd 655 dL_law_654 rfl ?_
          refine rz_scr 656 dL_law_655 rfl rfl (fun x74 => ?_)
          refine rz_callV 659 dL_law_656 rfl (tX8_person v (d + 33) l1 x73 x74) rfl rfl rfl rfl ml_L_71 im_X8_person se_X8_X8_person in_X8 co_X8_person rfl rfl (fun x75 => ?_)
          refine rz_aload_n 660 2 dL_law_659 rfl rfl ?_
          refine rz_xload_n 661 0 dL_law_660 rfl rfl ?_
          refine rz_iload_n 662 3 dL_law_661 rfl rfl ?_
          refine rz_iconst 663 dL_law_662 rfl ci_1 ?_
          refine rz_iadd 664 dL_law_663 rfl ?_
          refine rz_scr 665 dL_law_664 rfl rfl (fun x76 => ?_)
          refine rz_xload_n 666 0 dL_law_665 rfl rfl ?_
          refine rz_iload_n 667 3 dL_law_666 rfl rfl ?_
          refine rz_iconst 668 dL_law_667 rfl ci_2 ?_
          refine rz_iadd 669 dL_law_668 rfl ?_
          refine rz_scr 670 dL_law_669 rfl rfl (fun x77 => ?_)
          refine rz_callV 673 dL_law_670 rfl (tX9_person v (d + 31) l2 x76 x77) rfl rfl rfl rfl ml_L_75 im_X9_person se_X9_X9_person in_X9 co_X9_person rfl rfl (fun x78 => ?_)
          refine rz_icmp_eq 1580 676 dL_law_673 rfl rfl ?_ ?_
          · refine rz_iinc (lv' := [(3, vI (l3 + 6)), (0, vX 35), (1, vR l1), (2, vR l2)]) 1583 3 dL_law_1580 rfl rfl (cn_6 _) rfl rfl ?_
            refine rz_goto 18 dL_law_1583 rfl ?_
            exact rz_sub [1, 2, 3, 0] rfl (h18 l1 l2 (l3 + 6))
          · refine rz_iconst 677 dL_law_676 rfl ci_0 ?_
            exact rz_zreturn rfl rfl dL_law_677
        · refine rz_pr ?_
          refine rz_aload_n 679 1 dL_law_678 rfl rfl ?_
          refine rz_xload_n 680 0 dL_law_679 rfl rfl ?_
          refine rz_iload_n 681 3 dL_law_680 rfl rfl ?_
          refine rz_iconst 682 dL_law_681 rfl ci_1 ?_
          refine rz_iadd 683 dL_law_682 rfl ?_
          refine rz_scr 684 dL_law_683 rfl rfl (fun x79 => ?_)
          refine rz_callV 687 dL_law_684 rfl (tX8_heirs v (d + 33) l1 x79) rfl rfl rfl rfl ml_L_76 im_X8_heirs se_X8_X8_heirs in_X8 co_X8_heirs rfl rfl (fun x80 => ?_)
          refine rz_aload_n 688 2 dL_law_687 rfl rfl ?_
          refine rz_xload_n 689 0 dL_law_688 rfl rfl ?_
          refine rz_iload_n 690 3 dL_law_689 rfl rfl ?_
          refine rz_iconst 691 dL_law_690 rfl ci_1 ?_
          refine rz_iadd 692 dL_law_691 rfl ?_
          refine rz_scr 693 dL_law_692 rfl rfl (fun x81 => ?_)
          refine rz_callV 696 dL_law_693 rfl (tX9_heirs v (d + 33) l2 x81) rfl rfl rfl rfl ml_L_79 im_X9_heirs se_X9_X9_heirs in_X9 co_X9_heirs rfl rfl (fun x82 => ?_)
          refine rz_icmp_eq 1580 699 dL_law_696 rfl rfl ?_ ?_
          · refine rz_iinc (lv' := [(3, vI (l3 + 6)), (0, vX 35), (1, vR l1), (2, vR l2)]) 1583 3 dL_law_1580 rfl rfl (cn_6 _) rfl rfl ?_
            refine rz_goto 18 dL_law_1583 rfl ?_
            exact rz_sub [1, 2, 3, 0] rfl (h18 l1 l2 (l3 + 6))
          · refine rz_iconst 700 dL_law_699 rfl ci_0 ?_
            exact rz_zreturn rfl rfl dL_law_700
        · refine rz_pr ?_
          refine rz_aload_n 702 1 dL_law_701 rfl rfl ?_
          refine rz_xload_n 703 0 dL_law_702 rfl rfl ?_
          refine rz_iload_n 704 3 dL_law_703 rfl rfl ?_
          refine rz_iconst 705 dL_law_704 rfl ci_1 ?_
          refine rz_iadd 706 dL_law_705 rfl ?_
          refine rz_scr 707 dL_law_706 rfl rfl (fun x83 => ?_)
          refine rz_xload_n 708 0 dL_law_707 rfl rfl ?_
          refine rz_iload_n 709 3 dL_law_708 rfl rfl ?_
          refine rz_iconst 710 dL_law_709 rfl ci_2 ?_
          refine rz_iadd 711 dL_law_710 rfl ?_
          refine rz_scr 712 dL_law_711 rfl rfl (fun x84 => ?_)
          refine rz_callV 715 dL_law_712 rfl (tX8_rope v (d + 33) l1 x83 x84) rfl rfl rfl rfl ml_L_80 im_X8_rope se_X8_X8_rope in_X8 co_X8_rope rfl rfl (fun x85 => ?_)
          refine rz_aload_n 716 2 dL_law_715 rfl rfl ?_
          refine rz_xload_n 717 0 dL_law_716 rfl rfl ?_
          refine rz_iload_n 718 3 dL_law_717 rfl rfl ?_
          refine rz_iconst 719 dL_law_718 rfl ci_1 ?_
          refine rz_iadd 720 dL_law_719 rfl ?_
          refine rz_scr 721 dL_law_720 rfl rfl (fun x86 => ?_)
          refine rz_xload_n 722 0 dL_law_721 rfl rfl ?_
          refine rz_iload_n 723 3 dL_law_722 rfl rfl ?_
          refine rz_iconst 724 dL_law_723 rfl ci_2 ?_
          refine rz_iadd 725 dL_law_724 rfl ?_
          refine rz_scr 726 dL_law_725 rfl rfl (fun x87 => ?_)
          refine rz_callV 729 dL_law_726 rfl (tX9_rope v (d + 33) l2 x86 x87) rfl rfl rfl rfl ml_L_83 im_X9_rope se_X9_X9_rope in_X9 co_X9_rope rfl rfl (fun x88 => ?_)
          refine rz_icmp_eq 1580 732 dL_law_729 rfl rfl ?_ ?_
          · refine rz_iinc (lv' := [(3, vI (l3 + 6)), (0, vX 35), (1, vR l1), (2, vR l2)]) 1583 3 dL_law_1580 rfl rfl (cn_6 _) rfl rfl ?_
            refine rz_goto 18 dL_law_1583 rfl ?_
            exact rz_sub [1, 2, 3, 0] rfl (h18 l1 l2 (l3 + 6))
          · refine rz_iconst 733 dL_law_732 rfl ci_0 ?_
            exact rz_zreturn rfl rfl dL_law_733
        · refine rz_pr ?_
          refine rz_aload_n 735 1 dL_law_734 rfl rfl ?_
          refine rz_xload_n 736 0 dL_law_735 rfl rfl ?_
          refine rz_iload_n 737 3 dL_law_736 rfl rfl ?_
          refine rz_iconst 738 dL_law_737 rfl ci_1 ?_
          refine rz_iadd 739 dL_law_738 rfl ?_
          refine rz_scr 740 dL_law_739 rfl rfl (fun x89 => ?_)
          refine rz_xload_n 741 0 dL_law_740 rfl rfl ?_
          refine rz_iload_n 742 3 dL_law_741 rfl rfl ?_
          refine rz_iconst 743 dL_law_742 rfl ci_2 ?_
          refine rz_iadd 744 dL_law_743 rfl ?_
          refine rz_scr 745 dL_law_744 rfl rfl (fun x90 => ?_)
          refine rz_xload_n 746 0 dL_law_745 rfl rfl ?_
          refine rz_iload_n 747 3 dL_law_746 rfl rfl ?_
          refine rz_iconst 748 dL_law_747 rfl ci_3 ?_
          refine rz_iadd 749 dL_law_748 rfl ?_
          refine rz_scr 750 dL_law_749 rfl rfl (fun x91 => ?_)
          refine rz_callV 753 dL_law_750 rfl (tX8_piece v (d + 33) l1 x89 x90 x91) rfl rfl rfl rfl ml_L_84 im_X8_piece se_X8_X8_piece in_X8 co_X8_piece rfl rfl (fun x92 => ?_)
          refine rz_aload_n 754 2 dL_law_753 rfl rfl ?_
          refine rz_xload_n 755 0 dL_law_754 rfl rfl ?_
          refine rz_iload_n 756 3 dL_law_755 rfl rfl ?_
          refine rz_iconst 757 dL_law_756 rfl ci_1 ?_
          refine rz_iadd 758 dL_law_757 rfl ?_
          refine rz_scr 759 dL_law_758 rfl rfl (fun x93 => ?_)
          refine rz_xload_n 760 0 dL_law_759 rfl rfl ?_
          refine rz_iload_n 761 3 dL_law_760 rfl rfl ?_
          refine rz_iconst 762 dL_law_761 rfl ci_2 ?_
          refine rz_iadd 763 dL_law_762 rfl ?_
          refine rz_scr 764 dL_law_763 rfl rfl (fun x94 => ?_)
          refine rz_xload_n 765 0 dL_law_764 rfl rfl ?_
          refine rz_iload_n 766 3 dL_law_765 rfl rfl ?_
          refine rz_iconst 767 dL_law_766 rfl ci_3 ?_
          refine rz_iadd 768 dL_law_767 rfl ?_
          refine rz_scr 769 dL_law_768 rfl rfl (fun x95 => ?_)
          refine rz_callV 772 dL_law_769 rfl (tX9_piece v (d + 33) l2 x93 x94 x95) rfl rfl rfl rfl ml_L_88 im_X9_piece se_X9_X9_piece in_X9 co_X9_piece rfl rfl (fun x96 => ?_)
          refine rz_icmp_eq 1580 775 dL_law_772 rfl rfl ?_ ?_
          · refine rz_iinc (lv' := [(3, vI (l3 + 6)), (0, vX 35), (1, vR l1), (2, vR l2)]) 1583 3 dL_law_1580 rfl rfl (cn_6 _) rfl rfl ?_
            refine rz_goto 18 dL_law_1583 rfl ?_
            exact rz_sub [1, 2, 3, 0] rfl (h18 l1 l2 (l3 + 6))
          · refine rz_iconst 776 dL_law_775 rfl ci_0 ?_
            exact rz_zreturn rfl rfl dL_law_776
        · refine rz_pr ?_
          refine rz_aload_n 778 1 dL_law_777 rfl rfl ?_
          refine rz_xload_n 779 0 dL_law_778 rfl rfl ?_
          refine rz_iload_n 780 3 dL_law_779 rfl rfl ?_
          refine rz_iconst 781 dL_law_780 rfl ci_1 ?_
          refine rz_iadd 782 dL_law_781 rfl ?_
          refine rz_scr 783 dL_law_782 rfl rfl (fun x97 => ?_)
          refine rz_callV 786 dL_law_783 rfl (tX8_seed v (d + 34) l1 x97) rfl rfl rfl rfl ml_L_89 im_X8_seed se_X8_X8_seed in_X8 co_X8_seed rfl rfl (fun x98 => ?_)
          refine rz_aload_n 787 2 dL_law_786 rfl rfl ?_
          refine rz_xload_n 788 0 dL_law_787 rfl rfl ?_
          refine rz_iload_n 789 3 dL_law_788 rfl rfl ?_
          refine rz_iconst 790 dL_law_789 rfl ci_1 ?_
          refine rz_iadd 791 dL_law_790 rfl ?_
          refine rz_scr 792 dL_law_791 rfl rfl (fun x99 => ?_)
          refine rz_callV 795 dL_law_792 rfl (tX9_seed v (d + 34) l2 x99) rfl rfl rfl rfl ml_L_93 im_X9_seed se_X9_X9_seed in_X9 co_X9_seed rfl rfl (fun x100 => ?_)
          refine rz_icmp_eq 1580 798 dL_law_795 rfl rfl ?_ ?_
          · refine rz_iinc (lv' := [(3, vI (l3 + 6)), (0, vX 35), (1, vR l1), (2, vR l2)]) 1583 3 dL_law_1580 rfl rfl (cn_6 _) rfl rfl ?_
            refine rz_goto 18 dL_law_1583 rfl ?_
            exact rz_sub [1, 2, 3, 0] rfl (h18 l1 l2 (l3 + 6))
          · refine rz_iconst 799 dL_law_798 rfl ci_0 ?_
            exact rz_zreturn rfl rfl dL_law_799
        · refine rz_pr ?_
          refine rz_aload_n 801 1 dL_law_800 rfl rfl ?_
          refine rz_xload_n 802 0 dL_law_801 rfl rfl ?_
          refine rz_iload_n 803 3 dL_law_802 rfl rfl ?_
          refine rz_iconst 804 dL_law_803 rfl ci_1 ?_
          refine rz_iadd 805 dL_law_804 rfl ?_
          refine rz_scr 806 dL_law_805 rfl rfl (fun x101 => ?_)
          refine rz_callV 809 dL_law_806 rfl (tX8_pass v (d + 29) l1 x101) rfl rfl rfl rfl ml_L_94 im_X8_pass se_X8_X8_pass in_X8 co_X8_pass rfl rfl (fun x102 => ?_)
          refine rz_aload_n 810 2 dL_law_809 rfl rfl ?_
          refine rz_xload_n 811 0 dL_law_810 rfl rfl ?_
          refine rz_iload_n 812 3 dL_law_811 rfl rfl ?_
          refine rz_iconst 813 dL_law_812 rfl ci_1 ?_
          refine rz_iadd 814 dL_law_813 rfl ?_
          refine rz_scr 815 dL_law_814 rfl rfl (fun x103 => ?_)
          refine rz_callV 818 dL_law_815 rfl (tX9_pass v (d + 27) l2 x103) rfl rfl rfl rfl ml_L_97 im_X9_pass se_X9_X9_pass in_X9 co_X9_pass rfl rfl (fun x104 => ?_)
          refine rz_icmp_eq 1580 821 dL_law_818 rfl rfl ?_ ?_
          · refine rz_iinc (lv' := [(3, vI (l3 + 6)), (0, vX 35), (1, vR l1), (2, vR l2)]) 1583 3 dL_law_1580 rfl rfl (cn_6 _) rfl rfl ?_
            refine rz_goto 18 dL_law_1583 rfl ?_
            exact rz_sub [1, 2, 3, 0] rfl (h18 l1 l2 (l3 + 6))
          · refine rz_iconst 822 dL_law_821 rfl ci_0 ?_
            exact rz_zreturn rfl rfl dL_law_822
        · refine rz_pr ?_
          refine rz_aload_n 824 1 dL_law_823 rfl rfl ?_
          refine rz_xload_n 825 0 dL_law_824 rfl rfl ?_
          refine rz_iload_n 826 3 dL_law_825 rfl rfl ?_
          refine rz_iconst 827 dL_law_826 rfl ci_1 ?_
          refine rz_iadd 828 dL_law_827 rfl ?_
          refine rz_scr 829 dL_law_828 rfl rfl (fun x105 => ?_)
          refine rz_callV 832 dL_law_829 rfl (tX8_drinks v (d + 30) l1 x105) rfl rfl rfl rfl ml_L_98 im_X8_drinks se_X8_X8_drinks in_X8 co_X8_drinks rfl rfl (fun x106 => ?_)
          refine rz_aload_n 833 2 dL_law_832 rfl rfl ?_
          refine rz_xload_n 834 0 dL_law_833 rfl rfl ?_
          refine rz_iload_n 835 3 dL_law_834 rfl rfl ?_
          refine rz_iconst 836 dL_law_835 rfl ci_1 ?_
          refine rz_iadd 837 dL_law_836 rfl ?_
          refine rz_scr 838 dL_law_837 rfl rfl (fun x107 => ?_)
          refine rz_callV 841 dL_law_838 rfl (tX9_drinks v (d + 31) l2 x107) rfl rfl rfl rfl ml_L_101 im_X9_drinks se_X9_X9_drinks in_X9 co_X9_drinks rfl rfl (fun x108 => ?_)
          refine rz_icmp_eq 1580 844 dL_law_841 rfl rfl ?_ ?_
          · refine rz_iinc (lv' := [(3, vI (l3 + 6)), (0, vX 35), (1, vR l1), (2, vR l2)]) 1583 3 dL_law_1580 rfl rfl (cn_6 _) rfl rfl ?_
            refine rz_goto 18 dL_law_1583 rfl ?_
            exact rz_sub [1, 2, 3, 0] rfl (h18 l1 l2 (l3 + 6))
          · refine rz_iconst 845 dL_law_844 rfl ci_0 ?_
            exact rz_zreturn rfl rfl dL_law_845
        · refine rz_pr ?_
          refine rz_aload_n 847 1 dL_law_846 rfl rfl ?_
          refine rz_callV 850 dL_law_847 rfl (tX8_who v (d + 31) l1) rfl rfl rfl rfl ml_L_102 im_X8_who se_X8_X8_who in_X8 co_X8_who rfl rfl (fun x109 => ?_)
          refine rz_aload_n 851 2 dL_law_850 rfl rfl ?_
          refine rz_callV 854 dL_law_851 rfl (tX9_who v (d + 30) l2) rfl rfl rfl rfl ml_L_105 im_X9_who se_X9_X9_who in_X9 co_X9_who rfl rfl (fun x110 => ?_)
          refine rz_icmp_eq 1580 857 dL_law_854 rfl rfl ?_ ?_
          · refine rz_iinc (lv' := [(3, vI (l3 + 6)), (0, vX 35), (1, vR l1), (2, vR l2)]) 1583 3 dL_law_1580 rfl rfl (cn_6 _) rfl rfl ?_
            refine rz_goto 18 dL_law_1583 rfl ?_
            exact rz_sub [1, 2, 3, 0] rfl (h18 l1 l2 (l3 + 6))
          · refine rz_iconst 858 dL_law_857 rfl ci_0 ?_
            exact rz_zreturn rfl rfl dL_law_858
        · refine rz_pr ?_
          refine rz_aload_n 860 1 dL_law_859 rfl rfl ?_
          refine rz_xload_n 861 0 dL_law_860 rfl rfl ?_
          refine rz_iload_n 862 3 dL_law_861 rfl rfl ?_
          refine rz_iconst 863 dL_law_862 rfl ci_1 ?_
          refine rz_iadd 864 dL_law_863 rfl ?_
          refine rz_scr 865 dL_law_864 rfl rfl (fun x111 => ?_)
          refine rz_callV 868 dL_law_865 rfl (tX8_depth v (d + 28) l1 x111) rfl rfl rfl rfl ml_L_106 im_X8_depth se_X8_X8_depth in_X8 co_X8_depth rfl rfl (fun x112 => ?_)
          refine rz_aload_n 869 2 dL_law_868 rfl rfl ?_
          refine rz_xload_n 870 0 dL_law_869 rfl rfl ?_
          refine rz_iload_n 871 3 dL_law_870 rfl rfl ?_
          refine rz_iconst 872 dL_law_871 rfl ci_1 ?_
          refine rz_iadd 873 dL_law_872 rfl ?_
          refine rz_scr 874 dL_law_873 rfl rfl (fun x113 => ?_)
          refine rz_callV 877 dL_law_874 rfl (tX9_depth v (d + 26) l2 x113) rfl rfl rfl rfl ml_L_109 im_X9_depth se_X9_X9_depth in_X9 co_X9_depth rfl rfl (fun x114 => ?_)
          refine rz_icmp_eq 1580 880 dL_law_877 rfl rfl ?_ ?_
          · refine rz_iinc (lv' := [(3, vI (l3 + 6)), (0, vX 35), (1, vR l1), (2, vR l2)]) 1583 3 dL_law_1580 rfl rfl (cn_6 _) rfl rfl ?_
            refine rz_goto 18 dL_law_1583 rfl ?_
            exact rz_sub [1, 2, 3, 0] rfl (h18 l1 l2 (l3 + 6))
          · refine rz_iconst 881 dL_law_880 rfl ci_0 ?_
            exact rz_zreturn rfl rfl dL_law_881
        · refine rz_pr ?_
          refine rz_aload_n 883 1 dL_law_882 rfl rfl ?_
          refine rz_xload_n 884 0 dL_law_883 rfl rfl ?_
          refine rz_iload_n 885 3 dL_law_884 rfl rfl ?_
          refine rz_iconst 886 dL_law_885 rfl ci_1 ?_
          refine rz_iadd 887 dL_law_886 rfl ?_
          refine rz_scr 888 dL_law_887 rfl rfl (fun x115 => ?_)
          refine rz_callV 891 dL_law_888 rfl (tX8_whoThen v (d + 28) l1 x115) rfl rfl rfl rfl ml_L_110 im_X8_whoThen se_X8_X8_whoThen in_X8 co_X8_whoThen rfl rfl (fun x116 => ?_)
          refine rz_aload_n 892 2 dL_law_891 rfl rfl ?_
          refine rz_xload_n 893 0 dL_law_892 rfl rfl ?_
          refine rz_iload_n 894 3 dL_law_893 rfl rfl ?_
          refine rz_iconst 895 dL_law_894 rfl ci_1 ?_
          refine rz_iadd 896 dL_law_895 rfl ?_
          refine rz_scr 897 dL_law_896 rfl rfl (fun x117 => ?_)
          refine rz_callV 900 dL_law_897 rfl (tX9_whoThen v (d + 26) l2 x117) rfl rfl rfl rfl ml_L_113 im_X9_whoThen se_X9_X9_whoThen in_X9 co_X9_whoThen rfl rfl (fun x118 => ?_)
          refine rz_icmp_eq 1580 903 dL_law_900 rfl rfl ?_ ?_
          · refine rz_iinc (lv' := [(3, vI (l3 + 6)), (0, vX 35), (1, vR l1), (2, vR l2)]) 1583 3 dL_law_1580 rfl rfl (cn_6 _) rfl rfl ?_
            refine rz_goto 18 dL_law_1583 rfl ?_
            exact rz_sub [1, 2, 3, 0] rfl (h18 l1 l2 (l3 + 6))
          · refine rz_iconst 904 dL_law_903 rfl ci_0 ?_
            exact rz_zreturn rfl rfl dL_law_904
        · refine rz_pr ?_
          refine rz_aload_n 906 1 dL_law_905 rfl rfl ?_
          refine rz_xload_n 907 0 dL_law_906 rfl rfl ?_
          refine rz_iload_n 908 3 dL_law_907 rfl rfl ?_
          refine rz_iconst 909 dL_law_908 rfl ci_1 ?_
          refine rz_iadd 910 dL_law_909 rfl ?_
          refine rz_scr 911 dL_law_910 rfl rfl (fun x119 => ?_)
          refine rz_xload_n 912 0 dL_law_911 rfl rfl ?_
          refine rz_iload_n 913 3 dL_law_912 rfl rfl ?_
          refine rz_iconst 914 dL_law_913 rfl ci_2 ?_
          refine rz_iadd 915 dL_law_914 rfl ?_
          refine rz_scr 916 dL_law_915 rfl rfl (fun x120 => ?_)
          refine rz_callV 919 dL_law_916 rfl (tX8_owner v (d + 28) l1 x119 x120) rfl rfl rfl rfl ml_L_114 im_X8_owner se_X8_X8_owner in_X8 co_X8_owner rfl rfl (fun x121 => ?_)
          refine rz_aload_n 920 2 dL_law_919 rfl rfl ?_
          refine rz_xload_n 921 0 dL_law_920 rfl rfl ?_
          refine rz_iload_n 922 3 dL_law_921 rfl rfl ?_
          refine rz_iconst 923 dL_law_922 rfl ci_1 ?_
          refine rz_iadd 924 dL_law_923 rfl ?_
          refine rz_scr 925 dL_law_924 rfl rfl (fun x122 => ?_)
          refine rz_xload_n 926 0 dL_law_925 rfl rfl ?_
          refine rz_iload_n 927 3 dL_law_926 rfl rfl ?_
          refine rz_iconst 928 dL_law_927 rfl ci_2 ?_
          refine rz_iadd 929 dL_law_928 rfl ?_
          refine rz_scr 930 dL_law_929 rfl rfl (fun x123 => ?_)
          refine rz_callV 933 dL_law_930 rfl (tX9_owner v (d + 26) l2 x122 x123) rfl rfl rfl rfl ml_L_117 im_X9_owner se_X9_X9_owner in_X9 co_X9_owner rfl rfl (fun x124 => ?_)
          refine rz_icmp_eq 1580 936 dL_law_933 rfl rfl ?_ ?_
          · refine rz_iinc (lv' := [(3, vI (l3 + 6)), (0, vX 35), (1, vR l1), (2, vR l2)]) 1583 3 dL_law_1580 rfl rfl (cn_6 _) rfl rfl ?_
            refine rz_goto 18 dL_law_1583 rfl ?_
            exact rz_sub [1, 2, 3, 0] rfl (h18 l1 l2 (l3 + 6))
          · refine rz_iconst 937 dL_law_936 rfl ci_0 ?_
            exact rz_zreturn rfl rfl dL_law_937
        · refine rz_pr ?_
          refine rz_aload_n 939 1 dL_law_938 rfl rfl ?_
          refine rz_xload_n 940 0 dL_law_939 rfl rfl ?_
          refine rz_iload_n 941 3 dL_law_940 rfl rfl ?_
          refine rz_iconst 942 dL_law_941 rfl ci_1 ?_
          refine rz_iadd 943 dL_law_942 rfl ?_
          refine rz_scr 944 dL_law_943 rfl rfl (fun x125 => ?_)
          refine rz_callV 947 dL_law_944 rfl (tX8_thirst v (d + 29) l1 x125) rfl rfl rfl rfl ml_L_118 im_X8_thirst se_X8_X8_thirst in_X8 co_X8_thirst rfl rfl (fun x126 => ?_)
          refine rz_aload_n 948 2 dL_law_947 rfl rfl ?_
          refine rz_xload_n 949 0 dL_law_948 rfl rfl ?_
          refine rz_iload_n 950 3 dL_law_949 rfl rfl ?_
          refine rz_iconst 951 dL_law_950 rfl ci_1 ?_
          refine rz_iadd 952 dL_law_951 rfl ?_
          refine rz_scr 953 dL_law_952 rfl rfl (fun x127 => ?_)
          refine rz_callV 956 dL_law_953 rfl (tX9_thirst v (d + 27) l2 x127) rfl rfl rfl rfl ml_L_121 im_X9_thirst se_X9_X9_thirst in_X9 co_X9_thirst rfl rfl (fun x128 => ?_)
          refine rz_icmp_eq 1580 959 dL_law_956 rfl rfl ?_ ?_
          · refine rz_iinc (lv' := [(3, vI (l3 + 6)), (0, vX 35), (1, vR l1), (2, vR l2)]) 1583 3 dL_law_1580 rfl rfl (cn_6 _) rfl rfl ?_
            refine rz_goto 18 dL_law_1583 rfl ?_
            exact rz_sub [1, 2, 3, 0] rfl (h18 l1 l2 (l3 + 6))
          · refine rz_iconst 960 dL_law_959 rfl ci_0 ?_
            exact rz_zreturn rfl rfl dL_law_960
        · refine rz_pr ?_
          refine rz_aload_n 962 1 dL_law_961 rfl rfl ?_
          refine rz_xload_n 963 0 dL_law_962 rfl rfl ?_
          refine rz_iload_n 964 3 dL_law_963 rfl rfl ?_
          refine rz_iconst 965 dL_law_964 rfl ci_1 ?_
          refine rz_iadd 966 dL_law_965 rfl ?_
          refine rz_scr 967 dL_law_966 rfl rfl (fun x129 => ?_)
          refine rz_callV 970 dL_law_967 rfl (tX8_last v (d + 29) l1 x129) rfl rfl rfl rfl ml_L_122 im_X8_last se_X8_X8_last in_X8 co_X8_last rfl rfl (fun x130 => ?_)
          refine rz_aload_n 971 2 dL_law_970 rfl rfl ?_
          refine rz_xload_n 972 0 dL_law_971 rfl rfl ?_
          refine rz_iload_n 973 3 dL_law_972 rfl rfl ?_
          refine rz_iconst 974 dL_law_973 rfl ci_1 ?_
          refine rz_iadd 975 dL_law_974 rfl ?_
          refine rz_scr 976 dL_law_975 rfl rfl (fun x131 => ?_)
          refine rz_callV 979 dL_law_976 rfl (tX9_last v (d + 27) l2 x131) rfl rfl rfl rfl ml_L_125 im_X9_last se_X9_X9_last in_X9 co_X9_last rfl rfl (fun x132 => ?_)
          refine rz_icmp_eq 1580 982 dL_law_979 rfl rfl ?_ ?_
          · refine rz_iinc (lv' := [(3, vI (l3 + 6)), (0, vX 35), (1, vR l1), (2, vR l2)]) 1583 3 dL_law_1580 rfl rfl (cn_6 _) rfl rfl ?_
            refine rz_goto 18 dL_law_1583 rfl ?_
            exact rz_sub [1, 2, 3, 0] rfl (h18 l1 l2 (l3 + 6))
          · refine rz_iconst 983 dL_law_982 rfl ci_0 ?_
            exact rz_zreturn rfl rfl dL_law_983
        · refine rz_pr ?_
          refine rz_aload_n 985 1 dL_law_984 rfl rfl ?_
          refine rz_xload_n 986 0 dL_law_985 rfl rfl ?_
          refine rz_iload_n 987 3 dL_law_986 rfl rfl ?_
          refine rz_iconst 988 dL_law_987 rfl ci_1 ?_
          refine rz_iadd 989 dL_law_988 rfl ?_
          refine rz_scr 990 dL_law_989 rfl rfl (fun x133 => ?_)
          refine rz_xload_n 991 0 dL_law_990 rfl rfl ?_
          refine rz_iload_n 992 3 dL_law_991 rfl rfl ?_
          refine rz_iconst 993 dL_law_992 rfl ci_2 ?_
          refine rz_iadd 994 dL_law_993 rfl ?_
          refine rz_scr 995 dL_law_994 rfl rfl (fun x134 => ?_)
          refine rz_xload_n 996 0 dL_law_995 rfl rfl ?_
          refine rz_iload_n 997 3 dL_law_996 rfl rfl ?_
          refine rz_iconst 998 dL_law_997 rfl ci_3 ?_
          refine rz_iadd 999 dL_law_998 rfl ?_
          refine rz_scr 1000 dL_law_999 rfl rfl (fun x135 => ?_)
          refine rz_xload_n 1001 0 dL_law_1000 rfl rfl ?_
          refine rz_iload_n 1002 3 dL_law_1001 rfl rfl ?_
          refine rz_iconst 1003 dL_law_1002 rfl ci_4 ?_
          refine rz_iadd 1004 dL_law_1003 rfl ?_
          refine rz_scr 1005 dL_law_1004 rfl rfl (fun x136 => ?_)
          refine rz_callV 1008 dL_law_1005 rfl (tX8_odds v (d + 28) l1 x133 x134 x135 x136) rfl rfl rfl rfl ml_L_126 im_X8_odds se_X8_X8_odds in_X8 co_X8_odds rfl rfl (fun x137 => ?_)
          refine rz_aload_n 1009 2 dL_law_1008 rfl rfl ?_
          refine rz_xload_n 1010 0 dL_law_1009 rfl rfl ?_
          refine rz_iload_n 1011 3 dL_law_1010 rfl rfl ?_
          refine rz_iconst 1012 dL_law_1011 rfl ci_1 ?_
          refine rz_iadd 1013 dL_law_1012 rfl ?_
          refine rz_scr 1014 dL_law_1013 rfl rfl (fun x138 => ?_)
          refine rz_xload_n 1015 0 dL_law_1014 rfl rfl ?_
          refine rz_iload_n 1016 3 dL_law_1015 rfl rfl ?_
          refine rz_iconst 1017 dL_law_1016 rfl ci_2 ?_
          refine rz_iadd 1018 dL_law_1017 rfl ?_
          refine rz_scr 1019 dL_law_1018 rfl rfl (fun x139 => ?_)
          refine rz_xload_n 1020 0 dL_law_1019 rfl rfl ?_
          refine rz_iload_n 1021 3 dL_law_1020 rfl rfl ?_
          refine rz_iconst 1022 dL_law_1021 rfl ci_3 ?_
          refine rz_iadd 1023 dL_law_1022 rfl ?_
          refine rz_scr 1024 dL_law_1023 rfl rfl (fun x140 => ?_)
          refine rz_xload_n 1025 0 dL_law_1024 rfl rfl ?_
          refine rz_iload_n 1026 3 dL_law_1025 rfl rfl ?_
          refine rz_iconst 1027 dL_law_1026 rfl ci_4 ?_
          refine rz_iadd 1028 dL_law_1027 rfl ?_
          refine rz_scr 1029 dL_law_1028 rfl rfl (fun x141 => ?_)
          refine rz_callV 1032 dL_law_1029 rfl (tX9_odds v (d + 27) l2 x138 x139 x140 x141) rfl rfl rfl rfl ml_L_130 im_X9_odds se_X9_X9_odds in_X9 co_X9_odds rfl rfl (fun x142 => ?_)
          refine rz_icmp_eq 1580 1035 dL_law_1032 rfl rfl ?_ ?_
          · refine rz_iinc (lv' := [(3, vI (l3 + 6)), (0, vX 35), (1, vR l1), (2, vR l2)]) 1583 3 dL_law_1580 rfl rfl (cn_6 _) rfl rfl ?_
            refine rz_goto 18 dL_law_1583 rfl ?_
            exact rz_sub [1, 2, 3, 0] rfl (h18 l1 l2 (l3 + 6))
          · refine rz_iconst 1036 dL_law_1035 rfl ci_0 ?_
            exact rz_zreturn rfl rfl dL_law_1036
        · refine rz_pr ?_
          refine rz_aload_n 1038 1 dL_law_1037 rfl rfl ?_
          refine rz_xload_n 1039 0 dL_law_1038 rfl rfl ?_
          refine rz_iload_n 1040 3 dL_law_1039 rfl rfl ?_
          refine rz_iconst 1041 dL_law_1040 rfl ci_1 ?_
          refine rz_iadd 1042 dL_law_1041 rfl ?_
          refine rz_scr 1043 dL_law_1042 rfl rfl (fun x143 => ?_)
          refine rz_xload_n 1044 0 dL_law_1043 rfl rfl ?_
          refine rz_iload_n 1045 3 dL_law_1044 rfl rfl ?_
          refine rz_iconst 1046 dL_law_1045 rfl ci_2 ?_
          refine rz_iadd 1047 dL_law_1046 rfl ?_
          refine rz_scr 1048 dL_law_1047 rfl rfl (fun x144 => ?_)
          refine rz_callV 1051 dL_law_1048 rfl (tX8_knot v (d + 33) l1 x143 x144) rfl rfl rfl rfl ml_L_131 im_X8_knot se_X8_X8_knot in_X8 co_X8_knot rfl rfl (fun x145 => ?_)
          refine rz_aload_n 1052 2 dL_law_1051 rfl rfl ?_
          refine rz_xload_n 1053 0 dL_law_1052 rfl rfl ?_
          refine rz_iload_n 1054 3 dL_law_1053 rfl rfl ?_
          refine rz_iconst 1055 dL_law_1054 rfl ci_1 ?_
          refine rz_iadd 1056 dL_law_1055 rfl ?_
          refine rz_scr 1057 dL_law_1056 rfl rfl (fun x146 => ?_)
          refine rz_xload_n 1058 0 dL_law_1057 rfl rfl ?_
          refine rz_iload_n 1059 3 dL_law_1058 rfl rfl ?_
          refine rz_iconst 1060 dL_law_1059 rfl ci_2 ?_
          refine rz_iadd 1061 dL_law_1060 rfl ?_
          refine rz_scr 1062 dL_law_1061 rfl rfl (fun x147 => ?_)
          refine rz_callV 1065 dL_law_1062 rfl (tX9_knot v (d + 33) l2 x146 x147) rfl rfl rfl rfl ml_L_134 im_X9_knot se_X9_X9_knot in_X9 co_X9_knot rfl rfl (fun x148 => ?_)
          refine rz_icmp_eq 1580 1068 dL_law_1065 rfl rfl ?_ ?_
          · refine rz_iinc (lv' := [(3, vI (l3 + 6)), (0, vX 35), (1, vR l1), (2, vR l2)]) 1583 3 dL_law_1580 rfl rfl (cn_6 _) rfl rfl ?_
            refine rz_goto 18 dL_law_1583 rfl ?_
            exact rz_sub [1, 2, 3, 0] rfl (h18 l1 l2 (l3 + 6))
          · refine rz_iconst 1069 dL_law_1068 rfl ci_0 ?_
            exact rz_zreturn rfl rfl dL_law_1069
        · refine rz_pr ?_
          refine rz_aload_n 1071 1 dL_law_1070 rfl rfl ?_
          refine rz_xload_n 1072 0 dL_law_1071 rfl rfl ?_
          refine rz_iload_n 1073 3 dL_law_1072 rfl rfl ?_
          refine rz_iconst 1074 dL_law_1073 rfl ci_1 ?_
          refine rz_iadd 1075 dL_law_1074 rfl ?_
          refine rz_scr 1076 dL_law_1075 rfl rfl (fun x149 => ?_)
          refine rz_xload_n 1077 0 dL_law_1076 rfl rfl ?_
          refine rz_iload_n 1078 3 dL_law_1077 rfl rfl ?_
          refine rz_iconst 1079 dL_law_1078 rfl ci_2 ?_
          refine rz_iadd 1080 dL_law_1079 rfl ?_
          refine rz_scr 1081 dL_law_1080 rfl rfl (fun x150 => ?_)
          refine rz_callV 1084 dL_law_1081 rfl (tX8_undo v (d + 32) l1 x149 x150) rfl rfl rfl rfl ml_L_135 im_X8_undo se_X8_X8_undo in_X8 co_X8_undo rfl rfl (fun x151 => ?_)
          refine rz_aload_n 1085 2 dL_law_1084 rfl rfl ?_
          refine rz_xload_n 1086 0 dL_law_1085 rfl rfl ?_
          refine rz_iload_n 1087 3 dL_law_1086 rfl rfl ?_
          refine rz_iconst 1088 dL_law_1087 rfl ci_1 ?_
          refine rz_iadd 1089 dL_law_1088 rfl ?_
          refine rz_scr 1090 dL_law_1089 rfl rfl (fun x152 => ?_)
          refine rz_xload_n 1091 0 dL_law_1090 rfl rfl ?_
          refine rz_iload_n 1092 3 dL_law_1091 rfl rfl ?_
          refine rz_iconst 1093 dL_law_1092 rfl ci_2 ?_
          refine rz_iadd 1094 dL_law_1093 rfl ?_
          refine rz_scr 1095 dL_law_1094 rfl rfl (fun x153 => ?_)
          refine rz_callV 1098 dL_law_1095 rfl (tX9_undo v (d + 32) l2 x152 x153) rfl rfl rfl rfl ml_L_138 im_X9_undo se_X9_X9_undo in_X9 co_X9_undo rfl rfl (fun x154 => ?_)
          refine rz_icmp_eq 1580 1101 dL_law_1098 rfl rfl ?_ ?_
          · refine rz_iinc (lv' := [(3, vI (l3 + 6)), (0, vX 35), (1, vR l1), (2, vR l2)]) 1583 3 dL_law_1580 rfl rfl (cn_6 _) rfl rfl ?_
            refine rz_goto 18 dL_law_1583 rfl ?_
            exact rz_sub [1, 2, 3, 0] rfl (h18 l1 l2 (l3 + 6))
          · refine rz_iconst 1102 dL_law_1101 rfl ci_0 ?_
            exact rz_zreturn rfl rfl dL_law_1102
        · refine rz_pr ?_
          refine rz_aload_n 1104 1 dL_law_1103 rfl rfl ?_
          refine rz_xload_n 1105 0 dL_law_1104 rfl rfl ?_
          refine rz_iload_n 1106 3 dL_law_1105 rfl rfl ?_
          refine rz_iconst 1107 dL_law_1106 rfl ci_1 ?_
          refine rz_iadd 1108 dL_law_1107 rfl ?_
          refine rz_scr 1109 dL_law_1108 rfl rfl (fun x155 => ?_)
          refine rz_xload_n 1110 0 dL_law_1109 rfl rfl ?_
          refine rz_iload_n 1111 3 dL_law_1110 rfl rfl ?_
          refine rz_iconst 1112 dL_law_1111 rfl ci_2 ?_
          refine rz_iadd 1113 dL_law_1112 rfl ?_
          refine rz_scr 1114 dL_law_1113 rfl rfl (fun x156 => ?_)
          refine rz_callV 1117 dL_law_1114 rfl (tX8_cut v (d + 32) l1 x155 x156) rfl rfl rfl rfl ml_L_139 im_X8_cut se_X8_X8_cut in_X8 co_X8_cut rfl rfl (fun x157 => ?_)
          refine rz_aload_n 1118 2 dL_law_1117 rfl rfl ?_
          refine rz_xload_n 1119 0 dL_law_1118 rfl rfl ?_
          refine rz_iload_n 1120 3 dL_law_1119 rfl rfl ?_
          refine rz_iconst 1121 dL_law_1120 rfl ci_1 ?_
          refine rz_iadd 1122 dL_law_1121 rfl ?_
          refine rz_scr 1123 dL_law_1122 rfl rfl (fun x158 => ?_)
          refine rz_xload_n 1124 0 dL_law_1123 rfl rfl ?_
          refine rz_iload_n 1125 3 dL_law_1124 rfl rfl ?_
          refine rz_iconst 1126 dL_law_1125 rfl ci_2 ?_
          refine rz_iadd 1127 dL_law_1126 rfl ?_
          refine rz_scr 1128 dL_law_1127 rfl rfl (fun x159 => ?_)
          refine rz_callV 1131 dL_law_1128 rfl (tX9_cut_ v (d + 32) l2 x158 x159) rfl rfl rfl rfl ml_L_142 im_X9_cut_ se_X9_X9_cut_ in_X9 co_X9_cut_ rfl rfl (fun x160 => ?_)
          refine rz_icmp_eq 1580 1134 dL_law_1131 rfl rfl ?_ ?_
          · refine rz_iinc (lv' := [(3, vI (l3 + 6)), (0, vX 35), (1, vR l1), (2, vR l2)]) 1583 3 dL_law_1580 rfl rfl (cn_6 _) rfl rfl ?_
            refine rz_goto 18 dL_law_1583 rfl ?_
            exact rz_sub [1, 2, 3, 0] rfl (h18 l1 l2 (l3 + 6))
          · refine rz_iconst 1135 dL_law_1134 rfl ci_0 ?_
            exact rz_zreturn rfl rfl dL_law_1135
        · refine rz_pr ?_
          refine rz_aload_n 1137 1 dL_law_1136 rfl rfl ?_
          refine rz_xload_n 1138 0 dL_law_1137 rfl rfl ?_
          refine rz_iload_n 1139 3 dL_law_1138 rfl rfl ?_
          refine rz_iconst 1140 dL_law_1139 rfl ci_1 ?_
          refine rz_iadd 1141 dL_law_1140 rfl ?_
          refine rz_scr 1142 dL_law_1141 rfl rfl (fun x161 => ?_)
          refine rz_xload_n 1143 0 dL_law_1142 rfl rfl ?_
          refine rz_iload_n 1144 3 dL_law_1143 rfl rfl ?_
          refine rz_iconst 1145 dL_law_1144 rfl ci_2 ?_
          refine rz_iadd 1146 dL_law_1145 rfl ?_
          refine rz_scr 1147 dL_law_1146 rfl rfl (fun x162 => ?_)
          refine rz_xload_n 1148 0 dL_law_1147 rfl rfl ?_
          refine rz_iload_n 1149 3 dL_law_1148 rfl rfl ?_
          refine rz_iconst 1150 dL_law_1149 rfl ci_3 ?_
          refine rz_iadd 1151 dL_law_1150 rfl ?_
          refine rz_scr 1152 dL_law_1151 rfl rfl (fun x163 => ?_)
          refine rz_callV 1155 dL_law_1152 rfl (tX8_sell v (d + 30) l1 x161 x162 x163) rfl rfl rfl rfl ml_L_143 im_X8_sell se_X8_X8_sell in_X8 co_X8_sell rfl rfl (fun x164 => ?_)
          refine rz_aload_n 1156 2 dL_law_1155 rfl rfl ?_
          refine rz_xload_n 1157 0 dL_law_1156 rfl rfl ?_
          refine rz_iload_n 1158 3 dL_law_1157 rfl rfl ?_
          refine rz_iconst 1159 dL_law_1158 rfl ci_1 ?_
          refine rz_iadd 1160 dL_law_1159 rfl ?_
          refine rz_scr 1161 dL_law_1160 rfl rfl (fun x165 => ?_)
          refine rz_xload_n 1162 0 dL_law_1161 rfl rfl ?_
          refine rz_iload_n 1163 3 dL_law_1162 rfl rfl ?_
          refine rz_iconst 1164 dL_law_1163 rfl ci_2 ?_
          refine rz_iadd 1165 dL_law_1164 rfl ?_
          refine rz_scr 1166 dL_law_1165 rfl rfl (fun x166 => ?_)
          refine rz_xload_n 1167 0 dL_law_1166 rfl rfl ?_
          refine rz_iload_n 1168 3 dL_law_1167 rfl rfl ?_
          refine rz_iconst 1169 dL_law_1168 rfl ci_3 ?_
          refine rz_iadd 1170 dL_law_1169 rfl ?_
          refine rz_scr 1171 dL_law_1170 rfl rfl (fun x167 => ?_)
          refine rz_callV 1174 dL_law_1171 rfl (tX9_sell v (d + 31) l2 x165 x166 x167) rfl rfl rfl rfl ml_L_146 im_X9_sell se_X9_X9_sell in_X9 co_X9_sell rfl rfl (fun x168 => ?_)
          refine rz_icmp_eq 1580 1177 dL_law_1174 rfl rfl ?_ ?_
          · refine rz_iinc (lv' := [(3, vI (l3 + 6)), (0, vX 35), (1, vR l1), (2, vR l2)]) 1583 3 dL_law_1580 rfl rfl (cn_6 _) rfl rfl ?_
            refine rz_goto 18 dL_law_1583 rfl ?_
            exact rz_sub [1, 2, 3, 0] rfl (h18 l1 l2 (l3 + 6))
          · refine rz_iconst 1178 dL_law_1177 rfl ci_0 ?_
            exact rz_zreturn rfl rfl dL_law_1178
        · refine rz_pr ?_
          refine rz_aload_n 1180 1 dL_law_1179 rfl rfl ?_
          refine rz_xload_n 1181 0 dL_law_1180 rfl rfl ?_
          refine rz_iload_n 1182 3 dL_law_1181 rfl rfl ?_
          refine rz_iconst 1183 dL_law_1182 rfl ci_1 ?_
          refine rz_iadd 1184 dL_law_1183 rfl ?_
          refine rz_scr 1185 dL_law_1184 rfl rfl (fun x169 => ?_)
          refine rz_xload_n 1186 0 dL_law_1185 rfl rfl ?_
          refine rz_iload_n 1187 3 dL_law_1186 rfl rfl ?_
          refine rz_iconst 1188 dL_law_1187 rfl ci_2 ?_
          refine rz_iadd 1189 dL_law_1188 rfl ?_
          refine rz_scr 1190 dL_law_1189 rfl rfl (fun x170 => ?_)
          refine rz_callV 1193 dL_law_1190 rfl (tX8_lend v (d + 33) l1 x169 x170) rfl rfl rfl rfl ml_L_147 im_X8_lend se_X8_X8_lend in_X8 co_X8_lend rfl rfl (fun x171 => ?_)
          refine rz_aload_n 1194 2 dL_law_1193 rfl rfl ?_
          refine rz_xload_n 1195 0 dL_law_1194 rfl rfl ?_
          refine rz_iload_n 1196 3 dL_law_1195 rfl rfl ?_
          refine rz_iconst 1197 dL_law_1196 rfl ci_1 ?_
          refine rz_iadd 1198 dL_law_1197 rfl ?_
          refine rz_scr 1199 dL_law_1198 rfl rfl (fun x172 => ?_)
          refine rz_xload_n 1200 0 dL_law_1199 rfl rfl ?_
          refine rz_iload_n 1201 3 dL_law_1200 rfl rfl ?_
          refine rz_iconst 1202 dL_law_1201 rfl ci_2 ?_
          refine rz_iadd 1203 dL_law_1202 rfl ?_
          refine rz_scr 1204 dL_law_1203 rfl rfl (fun x173 => ?_)
          refine rz_callV 1207 dL_law_1204 rfl (tX9_lend v (d + 31) l2 x172 x173) rfl rfl rfl rfl ml_L_150 im_X9_lend se_X9_X9_lend in_X9 co_X9_lend rfl rfl (fun x174 => ?_)
          refine rz_icmp_eq 1580 1210 dL_law_1207 rfl rfl ?_ ?_
          · refine rz_iinc (lv' := [(3, vI (l3 + 6)), (0, vX 35), (1, vR l1), (2, vR l2)]) 1583 3 dL_law_1580 rfl rfl (cn_6 _) rfl rfl ?_
            refine rz_goto 18 dL_law_1583 rfl ?_
            exact rz_sub [1, 2, 3, 0] rfl (h18 l1 l2 (l3 + 6))
          · refine rz_iconst 1211 dL_law_1210 rfl ci_0 ?_
            exact rz_zreturn rfl rfl dL_law_1211
        · refine rz_pr ?_
          refine rz_aload_n 1213 1 dL_law_1212 rfl rfl ?_
          refine rz_xload_n 1214 0 dL_law_1213 rfl rfl ?_
          refine rz_iload_n 1215 3 dL_law_1214 rfl rfl ?_
          refine rz_iconst 1216 dL_law_1215 rfl ci_1 ?_
          refine rz_iadd 1217 dL_law_1216 rfl ?_
          refine rz_scr 1218 dL_law_1217 rfl rfl (fun x175 => ?_)
          refine rz_callV 1221 dL_law_1218 rfl (tX8_takeBack v (d + 33) l1 x175) rfl rfl rfl rfl ml_L_151 im_X8_takeBack se_X8_X8_takeBack in_X8 co_X8_takeBack rfl rfl (fun x176 => ?_)
          refine rz_aload_n 1222 2 dL_law_1221 rfl rfl ?_
          refine rz_xload_n 1223 0 dL_law_1222 rfl rfl ?_
          refine rz_iload_n 1224 3 dL_law_1223 rfl rfl ?_
          refine rz_iconst 1225 dL_law_1224 rfl ci_1 ?_
          refine rz_iadd 1226 dL_law_1225 rfl ?_
          refine rz_scr 1227 dL_law_1226 rfl rfl (fun x177 => ?_)
          refine rz_callV 1230 dL_law_1227 rfl (tX9_takeBack v (d + 33) l2 x177) rfl rfl rfl rfl ml_L_154 im_X9_takeBack se_X9_X9_takeBack in_X9 co_X9_takeBack rfl rfl (fun x178 => ?_)
          refine rz_icmp_eq 1580 1233 dL_law_1230 rfl rfl ?_ ?_
          · refine rz_iinc (lv' := [(3, vI (l3 + 6)), (0, vX 35), (1, vR l1), (2, vR l2)]) 1583 3 dL_law_1580 rfl rfl (cn_6 _) rfl rfl ?_
            refine rz_goto 18 dL_law_1583 rfl ?_
            exact rz_sub [1, 2, 3, 0] rfl (h18 l1 l2 (l3 + 6))
          · refine rz_iconst 1234 dL_law_1233 rfl ci_0 ?_
            exact rz_zreturn rfl rfl dL_law_1234
        · refine rz_pr ?_
          refine rz_aload_n 1236 1 dL_law_1235 rfl rfl ?_
          refine rz_xload_n 1237 0 dL_law_1236 rfl rfl ?_
          refine rz_iload_n 1238 3 dL_law_1237 rfl rfl ?_
          refine rz_iconst 1239 dL_law_1238 rfl ci_1 ?_
          refine rz_iadd 1240 dL_law_1239 rfl ?_
          refine rz_scr 1241 dL_law_1240 rfl rfl (fun x179 => ?_)
          refine rz_callV 1244 dL_law_1241 rfl (tX8_dig v (d + 34) l1 x179) rfl rfl rfl rfl ml_L_155 im_X8_dig se_X8_X8_dig in_X8 co_X8_dig rfl rfl (fun x180 => ?_)
          refine rz_aload_n 1245 2 dL_law_1244 rfl rfl ?_
          refine rz_xload_n 1246 0 dL_law_1245 rfl rfl ?_
          refine rz_iload_n 1247 3 dL_law_1246 rfl rfl ?_
          refine rz_iconst 1248 dL_law_1247 rfl ci_1 ?_
          refine rz_iadd 1249 dL_law_1248 rfl ?_
          refine rz_scr 1250 dL_law_1249 rfl rfl (fun x181 => ?_)
          refine rz_callV 1253 dL_law_1250 rfl (tX9_dig v (d + 34) l2 x181) rfl rfl rfl rfl ml_L_158 im_X9_dig se_X9_X9_dig in_X9 co_X9_dig rfl rfl (fun x182 => ?_)
          refine rz_icmp_eq 1580 1256 dL_law_1253 rfl rfl ?_ ?_
          · refine rz_iinc (lv' := [(3, vI (l3 + 6)), (0, vX 35), (1, vR l1), (2, vR l2)]) 1583 3 dL_law_1580 rfl rfl (cn_6 _) rfl rfl ?_
            refine rz_goto 18 dL_law_1583 rfl ?_
            exact rz_sub [1, 2, 3, 0] rfl (h18 l1 l2 (l3 + 6))
          · refine rz_iconst 1257 dL_law_1256 rfl ci_0 ?_
            exact rz_zreturn rfl rfl dL_law_1257
        · refine rz_pr ?_
          refine rz_aload_n 1259 1 dL_law_1258 rfl rfl ?_
          refine rz_xload_n 1260 0 dL_law_1259 rfl rfl ?_
          refine rz_iload_n 1261 3 dL_law_1260 rfl rfl ?_
          refine rz_iconst 1262 dL_law_1261 rfl ci_1 ?_
          refine rz_iadd 1263 dL_law_1262 rfl ?_
          refine rz_scr 1264 dL_law_1263 rfl rfl (fun x183 => ?_)
          refine rz_xload_n 1265 0 dL_law_1264 rfl rfl ?_
          refine rz_iload_n 1266 3 dL_law_1265 rfl rfl ?_
          refine rz_iconst 1267 dL_law_1266 rfl ci_2 ?_
          refine rz_iadd 1268 dL_law_1267 rfl ?_
          refine rz_scr 1269 dL_law_1268 rfl rfl (fun x184 => ?_)
          refine rz_callV 1272 dL_law_1269 rfl (tX8_led v (d + 33) l1 x183 x184) rfl rfl rfl rfl ml_L_159 im_X8_led se_X8_X8_led in_X8 co_X8_led rfl rfl (fun x185 => ?_)
          refine rz_aload_n 1273 2 dL_law_1272 rfl rfl ?_
          refine rz_xload_n 1274 0 dL_law_1273 rfl rfl ?_
          refine rz_iload_n 1275 3 dL_law_1274 rfl rfl ?_
          refine rz_iconst 1276 dL_law_1275 rfl ci_1 ?_
          refine rz_iadd 1277 dL_law_1276 rfl ?_
          refine rz_scr 1278 dL_law_1277 rfl rfl (fun x186 => ?_)
          refine rz_xload_n 1279 0 dL_law_1278 rfl rfl ?_
          refine rz_iload_n 1280 3 dL_law_1279 rfl rfl ?_
          refine rz_iconst 1281 dL_law_1280 rfl ci_2 ?_
          refine rz_iadd 1282 dL_law_1281 rfl ?_
          refine rz_scr 1283 dL_law_1282 rfl rfl (fun x187 => ?_)
          refine rz_callV 1286 dL_law_1283 rfl (tX9_led v (d + 33) l2 x186 x187) rfl rfl rfl rfl ml_L_162 im_X9_led se_X9_X9_led in_X9 co_X9_led rfl rfl (fun x188 => ?_)
          refine rz_icmp_eq 1580 1289 dL_law_1286 rfl rfl ?_ ?_
          · refine rz_iinc (lv' := [(3, vI (l3 + 6)), (0, vX 35), (1, vR l1), (2, vR l2)]) 1583 3 dL_law_1580 rfl rfl (cn_6 _) rfl rfl ?_
            refine rz_goto 18 dL_law_1583 rfl ?_
            exact rz_sub [1, 2, 3, 0] rfl (h18 l1 l2 (l3 + 6))
          · refine rz_iconst 1290 dL_law_1289 rfl ci_0 ?_
            exact rz_zreturn rfl rfl dL_law_1290
        · refine rz_pr ?_
          refine rz_aload_n 1292 1 dL_law_1291 rfl rfl ?_
          refine rz_xload_n 1293 0 dL_law_1292 rfl rfl ?_
          refine rz_iload_n 1294 3 dL_law_1293 rfl rfl ?_
          refine rz_iconst 1295 dL_law_1294 rfl ci_1 ?_
          refine rz_iadd 1296 dL_law_1295 rfl ?_
          refine rz_scr 1297 dL_law_1296 rfl rfl (fun x189 => ?_)
          refine rz_callV 1300 dL_law_1297 rfl (tX8_share v (d + 33) l1 x189) rfl rfl rfl rfl ml_L_163 im_X8_share se_X8_X8_share in_X8 co_X8_share rfl rfl (fun x190 => ?_)
          refine rz_aload_n 1301 2 dL_law_1300 rfl rfl ?_
          refine rz_xload_n 1302 0 dL_law_1301 rfl rfl ?_
          refine rz_iload_n 1303 3 dL_law_1302 rfl rfl ?_
          refine rz_iconst 1304 dL_law_1303 rfl ci_1 ?_
          refine rz_iadd 1305 dL_law_1304 rfl ?_
          refine rz_scr 1306 dL_law_1305 rfl rfl (fun x191 => ?_)
          refine rz_callV 1309 dL_law_1306 rfl (tX9_share v (d + 32) l2 x191) rfl rfl rfl rfl ml_L_166 im_X9_share se_X9_X9_share in_X9 co_X9_share rfl rfl (fun x192 => ?_)
          refine rz_icmp_eq 1580 1312 dL_law_1309 rfl rfl ?_ ?_
          · refine rz_iinc (lv' := [(3, vI (l3 + 6)), (0, vX 35), (1, vR l1), (2, vR l2)]) 1583 3 dL_law_1580 rfl rfl (cn_6 _) rfl rfl ?_
            refine rz_goto 18 dL_law_1583 rfl ?_
            exact rz_sub [1, 2, 3, 0] rfl (h18 l1 l2 (l3 + 6))
          · refine rz_iconst 1313 dL_law_1312 rfl ci_0 ?_
            exact rz_zreturn rfl rfl dL_law_1313
        · refine rz_pr ?_
          refine rz_aload_n 1315 1 dL_law_1314 rfl rfl ?_
          refine rz_xload_n 1316 0 dL_law_1315 rfl rfl ?_
          refine rz_iload_n 1317 3 dL_law_1316 rfl rfl ?_
          refine rz_iconst 1318 dL_law_1317 rfl ci_1 ?_
          refine rz_iadd 1319 dL_law_1318 rfl ?_
          refine rz_scr 1320 dL_law_1319 rfl rfl (fun x193 => ?_)
          refine rz_callV 1323 dL_law_1320 rfl (tX8_heirloom v (d + 33) l1 x193) rfl rfl rfl rfl ml_L_167 im_X8_heirloom se_X8_X8_heirloom in_X8 co_X8_heirloom rfl rfl (fun x194 => ?_)
          refine rz_aload_n 1324 2 dL_law_1323 rfl rfl ?_
          refine rz_xload_n 1325 0 dL_law_1324 rfl rfl ?_
          refine rz_iload_n 1326 3 dL_law_1325 rfl rfl ?_
          refine rz_iconst 1327 dL_law_1326 rfl ci_1 ?_
          refine rz_iadd 1328 dL_law_1327 rfl ?_
          refine rz_scr 1329 dL_law_1328 rfl rfl (fun x195 => ?_)
          refine rz_callV 1332 dL_law_1329 rfl (tX9_heirloom v (d + 33) l2 x195) rfl rfl rfl rfl ml_L_170 im_X9_heirloom se_X9_X9_heirloom in_X9 co_X9_heirloom rfl rfl (fun x196 => ?_)
          refine rz_icmp_eq 1580 1335 dL_law_1332 rfl rfl ?_ ?_
          · refine rz_iinc (lv' := [(3, vI (l3 + 6)), (0, vX 35), (1, vR l1), (2, vR l2)]) 1583 3 dL_law_1580 rfl rfl (cn_6 _) rfl rfl ?_
            refine rz_goto 18 dL_law_1583 rfl ?_
            exact rz_sub [1, 2, 3, 0] rfl (h18 l1 l2 (l3 + 6))
          · refine rz_iconst 1336 dL_law_1335 rfl ci_0 ?_
            exact rz_zreturn rfl rfl dL_law_1336
        · refine rz_pr ?_
          refine rz_aload_n 1338 1 dL_law_1337 rfl rfl ?_
          refine rz_xload_n 1339 0 dL_law_1338 rfl rfl ?_
          refine rz_iload_n 1340 3 dL_law_1339 rfl rfl ?_
          refine rz_iconst 1341 dL_law_1340 rfl ci_1 ?_
          refine rz_iadd 1342 dL_law_1341 rfl ?_
          refine rz_scr 1343 dL_law_1342 rfl rfl (fun x197 => ?_)
          refine rz_xload_n 1344 0 dL_law_1343 rfl rfl ?_
          refine rz_iload_n 1345 3 dL_law_1344 rfl rfl ?_
          refine rz_iconst 1346 dL_law_1345 rfl ci_2 ?_
          refine rz_iadd 1347 dL_law_1346 rfl ?_
          refine rz_scr 1348 dL_law_1347 rfl rfl (fun x198 => ?_)
          refine rz_callV 1351 dL_law_1348 rfl (tX8_yardsOf v (d + 34) l1 x197 x198) rfl rfl rfl rfl ml_L_171 im_X8_yardsOf se_X8_X8_yardsOf in_X8 co_X8_yardsOf rfl rfl (fun x199 => ?_)
          refine rz_aload_n 1352 2 dL_law_1351 rfl rfl ?_
          refine rz_xload_n 1353 0 dL_law_1352 rfl rfl ?_
          refine rz_iload_n 1354 3 dL_law_1353 rfl rfl ?_
          refine rz_iconst 1355 dL_law_1354 rfl ci_1 ?_
          refine rz_iadd 1356 dL_law_1355 rfl ?_
          refine rz_scr 1357 dL_law_1356 rfl rfl (fun x200 => ?_)
          refine rz_xload_n 1358 0 dL_law_1357 rfl rfl ?_
          refine rz_iload_n 1359 3 dL_law_1358 rfl rfl ?_
          refine rz_iconst 1360 dL_law_1359 rfl ci_2 ?_
          refine rz_iadd 1361 dL_law_1360 rfl ?_
          refine rz_scr 1362 dL_law_1361 rfl rfl (fun x201 => ?_)
          refine rz_callV 1365 dL_law_1362 rfl (tX9_yardsOf v (d + 34) l2 x200 x201) rfl rfl rfl rfl ml_L_174 im_X9_yardsOf se_X9_X9_yardsOf in_X9 co_X9_yardsOf rfl rfl (fun x202 => ?_)
          refine rz_icmp_eq 1580 1368 dL_law_1365 rfl rfl ?_ ?_
          · refine rz_iinc (lv' := [(3, vI (l3 + 6)), (0, vX 35), (1, vR l1), (2, vR l2)]) 1583 3 dL_law_1580 rfl rfl (cn_6 _) rfl rfl ?_
            refine rz_goto 18 dL_law_1583 rfl ?_
            exact rz_sub [1, 2, 3, 0] rfl (h18 l1 l2 (l3 + 6))
          · refine rz_iconst 1369 dL_law_1368 rfl ci_0 ?_
            exact rz_zreturn rfl rfl dL_law_1369
        · refine rz_pr ?_
          refine rz_aload_n 1371 1 dL_law_1370 rfl rfl ?_
          refine rz_callV 1374 dL_law_1371 rfl (tX8_needed v (d + 30) l1) rfl rfl rfl rfl ml_L_175 im_X8_needed se_X8_X8_needed in_X8 co_X8_needed rfl rfl (fun x203 => ?_)
          refine rz_aload_n 1375 2 dL_law_1374 rfl rfl ?_
          refine rz_callV 1378 dL_law_1375 rfl (tX9_needed v (d + 30) l2) rfl rfl rfl rfl ml_L_178 im_X9_needed se_X9_X9_needed in_X9 co_X9_needed rfl rfl (fun x204 => ?_)
          refine rz_icmp_eq 1580 1381 dL_law_1378 rfl rfl ?_ ?_
          · refine rz_iinc (lv' := [(3, vI (l3 + 6)), (0, vX 35), (1, vR l1), (2, vR l2)]) 1583 3 dL_law_1580 rfl rfl (cn_6 _) rfl rfl ?_
            refine rz_goto 18 dL_law_1583 rfl ?_
            exact rz_sub [1, 2, 3, 0] rfl (h18 l1 l2 (l3 + 6))
          · refine rz_iconst 1382 dL_law_1381 rfl ci_0 ?_
            exact rz_zreturn rfl rfl dL_law_1382
        · refine rz_pr ?_
          refine rz_aload_n 1384 1 dL_law_1383 rfl rfl ?_
          refine rz_callV 1387 dL_law_1384 rfl (tX8_plan v (d + 32) l1) rfl rfl rfl rfl ml_L_179 im_X8_plan se_X8_X8_plan in_X8 co_X8_plan rfl rfl (fun x205 => ?_)
          refine rz_aload_n 1388 2 dL_law_1387 rfl rfl ?_
          refine rz_callV 1391 dL_law_1388 rfl (tX9_plan v (d + 31) l2) rfl rfl rfl rfl ml_L_182 im_X9_plan se_X9_X9_plan in_X9 co_X9_plan rfl rfl (fun x206 => ?_)
          refine rz_icmp_eq 1580 1394 dL_law_1391 rfl rfl ?_ ?_
          · refine rz_iinc (lv' := [(3, vI (l3 + 6)), (0, vX 35), (1, vR l1), (2, vR l2)]) 1583 3 dL_law_1580 rfl rfl (cn_6 _) rfl rfl ?_
            refine rz_goto 18 dL_law_1583 rfl ?_
            exact rz_sub [1, 2, 3, 0] rfl (h18 l1 l2 (l3 + 6))
          · refine rz_iconst 1395 dL_law_1394 rfl ci_0 ?_
            exact rz_zreturn rfl rfl dL_law_1395
        · refine rz_pr ?_
          refine rz_aload_n 1397 1 dL_law_1396 rfl rfl ?_
          refine rz_xload_n 1398 0 dL_law_1397 rfl rfl ?_
          refine rz_iload_n 1399 3 dL_law_1398 rfl rfl ?_
          refine rz_iconst 1400 dL_law_1399 rfl ci_1 ?_
          refine rz_iadd 1401 dL_law_1400 rfl ?_
          refine rz_scr 1402 dL_law_1401 rfl rfl (fun x207 => ?_)
          refine rz_callV 1405 dL_law_1402 rfl (tX8_spread v (d + 32) l1 x207) rfl rfl rfl rfl ml_L_183 im_X8_spread se_X8_X8_spread in_X8 co_X8_spread rfl rfl (fun x208 => ?_)
          refine rz_aload_n 1406 2 dL_law_1405 rfl rfl ?_
          refine rz_xload_n 1407 0 dL_law_1406 rfl rfl ?_
          refine rz_iload_n 1408 3 dL_law_1407 rfl rfl ?_
          refine rz_iconst 1409 dL_law_1408 rfl ci_1 ?_
          refine rz_iadd 1410 dL_law_1409 rfl ?_
          refine rz_scr 1411 dL_law_1410 rfl rfl (fun x209 => ?_)
          refine rz_callV 1414 dL_law_1411 rfl (tX9_spread v (d + 31) l2 x209) rfl rfl rfl rfl ml_L_186 im_X9_spread se_X9_X9_spread in_X9 co_X9_spread rfl rfl (fun x210 => ?_)
          refine rz_icmp_eq 1580 1417 dL_law_1414 rfl rfl ?_ ?_
          · refine rz_iinc (lv' := [(3, vI (l3 + 6)), (0, vX 35), (1, vR l1), (2, vR l2)]) 1583 3 dL_law_1580 rfl rfl (cn_6 _) rfl rfl ?_
            refine rz_goto 18 dL_law_1583 rfl ?_
            exact rz_sub [1, 2, 3, 0] rfl (h18 l1 l2 (l3 + 6))
          · refine rz_iconst 1418 dL_law_1417 rfl ci_0 ?_
            exact rz_zreturn rfl rfl dL_law_1418
        · refine rz_pr ?_
          refine rz_aload_n 1420 1 dL_law_1419 rfl rfl ?_
          refine rz_xload_n 1421 0 dL_law_1420 rfl rfl ?_
          refine rz_iload_n 1422 3 dL_law_1421 rfl rfl ?_
          refine rz_iconst 1423 dL_law_1422 rfl ci_1 ?_
          refine rz_iadd 1424 dL_law_1423 rfl ?_
          refine rz_scr 1425 dL_law_1424 rfl rfl (fun x211 => ?_)
          refine rz_callV 1428 dL_law_1425 rfl (tX8_holds v (d + 33) l1 x211) rfl rfl rfl rfl ml_L_187 im_X8_holds se_X8_X8_holds in_X8 co_X8_holds rfl rfl (fun x212 => ?_)
          refine rz_aload_n 1429 2 dL_law_1428 rfl rfl ?_
          refine rz_xload_n 1430 0 dL_law_1429 rfl rfl ?_
          refine rz_iload_n 1431 3 dL_law_1430 rfl rfl ?_
          refine rz_iconst 1432 dL_law_1431 rfl ci_1 ?_
          refine rz_iadd 1433 dL_law_1432 rfl ?_
          refine rz_scr 1434 dL_law_1433 rfl rfl (fun x213 => ?_)
          refine rz_callV 1437 dL_law_1434 rfl (tX9_holds v (d + 33) l2 x213) rfl rfl rfl rfl ml_L_190 im_X9_holds se_X9_X9_holds in_X9 co_X9_holds rfl rfl (fun x214 => ?_)
          refine rz_icmp_eq 1580 1440 dL_law_1437 rfl rfl ?_ ?_
          · refine rz_iinc (lv' := [(3, vI (l3 + 6)), (0, vX 35), (1, vR l1), (2, vR l2)]) 1583 3 dL_law_1580 rfl rfl (cn_6 _) rfl rfl ?_
            refine rz_goto 18 dL_law_1583 rfl ?_
            exact rz_sub [1, 2, 3, 0] rfl (h18 l1 l2 (l3 + 6))
          · refine rz_iconst 1441 dL_law_1440 rfl ci_0 ?_
            exact rz_zreturn rfl rfl dL_law_1441
        · refine rz_pr ?_
          refine rz_aload_n 1443 1 dL_law_1442 rfl rfl ?_
          refine rz_xload_n 1444 0 dL_law_1443 rfl rfl ?_
          refine rz_iload_n 1445 3 dL_law_1444 rfl rfl ?_
          refine rz_iconst 1446 dL_law_1445 rfl ci_1 ?_
          refine rz_iadd 1447 dL_law_1446 rfl ?_
          refine rz_scr 1448 dL_law_1447 rfl rfl (fun x215 => ?_)
          refine rz_callV 1451 dL_law_1448 rfl (tX8_best v (d + 30) l1 x215) rfl rfl rfl rfl ml_L_191 im_X8_best se_X8_X8_best in_X8 co_X8_best rfl rfl (fun x216 => ?_)
          refine rz_aload_n 1452 2 dL_law_1451 rfl rfl ?_
          refine rz_xload_n 1453 0 dL_law_1452 rfl rfl ?_
          refine rz_iload_n 1454 3 dL_law_1453 rfl rfl ?_
          refine rz_iconst 1455 dL_law_1454 rfl ci_1 ?_
          refine rz_iadd 1456 dL_law_1455 rfl ?_
          refine rz_scr 1457 dL_law_1456 rfl rfl (fun x217 => ?_)
          refine rz_callV 1460 dL_law_1457 rfl (tX9_best v (d + 31) l2 x217) rfl rfl rfl rfl ml_L_194 im_X9_best se_X9_X9_best in_X9 co_X9_best rfl rfl (fun x218 => ?_)
          refine rz_icmp_eq 1580 1463 dL_law_1460 rfl rfl ?_ ?_
          · refine rz_iinc (lv' := [(3, vI (l3 + 6)), (0, vX 35), (1, vR l1), (2, vR l2)]) 1583 3 dL_law_1580 rfl rfl (cn_6 _) rfl rfl ?_
            refine rz_goto 18 dL_law_1583 rfl ?_
            exact rz_sub [1, 2, 3, 0] rfl (h18 l1 l2 (l3 + 6))
          · refine rz_iconst 1464 dL_law_1463 rfl ci_0 ?_
            exact rz_zreturn rfl rfl dL_law_1464
        · refine rz_pr ?_
          refine rz_aload_n 1466 1 dL_law_1465 rfl rfl ?_
          refine rz_xload_n 1467 0 dL_law_1466 rfl rfl ?_
          refine rz_iload_n 1468 3 dL_law_1467 rfl rfl ?_
          refine rz_iconst 1469 dL_law_1468 rfl ci_1 ?_
          refine rz_iadd 1470 dL_law_1469 rfl ?_
          refine rz_scr 1471 dL_law_1470 rfl rfl (fun x219 => ?_)
          refine rz_callV 1474 dL_law_1471 rfl (tX8_drawing v (d + 29) l1 x219) rfl rfl rfl rfl ml_L_195 im_X8_drawing se_X8_X8_drawing in_X8 co_X8_drawing rfl rfl (fun x220 => ?_)
          refine rz_aload_n 1475 2 dL_law_1474 rfl rfl ?_
          refine rz_xload_n 1476 0 dL_law_1475 rfl rfl ?_
          refine rz_iload_n 1477 3 dL_law_1476 rfl rfl ?_
          refine rz_iconst 1478 dL_law_1477 rfl ci_1 ?_
          refine rz_iadd 1479 dL_law_1478 rfl ?_
          refine rz_scr 1480 dL_law_1479 rfl rfl (fun x221 => ?_)
          refine rz_callV 1483 dL_law_1480 rfl (tX9_drawing v (d + 31) l2 x221) rfl rfl rfl rfl ml_L_198 im_X9_drawing se_X9_X9_drawing in_X9 co_X9_drawing rfl rfl (fun x222 => ?_)
          refine rz_icmp_eq 1580 1486 dL_law_1483 rfl rfl ?_ ?_
          · refine rz_iinc (lv' := [(3, vI (l3 + 6)), (0, vX 35), (1, vR l1), (2, vR l2)]) 1583 3 dL_law_1580 rfl rfl (cn_6 _) rfl rfl ?_
            refine rz_goto 18 dL_law_1583 rfl ?_
            exact rz_sub [1, 2, 3, 0] rfl (h18 l1 l2 (l3 + 6))
          · refine rz_iconst 1487 dL_law_1486 rfl ci_0 ?_
            exact rz_zreturn rfl rfl dL_law_1487
        · refine rz_pr ?_
          refine rz_aload_n 1489 1 dL_law_1488 rfl rfl ?_
          refine rz_xload_n 1490 0 dL_law_1489 rfl rfl ?_
          refine rz_iload_n 1491 3 dL_law_1490 rfl rfl ?_
          refine rz_iconst 1492 dL_law_1491 rfl ci_1 ?_
          refine rz_iadd 1493 dL_law_1492 rfl ?_
          refine rz_scr 1494 dL_law_1493 rfl rfl (fun x223 => ?_)
          refine rz_xload_n 1495 0 dL_law_1494 rfl rfl ?_
          refine rz_iload_n 1496 3 dL_law_1495 rfl rfl ?_
          refine rz_iconst 1497 dL_law_1496 rfl ci_2 ?_
          refine rz_iadd 1498 dL_law_1497 rfl ?_
          refine rz_scr 1499 dL_law_1498 rfl rfl (fun x224 => ?_)
          refine rz_callV 1502 dL_law_1499 rfl (tX8_waiting v (d + 28) l1 x223 x224) rfl rfl rfl rfl ml_L_199 im_X8_waiting se_X8_X8_waiting in_X8 co_X8_waiting rfl rfl (fun x225 => ?_)
          refine rz_aload_n 1503 2 dL_law_1502 rfl rfl ?_
          refine rz_xload_n 1504 0 dL_law_1503 rfl rfl ?_
          refine rz_iload_n 1505 3 dL_law_1504 rfl rfl ?_
          refine rz_iconst 1506 dL_law_1505 rfl ci_1 ?_
          refine rz_iadd 1507 dL_law_1506 rfl ?_
          refine rz_scr 1508 dL_law_1507 rfl rfl (fun x226 => ?_)
          refine rz_xload_n 1509 0 dL_law_1508 rfl rfl ?_
          refine rz_iload_n 1510 3 dL_law_1509 rfl rfl ?_
          refine rz_iconst 1511 dL_law_1510 rfl ci_2 ?_
          refine rz_iadd 1512 dL_law_1511 rfl ?_
          refine rz_scr 1513 dL_law_1512 rfl rfl (fun x227 => ?_)
          refine rz_callV 1516 dL_law_1513 rfl (tX9_waiting v (d + 30) l2 x226 x227) rfl rfl rfl rfl ml_L_202 im_X9_waiting se_X9_X9_waiting in_X9 co_X9_waiting rfl rfl (fun x228 => ?_)
          refine rz_icmp_eq 1580 1519 dL_law_1516 rfl rfl ?_ ?_
          · refine rz_iinc (lv' := [(3, vI (l3 + 6)), (0, vX 35), (1, vR l1), (2, vR l2)]) 1583 3 dL_law_1580 rfl rfl (cn_6 _) rfl rfl ?_
            refine rz_goto 18 dL_law_1583 rfl ?_
            exact rz_sub [1, 2, 3, 0] rfl (h18 l1 l2 (l3 + 6))
          · refine rz_iconst 1520 dL_law_1519 rfl ci_0 ?_
            exact rz_zreturn rfl rfl dL_law_1520
        · refine rz_pr ?_
          refine rz_aload_n 1522 1 dL_law_1521 rfl rfl ?_
          refine rz_xload_n 1523 0 dL_law_1522 rfl rfl ?_
          refine rz_iload_n 1524 3 dL_law_1523 rfl rfl ?_
          refine rz_iconst 1525 dL_law_1524 rfl ci_1 ?_
          refine rz_iadd 1526 dL_law_1525 rfl ?_
          refine rz_scr 1527 dL_law_1526 rfl rfl (fun x229 => ?_)
          refine rz_xload_n 1528 0 dL_law_1527 rfl rfl ?_
          refine rz_iload_n 1529 3 dL_law_1528 rfl rfl ?_
          refine rz_iconst 1530 dL_law_1529 rfl ci_2 ?_
          refine rz_iadd 1531 dL_law_1530 rfl ?_
          refine rz_scr 1532 dL_law_1531 rfl rfl (fun x230 => ?_)
          refine rz_callV 1535 dL_law_1532 rfl (tX8_leastWaiting v (d + 28) l1 x229 x230) rfl rfl rfl rfl ml_L_203 im_X8_leastWaiting se_X8_X8_leastWaiting in_X8 co_X8_leastWaiting rfl rfl (fun x231 => ?_)
          refine rz_aload_n 1536 2 dL_law_1535 rfl rfl ?_
          refine rz_xload_n 1537 0 dL_law_1536 rfl rfl ?_
          refine rz_iload_n 1538 3 dL_law_1537 rfl rfl ?_
          refine rz_iconst 1539 dL_law_1538 rfl ci_1 ?_
          refine rz_iadd 1540 dL_law_1539 rfl ?_
          refine rz_scr 1541 dL_law_1540 rfl rfl (fun x232 => ?_)
          refine rz_xload_n 1542 0 dL_law_1541 rfl rfl ?_
          refine rz_iload_n 1543 3 dL_law_1542 rfl rfl ?_
          refine rz_iconst 1544 dL_law_1543 rfl ci_2 ?_
          refine rz_iadd 1545 dL_law_1544 rfl ?_
          refine rz_scr 1546 dL_law_1545 rfl rfl (fun x233 => ?_)
          refine rz_callV 1549 dL_law_1546 rfl (tX9_leastWaiting v (d + 30) l2 x232 x233) rfl rfl rfl rfl ml_L_206 im_X9_leastWaiting se_X9_X9_leastWaiting in_X9 co_X9_leastWaiting rfl rfl (fun x234 => ?_)
          refine rz_icmp_eq 1580 1552 dL_law_1549 rfl rfl ?_ ?_
          · refine rz_iinc (lv' := [(3, vI (l3 + 6)), (0, vX 35), (1, vR l1), (2, vR l2)]) 1583 3 dL_law_1580 rfl rfl (cn_6 _) rfl rfl ?_
            refine rz_goto 18 dL_law_1583 rfl ?_
            exact rz_sub [1, 2, 3, 0] rfl (h18 l1 l2 (l3 + 6))
          · refine rz_iconst 1553 dL_law_1552 rfl ci_0 ?_
            exact rz_zreturn rfl rfl dL_law_1553
        · refine rz_pr ?_
          refine rz_aload_n 1555 1 dL_law_1554 rfl rfl ?_
          refine rz_callV 1558 dL_law_1555 rfl (tX8_mark v (d + 32) l1) rfl rfl rfl rfl ml_L_207 im_X8_mark se_X8_X8_mark in_X8 co_X8_mark rfl rfl (fun x235 => ?_)
          refine rz_aload_n 1559 2 dL_law_1558 rfl rfl ?_
          refine rz_callV 1562 dL_law_1559 rfl (tX9_mark v (d + 34) l2) rfl rfl rfl rfl ml_L_210 im_X9_mark se_X9_X9_mark in_X9 co_X9_mark rfl rfl (fun x236 => ?_)
          refine rz_icmp_eq 1580 1565 dL_law_1562 rfl rfl ?_ ?_
          · refine rz_iinc (lv' := [(3, vI (l3 + 6)), (0, vX 35), (1, vR l1), (2, vR l2)]) 1583 3 dL_law_1580 rfl rfl (cn_6 _) rfl rfl ?_
            refine rz_goto 18 dL_law_1583 rfl ?_
            exact rz_sub [1, 2, 3, 0] rfl (h18 l1 l2 (l3 + 6))
          · refine rz_iconst 1566 dL_law_1565 rfl ci_0 ?_
            exact rz_zreturn rfl rfl dL_law_1566
        · refine rz_pr ?_
          refine rz_aload_n 1568 1 dL_law_1567 rfl rfl ?_
          refine rz_callV 1571 dL_law_1568 rfl (tX8_back v (d + 32) l1) rfl rfl rfl rfl ml_L_211 im_X8_back se_X8_X8_back in_X8 co_X8_back rfl rfl (fun x237 => ?_)
          refine rz_aload_n 1572 2 dL_law_1571 rfl rfl ?_
          refine rz_callV 1575 dL_law_1572 rfl (tX9_back v (d + 34) l2) rfl rfl rfl rfl ml_L_214 im_X9_back se_X9_X9_back in_X9 co_X9_back rfl rfl (fun x238 => ?_)
          refine rz_icmp_eq 1580 1578 dL_law_1575 rfl rfl ?_ ?_
          · refine rz_iinc (lv' := [(3, vI (l3 + 6)), (0, vX 35), (1, vR l1), (2, vR l2)]) 1583 3 dL_law_1580 rfl rfl (cn_6 _) rfl rfl ?_
            refine rz_goto 18 dL_law_1583 rfl ?_
            exact rz_sub [1, 2, 3, 0] rfl (h18 l1 l2 (l3 + 6))
          · refine rz_iconst 1579 dL_law_1578 rfl ci_0 ?_
            exact rz_zreturn rfl rfl dL_law_1579
def fL_law (v : mE)  : mM Int32 := bNew 8 (fun x1 => bCallV 8 x1 (fX8_init x1) (fun _ => bNew 9 (fun x2 => bCallV 9 x2 (fX9_init x2) (fun _ => fL_law_18 v fu x1 x2 (0 : Int32)))))
set_option maxRecDepth 20000 in
theorem rL_law (v : mE) (d : Nat) : Rz v RL cL_law 4 (some .boolean) false emI (d + 36) 0 [(0, vX 35)] [] (fL_law v) := by
  unfold fL_law
  refine rz_new 3 dL_law_0 rfl rfl cl_L_7 it_X8 in_X8 (fun x1 => ?_)
  refine rz_dup 4 dL_law_3 rfl rfl ?_
  refine rz_callI (kc := 8) 7 dL_law_4 rfl (tX8_init v (d + 32) x1) rfl rfl rfl rfl ml_L_9 im_X8_init in_X8 co_X8_init rfl rfl (fun _ => ?_)
  refine rz_astore_n (lv' := [(1, vR x1), (0, vX 35)]) 8 dL_law_7 rfl rfl rfl ?_
  refine rz_new 11 dL_law_8 rfl rfl cl_L_10 it_X9 in_X9 (fun x2 => ?_)
  refine rz_dup 12 dL_law_11 rfl rfl ?_
  refine rz_callI (kc := 9) 15 dL_law_12 rfl (tX9_init v (d + 34) x2) rfl rfl rfl rfl ml_L_12 im_X9_init in_X9 co_X9_init rfl rfl (fun _ => ?_)
  refine rz_astore_n (lv' := [(2, vR x2), (1, vR x1), (0, vX 35)]) 16 dL_law_15 rfl rfl rfl ?_
  refine rz_iconst 17 dL_law_16 rfl ci_0 ?_
  refine rz_istore_n (lv' := [(3, vI (0 : Int32)), (2, vR x2), (1, vR x1), (0, vX 35)]) 18 dL_law_17 rfl rfl rfl ?_
  exact rz_sub [3, 2, 1, 0] rfl (rL_law_18 v d fu x1 x2 (0 : Int32))
