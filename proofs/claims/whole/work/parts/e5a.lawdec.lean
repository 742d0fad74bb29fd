/-! decode rows of the law (printed by wip/tools/gene5.py) -/
theorem d_Law_0 : decode code 0 = .ok (.new 7, 3) := by decide +kernel
theorem d_Law_3 : decode code 3 = .ok (.dup, 1) := by decide +kernel
theorem d_Law_4 : decode code 4 = .ok (.invokespecial 9, 3) := by decide +kernel
theorem d_Law_7 : decode code 7 = .ok (.astore_n 1, 1) := by decide +kernel
theorem d_Law_8 : decode code 8 = .ok (.new 10, 3) := by decide +kernel
theorem d_Law_11 : decode code 11 = .ok (.dup, 1) := by decide +kernel
theorem d_Law_12 : decode code 12 = .ok (.invokespecial 12, 3) := by decide +kernel
theorem d_Law_15 : decode code 15 = .ok (.astore_n 2, 1) := by decide +kernel
theorem d_Law_16 : decode code 16 = .ok (.iconst 0, 1) := by decide +kernel
theorem d_Law_17 : decode code 17 = .ok (.istore_n 3, 1) := by decide +kernel
theorem d_Law_18 : decode code 18 = .ok (.iload_n 3, 1) := by decide +kernel
theorem d_Law_19 : decode code 19 = .ok (.aload_n 0, 1) := by decide +kernel
theorem d_Law_20 : decode code 20 = .ok (.arraylength, 1) := by decide +kernel
theorem d_Law_21 : decode code 21 = .ok (.bipush 6, 2) := by decide +kernel
theorem d_Law_23 : decode code 23 = .ok (.isub, 1) := by decide +kernel
theorem d_Law_24 : decode code 24 = .ok (.if_icmp .gt 1762, 3) := by decide +kernel
theorem d_Law_27 : decode code 27 = .ok (.aload_n 0, 1) := by decide +kernel
theorem d_Law_28 : decode code 28 = .ok (.iload_n 3, 1) := by decide +kernel
theorem d_Law_29 : decode code 29 = .ok (.iaload, 1) := by decide +kernel
theorem d_Law_30 : decode code 30 = .ok (.bipush 63, 2) := by decide +kernel
theorem d_Law_32 : decode code 32 = .ok (.iand, 1) := by decide +kernel
theorem d_Law_33 : decode code 33 = .ok (.tableswitch 1747 0 50 #[219, 232, 246, 260, 303, 376, 410, 473, 536, 559, 582, 605, 628, 651, 684, 717, 740, 773, 796, 829, 852, 911, 970, 1003, 1036, 1059, 1092, 1135, 1158, 1181, 1204, 1237, 1260, 1283, 1316, 1329, 1342, 1355, 1368, 1391, 1424, 1457, 1490, 1533, 1586, 1619, 1642, 1665, 1688, 1721, 1734], 219) := by decide +kernel
theorem d_Law_252 : decode code 252 = .ok (.aload_n 1, 1) := by decide +kernel
theorem d_Law_253 : decode code 253 = .ok (.invokevirtual 13, 3) := by decide +kernel
theorem d_Law_256 : decode code 256 = .ok (.aload_n 2, 1) := by decide +kernel
theorem d_Law_257 : decode code 257 = .ok (.invokevirtual 17, 3) := by decide +kernel
theorem d_Law_260 : decode code 260 = .ok (.if_icmp .eq 1520, 3) := by decide +kernel
theorem d_Law_263 : decode code 263 = .ok (.iconst 0, 1) := by decide +kernel
theorem d_Law_264 : decode code 264 = .ok (.ireturn, 1) := by decide +kernel
theorem d_Law_265 : decode code 265 = .ok (.aload_n 1, 1) := by decide +kernel
theorem d_Law_266 : decode code 266 = .ok (.invokevirtual 18, 3) := by decide +kernel
theorem d_Law_269 : decode code 269 = .ok (.aload_n 2, 1) := by decide +kernel
theorem d_Law_270 : decode code 270 = .ok (.invokevirtual 22, 3) := by decide +kernel
theorem d_Law_273 : decode code 273 = .ok (.lcmp, 1) := by decide +kernel
theorem d_Law_274 : decode code 274 = .ok (.ifCond .eq 1506, 3) := by decide +kernel
theorem d_Law_277 : decode code 277 = .ok (.iconst 0, 1) := by decide +kernel
theorem d_Law_278 : decode code 278 = .ok (.ireturn, 1) := by decide +kernel
theorem d_Law_279 : decode code 279 = .ok (.aload_n 1, 1) := by decide +kernel
theorem d_Law_280 : decode code 280 = .ok (.invokevirtual 23, 3) := by decide +kernel
theorem d_Law_283 : decode code 283 = .ok (.aload_n 2, 1) := by decide +kernel
theorem d_Law_284 : decode code 284 = .ok (.invokevirtual 26, 3) := by decide +kernel
theorem d_Law_287 : decode code 287 = .ok (.lcmp, 1) := by decide +kernel
theorem d_Law_288 : decode code 288 = .ok (.ifCond .eq 1492, 3) := by decide +kernel
theorem d_Law_291 : decode code 291 = .ok (.iconst 0, 1) := by decide +kernel
theorem d_Law_292 : decode code 292 = .ok (.ireturn, 1) := by decide +kernel
theorem d_Law_293 : decode code 293 = .ok (.aload_n 1, 1) := by decide +kernel
theorem d_Law_294 : decode code 294 = .ok (.aload_n 0, 1) := by decide +kernel
theorem d_Law_295 : decode code 295 = .ok (.iload_n 3, 1) := by decide +kernel
theorem d_Law_296 : decode code 296 = .ok (.iconst 1, 1) := by decide +kernel
theorem d_Law_297 : decode code 297 = .ok (.iadd, 1) := by decide +kernel
theorem d_Law_298 : decode code 298 = .ok (.iaload, 1) := by decide +kernel
theorem d_Law_299 : decode code 299 = .ok (.aload_n 0, 1) := by decide +kernel
theorem d_Law_300 : decode code 300 = .ok (.iload_n 3, 1) := by decide +kernel
theorem d_Law_301 : decode code 301 = .ok (.iconst 2, 1) := by decide +kernel
theorem d_Law_302 : decode code 302 = .ok (.iadd, 1) := by decide +kernel
theorem d_Law_303 : decode code 303 = .ok (.iaload, 1) := by decide +kernel
theorem d_Law_304 : decode code 304 = .ok (.aload_n 0, 1) := by decide +kernel
theorem d_Law_305 : decode code 305 = .ok (.iload_n 3, 1) := by decide +kernel
theorem d_Law_306 : decode code 306 = .ok (.iconst 3, 1) := by decide +kernel
theorem d_Law_307 : decode code 307 = .ok (.iadd, 1) := by decide +kernel
theorem d_Law_308 : decode code 308 = .ok (.iaload, 1) := by decide +kernel
theorem d_Law_309 : decode code 309 = .ok (.invokevirtual 27, 3) := by decide +kernel
theorem d_Law_312 : decode code 312 = .ok (.aload_n 2, 1) := by decide +kernel
theorem d_Law_313 : decode code 313 = .ok (.aload_n 0, 1) := by decide +kernel
theorem d_Law_314 : decode code 314 = .ok (.iload_n 3, 1) := by decide +kernel
theorem d_Law_315 : decode code 315 = .ok (.iconst 1, 1) := by decide +kernel
theorem d_Law_316 : decode code 316 = .ok (.iadd, 1) := by decide +kernel
theorem d_Law_317 : decode code 317 = .ok (.iaload, 1) := by decide +kernel
theorem d_Law_318 : decode code 318 = .ok (.aload_n 0, 1) := by decide +kernel
theorem d_Law_319 : decode code 319 = .ok (.iload_n 3, 1) := by decide +kernel
theorem d_Law_320 : decode code 320 = .ok (.iconst 2, 1) := by decide +kernel
theorem d_Law_321 : decode code 321 = .ok (.iadd, 1) := by decide +kernel
theorem d_Law_322 : decode code 322 = .ok (.iaload, 1) := by decide +kernel
theorem d_Law_323 : decode code 323 = .ok (.aload_n 0, 1) := by decide +kernel
theorem d_Law_324 : decode code 324 = .ok (.iload_n 3, 1) := by decide +kernel
theorem d_Law_325 : decode code 325 = .ok (.iconst 3, 1) := by decide +kernel
theorem d_Law_326 : decode code 326 = .ok (.iadd, 1) := by decide +kernel
theorem d_Law_327 : decode code 327 = .ok (.iaload, 1) := by decide +kernel
theorem d_Law_328 : decode code 328 = .ok (.invokevirtual 31, 3) := by decide +kernel
theorem d_Law_331 : decode code 331 = .ok (.if_icmp .eq 1449, 3) := by decide +kernel
theorem d_Law_334 : decode code 334 = .ok (.iconst 0, 1) := by decide +kernel
theorem d_Law_335 : decode code 335 = .ok (.ireturn, 1) := by decide +kernel
theorem d_Law_336 : decode code 336 = .ok (.aload_n 1, 1) := by decide +kernel
theorem d_Law_337 : decode code 337 = .ok (.aload_n 0, 1) := by decide +kernel
theorem d_Law_338 : decode code 338 = .ok (.iload_n 3, 1) := by decide +kernel
theorem d_Law_339 : decode code 339 = .ok (.iconst 1, 1) := by decide +kernel
theorem d_Law_340 : decode code 340 = .ok (.iadd, 1) := by decide +kernel
theorem d_Law_341 : decode code 341 = .ok (.iaload, 1) := by decide +kernel
theorem d_Law_342 : decode code 342 = .ok (.aload_n 0, 1) := by decide +kernel
theorem d_Law_343 : decode code 343 = .ok (.iload_n 3, 1) := by decide +kernel
theorem d_Law_344 : decode code 344 = .ok (.iconst 2, 1) := by decide +kernel
theorem d_Law_345 : decode code 345 = .ok (.iadd, 1) := by decide +kernel
theorem d_Law_346 : decode code 346 = .ok (.iaload, 1) := by decide +kernel
theorem d_Law_347 : decode code 347 = .ok (.aload_n 0, 1) := by decide +kernel
theorem d_Law_348 : decode code 348 = .ok (.iload_n 3, 1) := by decide +kernel
theorem d_Law_349 : decode code 349 = .ok (.iconst 3, 1) := by decide +kernel
theorem d_Law_350 : decode code 350 = .ok (.iadd, 1) := by decide +kernel
theorem d_Law_351 : decode code 351 = .ok (.iaload, 1) := by decide +kernel
theorem d_Law_352 : decode code 352 = .ok (.i2l, 1) := by decide +kernel
theorem d_Law_353 : decode code 353 = .ok (.bipush 32, 2) := by decide +kernel
theorem d_Law_355 : decode code 355 = .ok (.lshl, 1) := by decide +kernel
theorem d_Law_356 : decode code 356 = .ok (.aload_n 0, 1) := by decide +kernel
theorem d_Law_357 : decode code 357 = .ok (.iload_n 3, 1) := by decide +kernel
theorem d_Law_358 : decode code 358 = .ok (.iconst 4, 1) := by decide +kernel
theorem d_Law_359 : decode code 359 = .ok (.iadd, 1) := by decide +kernel
theorem d_Law_360 : decode code 360 = .ok (.iaload, 1) := by decide +kernel
theorem d_Law_361 : decode code 361 = .ok (.i2l, 1) := by decide +kernel
theorem d_Law_362 : decode code 362 = .ok (.ldc2_w 32, 3) := by decide +kernel
theorem d_Law_365 : decode code 365 = .ok (.land, 1) := by decide +kernel
theorem d_Law_366 : decode code 366 = .ok (.lor, 1) := by decide +kernel
theorem d_Law_367 : decode code 367 = .ok (.invokevirtual 34, 3) := by decide +kernel
theorem d_Law_370 : decode code 370 = .ok (.aload_n 2, 1) := by decide +kernel
theorem d_Law_371 : decode code 371 = .ok (.aload_n 0, 1) := by decide +kernel
theorem d_Law_372 : decode code 372 = .ok (.iload_n 3, 1) := by decide +kernel
theorem d_Law_373 : decode code 373 = .ok (.iconst 1, 1) := by decide +kernel
theorem d_Law_374 : decode code 374 = .ok (.iadd, 1) := by decide +kernel
theorem d_Law_375 : decode code 375 = .ok (.iaload, 1) := by decide +kernel
theorem d_Law_376 : decode code 376 = .ok (.aload_n 0, 1) := by decide +kernel
theorem d_Law_377 : decode code 377 = .ok (.iload_n 3, 1) := by decide +kernel
theorem d_Law_378 : decode code 378 = .ok (.iconst 2, 1) := by decide +kernel
theorem d_Law_379 : decode code 379 = .ok (.iadd, 1) := by decide +kernel
theorem d_Law_380 : decode code 380 = .ok (.iaload, 1) := by decide +kernel
theorem d_Law_381 : decode code 381 = .ok (.aload_n 0, 1) := by decide +kernel
theorem d_Law_382 : decode code 382 = .ok (.iload_n 3, 1) := by decide +kernel
theorem d_Law_383 : decode code 383 = .ok (.iconst 3, 1) := by decide +kernel
theorem d_Law_384 : decode code 384 = .ok (.iadd, 1) := by decide +kernel
theorem d_Law_385 : decode code 385 = .ok (.iaload, 1) := by decide +kernel
theorem d_Law_386 : decode code 386 = .ok (.i2l, 1) := by decide +kernel
theorem d_Law_387 : decode code 387 = .ok (.bipush 32, 2) := by decide +kernel
theorem d_Law_389 : decode code 389 = .ok (.lshl, 1) := by decide +kernel
theorem d_Law_390 : decode code 390 = .ok (.aload_n 0, 1) := by decide +kernel
theorem d_Law_391 : decode code 391 = .ok (.iload_n 3, 1) := by decide +kernel
theorem d_Law_392 : decode code 392 = .ok (.iconst 4, 1) := by decide +kernel
theorem d_Law_393 : decode code 393 = .ok (.iadd, 1) := by decide +kernel
theorem d_Law_394 : decode code 394 = .ok (.iaload, 1) := by decide +kernel
theorem d_Law_395 : decode code 395 = .ok (.i2l, 1) := by decide +kernel
theorem d_Law_396 : decode code 396 = .ok (.ldc2_w 32, 3) := by decide +kernel
theorem d_Law_399 : decode code 399 = .ok (.land, 1) := by decide +kernel
theorem d_Law_400 : decode code 400 = .ok (.lor, 1) := by decide +kernel
theorem d_Law_401 : decode code 401 = .ok (.invokevirtual 38, 3) := by decide +kernel
theorem d_Law_404 : decode code 404 = .ok (.if_icmp .eq 1376, 3) := by decide +kernel
theorem d_Law_407 : decode code 407 = .ok (.iconst 0, 1) := by decide +kernel
theorem d_Law_408 : decode code 408 = .ok (.ireturn, 1) := by decide +kernel
theorem d_Law_409 : decode code 409 = .ok (.aload_n 1, 1) := by decide +kernel
theorem d_Law_410 : decode code 410 = .ok (.aload_n 0, 1) := by decide +kernel
theorem d_Law_411 : decode code 411 = .ok (.iload_n 3, 1) := by decide +kernel
theorem d_Law_412 : decode code 412 = .ok (.iconst 1, 1) := by decide +kernel
theorem d_Law_413 : decode code 413 = .ok (.iadd, 1) := by decide +kernel
theorem d_Law_414 : decode code 414 = .ok (.iaload, 1) := by decide +kernel
theorem d_Law_415 : decode code 415 = .ok (.aload_n 0, 1) := by decide +kernel
theorem d_Law_416 : decode code 416 = .ok (.iload_n 3, 1) := by decide +kernel
theorem d_Law_417 : decode code 417 = .ok (.iconst 2, 1) := by decide +kernel
theorem d_Law_418 : decode code 418 = .ok (.iadd, 1) := by decide +kernel
theorem d_Law_419 : decode code 419 = .ok (.iaload, 1) := by decide +kernel
theorem d_Law_420 : decode code 420 = .ok (.invokevirtual 39, 3) := by decide +kernel
theorem d_Law_423 : decode code 423 = .ok (.aload_n 2, 1) := by decide +kernel
theorem d_Law_424 : decode code 424 = .ok (.aload_n 0, 1) := by decide +kernel
theorem d_Law_425 : decode code 425 = .ok (.iload_n 3, 1) := by decide +kernel
theorem d_Law_426 : decode code 426 = .ok (.iconst 1, 1) := by decide +kernel
theorem d_Law_427 : decode code 427 = .ok (.iadd, 1) := by decide +kernel
theorem d_Law_428 : decode code 428 = .ok (.iaload, 1) := by decide +kernel
theorem d_Law_429 : decode code 429 = .ok (.aload_n 0, 1) := by decide +kernel
theorem d_Law_430 : decode code 430 = .ok (.iload_n 3, 1) := by decide +kernel
theorem d_Law_431 : decode code 431 = .ok (.iconst 2, 1) := by decide +kernel
theorem d_Law_432 : decode code 432 = .ok (.iadd, 1) := by decide +kernel
theorem d_Law_433 : decode code 433 = .ok (.iaload, 1) := by decide +kernel
theorem d_Law_434 : decode code 434 = .ok (.invokevirtual 43, 3) := by decide +kernel
theorem d_Law_437 : decode code 437 = .ok (.lcmp, 1) := by decide +kernel
theorem d_Law_438 : decode code 438 = .ok (.ifCond .eq 1342, 3) := by decide +kernel
theorem d_Law_441 : decode code 441 = .ok (.iconst 0, 1) := by decide +kernel
theorem d_Law_442 : decode code 442 = .ok (.ireturn, 1) := by decide +kernel
theorem d_Law_443 : decode code 443 = .ok (.aload_n 1, 1) := by decide +kernel
theorem d_Law_444 : decode code 444 = .ok (.aload_n 0, 1) := by decide +kernel
theorem d_Law_445 : decode code 445 = .ok (.iload_n 3, 1) := by decide +kernel
theorem d_Law_446 : decode code 446 = .ok (.iconst 1, 1) := by decide +kernel
theorem d_Law_447 : decode code 447 = .ok (.iadd, 1) := by decide +kernel
theorem d_Law_448 : decode code 448 = .ok (.iaload, 1) := by decide +kernel
theorem d_Law_449 : decode code 449 = .ok (.aload_n 0, 1) := by decide +kernel
theorem d_Law_450 : decode code 450 = .ok (.iload_n 3, 1) := by decide +kernel
theorem d_Law_451 : decode code 451 = .ok (.iconst 2, 1) := by decide +kernel
theorem d_Law_452 : decode code 452 = .ok (.iadd, 1) := by decide +kernel
theorem d_Law_453 : decode code 453 = .ok (.iaload, 1) := by decide +kernel
theorem d_Law_454 : decode code 454 = .ok (.aload_n 0, 1) := by decide +kernel
theorem d_Law_455 : decode code 455 = .ok (.iload_n 3, 1) := by decide +kernel
theorem d_Law_456 : decode code 456 = .ok (.iconst 3, 1) := by decide +kernel
theorem d_Law_457 : decode code 457 = .ok (.iadd, 1) := by decide +kernel
theorem d_Law_458 : decode code 458 = .ok (.iaload, 1) := by decide +kernel
theorem d_Law_459 : decode code 459 = .ok (.aload_n 0, 1) := by decide +kernel
theorem d_Law_460 : decode code 460 = .ok (.iload_n 3, 1) := by decide +kernel
theorem d_Law_461 : decode code 461 = .ok (.iconst 4, 1) := by decide +kernel
theorem d_Law_462 : decode code 462 = .ok (.iadd, 1) := by decide +kernel
theorem d_Law_463 : decode code 463 = .ok (.iaload, 1) := by decide +kernel
theorem d_Law_464 : decode code 464 = .ok (.aload_n 0, 1) := by decide +kernel
theorem d_Law_465 : decode code 465 = .ok (.iload_n 3, 1) := by decide +kernel
theorem d_Law_466 : decode code 466 = .ok (.iconst 5, 1) := by decide +kernel
theorem d_Law_467 : decode code 467 = .ok (.iadd, 1) := by decide +kernel
theorem d_Law_468 : decode code 468 = .ok (.iaload, 1) := by decide +kernel
theorem d_Law_469 : decode code 469 = .ok (.invokevirtual 44, 3) := by decide +kernel
theorem d_Law_472 : decode code 472 = .ok (.aload_n 2, 1) := by decide +kernel
theorem d_Law_473 : decode code 473 = .ok (.aload_n 0, 1) := by decide +kernel
theorem d_Law_474 : decode code 474 = .ok (.iload_n 3, 1) := by decide +kernel
theorem d_Law_475 : decode code 475 = .ok (.iconst 1, 1) := by decide +kernel
theorem d_Law_476 : decode code 476 = .ok (.iadd, 1) := by decide +kernel
theorem d_Law_477 : decode code 477 = .ok (.iaload, 1) := by decide +kernel
theorem d_Law_478 : decode code 478 = .ok (.aload_n 0, 1) := by decide +kernel
theorem d_Law_479 : decode code 479 = .ok (.iload_n 3, 1) := by decide +kernel
theorem d_Law_480 : decode code 480 = .ok (.iconst 2, 1) := by decide +kernel
theorem d_Law_481 : decode code 481 = .ok (.iadd, 1) := by decide +kernel
theorem d_Law_482 : decode code 482 = .ok (.iaload, 1) := by decide +kernel
theorem d_Law_483 : decode code 483 = .ok (.aload_n 0, 1) := by decide +kernel
theorem d_Law_484 : decode code 484 = .ok (.iload_n 3, 1) := by decide +kernel
theorem d_Law_485 : decode code 485 = .ok (.iconst 3, 1) := by decide +kernel
theorem d_Law_486 : decode code 486 = .ok (.iadd, 1) := by decide +kernel
theorem d_Law_487 : decode code 487 = .ok (.iaload, 1) := by decide +kernel
theorem d_Law_488 : decode code 488 = .ok (.aload_n 0, 1) := by decide +kernel
theorem d_Law_489 : decode code 489 = .ok (.iload_n 3, 1) := by decide +kernel
theorem d_Law_490 : decode code 490 = .ok (.iconst 4, 1) := by decide +kernel
theorem d_Law_491 : decode code 491 = .ok (.iadd, 1) := by decide +kernel
theorem d_Law_492 : decode code 492 = .ok (.iaload, 1) := by decide +kernel
theorem d_Law_493 : decode code 493 = .ok (.aload_n 0, 1) := by decide +kernel
theorem d_Law_494 : decode code 494 = .ok (.iload_n 3, 1) := by decide +kernel
theorem d_Law_495 : decode code 495 = .ok (.iconst 5, 1) := by decide +kernel
theorem d_Law_496 : decode code 496 = .ok (.iadd, 1) := by decide +kernel
theorem d_Law_497 : decode code 497 = .ok (.iaload, 1) := by decide +kernel
theorem d_Law_498 : decode code 498 = .ok (.invokevirtual 48, 3) := by decide +kernel
theorem d_Law_501 : decode code 501 = .ok (.if_icmp .eq 1279, 3) := by decide +kernel
theorem d_Law_504 : decode code 504 = .ok (.iconst 0, 1) := by decide +kernel
theorem d_Law_505 : decode code 505 = .ok (.ireturn, 1) := by decide +kernel
theorem d_Law_506 : decode code 506 = .ok (.aload_n 1, 1) := by decide +kernel
theorem d_Law_507 : decode code 507 = .ok (.aload_n 0, 1) := by decide +kernel
theorem d_Law_508 : decode code 508 = .ok (.iload_n 3, 1) := by decide +kernel
theorem d_Law_509 : decode code 509 = .ok (.iconst 1, 1) := by decide +kernel
theorem d_Law_510 : decode code 510 = .ok (.iadd, 1) := by decide +kernel
theorem d_Law_511 : decode code 511 = .ok (.iaload, 1) := by decide +kernel
theorem d_Law_512 : decode code 512 = .ok (.aload_n 0, 1) := by decide +kernel
theorem d_Law_513 : decode code 513 = .ok (.iload_n 3, 1) := by decide +kernel
theorem d_Law_514 : decode code 514 = .ok (.iconst 2, 1) := by decide +kernel
theorem d_Law_515 : decode code 515 = .ok (.iadd, 1) := by decide +kernel
theorem d_Law_516 : decode code 516 = .ok (.iaload, 1) := by decide +kernel
theorem d_Law_517 : decode code 517 = .ok (.aload_n 0, 1) := by decide +kernel
theorem d_Law_518 : decode code 518 = .ok (.iload_n 3, 1) := by decide +kernel
theorem d_Law_519 : decode code 519 = .ok (.iconst 3, 1) := by decide +kernel
theorem d_Law_520 : decode code 520 = .ok (.iadd, 1) := by decide +kernel
theorem d_Law_521 : decode code 521 = .ok (.iaload, 1) := by decide +kernel
theorem d_Law_522 : decode code 522 = .ok (.aload_n 0, 1) := by decide +kernel
theorem d_Law_523 : decode code 523 = .ok (.iload_n 3, 1) := by decide +kernel
theorem d_Law_524 : decode code 524 = .ok (.iconst 4, 1) := by decide +kernel
theorem d_Law_525 : decode code 525 = .ok (.iadd, 1) := by decide +kernel
theorem d_Law_526 : decode code 526 = .ok (.iaload, 1) := by decide +kernel
theorem d_Law_527 : decode code 527 = .ok (.aload_n 0, 1) := by decide +kernel
theorem d_Law_528 : decode code 528 = .ok (.iload_n 3, 1) := by decide +kernel
theorem d_Law_529 : decode code 529 = .ok (.iconst 5, 1) := by decide +kernel
theorem d_Law_530 : decode code 530 = .ok (.iadd, 1) := by decide +kernel
theorem d_Law_531 : decode code 531 = .ok (.iaload, 1) := by decide +kernel
theorem d_Law_532 : decode code 532 = .ok (.invokevirtual 49, 3) := by decide +kernel
theorem d_Law_535 : decode code 535 = .ok (.aload_n 2, 1) := by decide +kernel
theorem d_Law_536 : decode code 536 = .ok (.aload_n 0, 1) := by decide +kernel
theorem d_Law_537 : decode code 537 = .ok (.iload_n 3, 1) := by decide +kernel
theorem d_Law_538 : decode code 538 = .ok (.iconst 1, 1) := by decide +kernel
theorem d_Law_539 : decode code 539 = .ok (.iadd, 1) := by decide +kernel
theorem d_Law_540 : decode code 540 = .ok (.iaload, 1) := by decide +kernel
theorem d_Law_541 : decode code 541 = .ok (.aload_n 0, 1) := by decide +kernel
theorem d_Law_542 : decode code 542 = .ok (.iload_n 3, 1) := by decide +kernel
theorem d_Law_543 : decode code 543 = .ok (.iconst 2, 1) := by decide +kernel
theorem d_Law_544 : decode code 544 = .ok (.iadd, 1) := by decide +kernel
theorem d_Law_545 : decode code 545 = .ok (.iaload, 1) := by decide +kernel
theorem d_Law_546 : decode code 546 = .ok (.aload_n 0, 1) := by decide +kernel
theorem d_Law_547 : decode code 547 = .ok (.iload_n 3, 1) := by decide +kernel
theorem d_Law_548 : decode code 548 = .ok (.iconst 3, 1) := by decide +kernel
theorem d_Law_549 : decode code 549 = .ok (.iadd, 1) := by decide +kernel
theorem d_Law_550 : decode code 550 = .ok (.iaload, 1) := by decide +kernel
theorem d_Law_551 : decode code 551 = .ok (.aload_n 0, 1) := by decide +kernel
theorem d_Law_552 : decode code 552 = .ok (.iload_n 3, 1) := by decide +kernel
theorem d_Law_553 : decode code 553 = .ok (.iconst 4, 1) := by decide +kernel
theorem d_Law_554 : decode code 554 = .ok (.iadd, 1) := by decide +kernel
theorem d_Law_555 : decode code 555 = .ok (.iaload, 1) := by decide +kernel
theorem d_Law_556 : decode code 556 = .ok (.aload_n 0, 1) := by decide +kernel
theorem d_Law_557 : decode code 557 = .ok (.iload_n 3, 1) := by decide +kernel
theorem d_Law_558 : decode code 558 = .ok (.iconst 5, 1) := by decide +kernel
theorem d_Law_559 : decode code 559 = .ok (.iadd, 1) := by decide +kernel
theorem d_Law_560 : decode code 560 = .ok (.iaload, 1) := by decide +kernel
theorem d_Law_561 : decode code 561 = .ok (.invokevirtual 53, 3) := by decide +kernel
theorem d_Law_564 : decode code 564 = .ok (.if_icmp .eq 1216, 3) := by decide +kernel
theorem d_Law_567 : decode code 567 = .ok (.iconst 0, 1) := by decide +kernel
theorem d_Law_568 : decode code 568 = .ok (.ireturn, 1) := by decide +kernel
theorem d_Law_569 : decode code 569 = .ok (.aload_n 1, 1) := by decide +kernel
theorem d_Law_570 : decode code 570 = .ok (.aload_n 0, 1) := by decide +kernel
theorem d_Law_571 : decode code 571 = .ok (.iload_n 3, 1) := by decide +kernel
theorem d_Law_572 : decode code 572 = .ok (.iconst 1, 1) := by decide +kernel
theorem d_Law_573 : decode code 573 = .ok (.iadd, 1) := by decide +kernel
theorem d_Law_574 : decode code 574 = .ok (.iaload, 1) := by decide +kernel
theorem d_Law_575 : decode code 575 = .ok (.invokevirtual 54, 3) := by decide +kernel
theorem d_Law_578 : decode code 578 = .ok (.aload_n 2, 1) := by decide +kernel
theorem d_Law_579 : decode code 579 = .ok (.aload_n 0, 1) := by decide +kernel
theorem d_Law_580 : decode code 580 = .ok (.iload_n 3, 1) := by decide +kernel
theorem d_Law_581 : decode code 581 = .ok (.iconst 1, 1) := by decide +kernel
theorem d_Law_582 : decode code 582 = .ok (.iadd, 1) := by decide +kernel
theorem d_Law_583 : decode code 583 = .ok (.iaload, 1) := by decide +kernel
theorem d_Law_584 : decode code 584 = .ok (.invokevirtual 58, 3) := by decide +kernel
theorem d_Law_587 : decode code 587 = .ok (.if_icmp .eq 1193, 3) := by decide +kernel
theorem d_Law_590 : decode code 590 = .ok (.iconst 0, 1) := by decide +kernel
theorem d_Law_591 : decode code 591 = .ok (.ireturn, 1) := by decide +kernel
theorem d_Law_592 : decode code 592 = .ok (.aload_n 1, 1) := by decide +kernel
theorem d_Law_593 : decode code 593 = .ok (.aload_n 0, 1) := by decide +kernel
theorem d_Law_594 : decode code 594 = .ok (.iload_n 3, 1) := by decide +kernel
theorem d_Law_595 : decode code 595 = .ok (.iconst 1, 1) := by decide +kernel
theorem d_Law_596 : decode code 596 = .ok (.iadd, 1) := by decide +kernel
theorem d_Law_597 : decode code 597 = .ok (.iaload, 1) := by decide +kernel
theorem d_Law_598 : decode code 598 = .ok (.invokevirtual 59, 3) := by decide +kernel
theorem d_Law_601 : decode code 601 = .ok (.aload_n 2, 1) := by decide +kernel
theorem d_Law_602 : decode code 602 = .ok (.aload_n 0, 1) := by decide +kernel
theorem d_Law_603 : decode code 603 = .ok (.iload_n 3, 1) := by decide +kernel
theorem d_Law_604 : decode code 604 = .ok (.iconst 1, 1) := by decide +kernel
theorem d_Law_605 : decode code 605 = .ok (.iadd, 1) := by decide +kernel
theorem d_Law_606 : decode code 606 = .ok (.iaload, 1) := by decide +kernel
theorem d_Law_607 : decode code 607 = .ok (.invokevirtual 62, 3) := by decide +kernel
theorem d_Law_610 : decode code 610 = .ok (.if_icmp .eq 1170, 3) := by decide +kernel
theorem d_Law_613 : decode code 613 = .ok (.iconst 0, 1) := by decide +kernel
theorem d_Law_614 : decode code 614 = .ok (.ireturn, 1) := by decide +kernel
theorem d_Law_615 : decode code 615 = .ok (.aload_n 1, 1) := by decide +kernel
theorem d_Law_616 : decode code 616 = .ok (.aload_n 0, 1) := by decide +kernel
theorem d_Law_617 : decode code 617 = .ok (.iload_n 3, 1) := by decide +kernel
theorem d_Law_618 : decode code 618 = .ok (.iconst 1, 1) := by decide +kernel
theorem d_Law_619 : decode code 619 = .ok (.iadd, 1) := by decide +kernel
theorem d_Law_620 : decode code 620 = .ok (.iaload, 1) := by decide +kernel
theorem d_Law_621 : decode code 621 = .ok (.invokevirtual 63, 3) := by decide +kernel
theorem d_Law_624 : decode code 624 = .ok (.aload_n 2, 1) := by decide +kernel
theorem d_Law_625 : decode code 625 = .ok (.aload_n 0, 1) := by decide +kernel
theorem d_Law_626 : decode code 626 = .ok (.iload_n 3, 1) := by decide +kernel
theorem d_Law_627 : decode code 627 = .ok (.iconst 1, 1) := by decide +kernel
theorem d_Law_628 : decode code 628 = .ok (.iadd, 1) := by decide +kernel
theorem d_Law_629 : decode code 629 = .ok (.iaload, 1) := by decide +kernel
theorem d_Law_630 : decode code 630 = .ok (.invokevirtual 66, 3) := by decide +kernel
theorem d_Law_633 : decode code 633 = .ok (.if_icmp .eq 1147, 3) := by decide +kernel
theorem d_Law_636 : decode code 636 = .ok (.iconst 0, 1) := by decide +kernel
theorem d_Law_637 : decode code 637 = .ok (.ireturn, 1) := by decide +kernel
theorem d_Law_638 : decode code 638 = .ok (.aload_n 1, 1) := by decide +kernel
theorem d_Law_639 : decode code 639 = .ok (.aload_n 0, 1) := by decide +kernel
theorem d_Law_640 : decode code 640 = .ok (.iload_n 3, 1) := by decide +kernel
theorem d_Law_641 : decode code 641 = .ok (.iconst 1, 1) := by decide +kernel
theorem d_Law_642 : decode code 642 = .ok (.iadd, 1) := by decide +kernel
theorem d_Law_643 : decode code 643 = .ok (.iaload, 1) := by decide +kernel
theorem d_Law_644 : decode code 644 = .ok (.invokevirtual 67, 3) := by decide +kernel
theorem d_Law_647 : decode code 647 = .ok (.aload_n 2, 1) := by decide +kernel
theorem d_Law_648 : decode code 648 = .ok (.aload_n 0, 1) := by decide +kernel
theorem d_Law_649 : decode code 649 = .ok (.iload_n 3, 1) := by decide +kernel
theorem d_Law_650 : decode code 650 = .ok (.iconst 1, 1) := by decide +kernel
theorem d_Law_651 : decode code 651 = .ok (.iadd, 1) := by decide +kernel
theorem d_Law_652 : decode code 652 = .ok (.iaload, 1) := by decide +kernel
theorem d_Law_653 : decode code 653 = .ok (.invokevirtual 70, 3) := by decide +kernel
theorem d_Law_656 : decode code 656 = .ok (.if_icmp .eq 1124, 3) := by decide +kernel
theorem d_Law_659 : decode code 659 = .ok (.iconst 0, 1) := by decide +kernel
theorem d_Law_660 : decode code 660 = .ok (.ireturn, 1) := by decide +kernel
theorem d_Law_661 : decode code 661 = .ok (.aload_n 1, 1) := by decide +kernel
theorem d_Law_662 : decode code 662 = .ok (.aload_n 0, 1) := by decide +kernel
theorem d_Law_663 : decode code 663 = .ok (.iload_n 3, 1) := by decide +kernel
theorem d_Law_664 : decode code 664 = .ok (.iconst 1, 1) := by decide +kernel
theorem d_Law_665 : decode code 665 = .ok (.iadd, 1) := by decide +kernel
theorem d_Law_666 : decode code 666 = .ok (.iaload, 1) := by decide +kernel
theorem d_Law_667 : decode code 667 = .ok (.invokevirtual 71, 3) := by decide +kernel
theorem d_Law_670 : decode code 670 = .ok (.aload_n 2, 1) := by decide +kernel
theorem d_Law_671 : decode code 671 = .ok (.aload_n 0, 1) := by decide +kernel
theorem d_Law_672 : decode code 672 = .ok (.iload_n 3, 1) := by decide +kernel
theorem d_Law_673 : decode code 673 = .ok (.iconst 1, 1) := by decide +kernel
theorem d_Law_674 : decode code 674 = .ok (.iadd, 1) := by decide +kernel
theorem d_Law_675 : decode code 675 = .ok (.iaload, 1) := by decide +kernel
theorem d_Law_676 : decode code 676 = .ok (.invokevirtual 74, 3) := by decide +kernel
theorem d_Law_679 : decode code 679 = .ok (.if_icmp .eq 1101, 3) := by decide +kernel
theorem d_Law_682 : decode code 682 = .ok (.iconst 0, 1) := by decide +kernel
theorem d_Law_683 : decode code 683 = .ok (.ireturn, 1) := by decide +kernel
theorem d_Law_684 : decode code 684 = .ok (.aload_n 1, 1) := by decide +kernel
theorem d_Law_685 : decode code 685 = .ok (.aload_n 0, 1) := by decide +kernel
theorem d_Law_686 : decode code 686 = .ok (.iload_n 3, 1) := by decide +kernel
theorem d_Law_687 : decode code 687 = .ok (.iconst 1, 1) := by decide +kernel
theorem d_Law_688 : decode code 688 = .ok (.iadd, 1) := by decide +kernel
theorem d_Law_689 : decode code 689 = .ok (.iaload, 1) := by decide +kernel
theorem d_Law_690 : decode code 690 = .ok (.aload_n 0, 1) := by decide +kernel
theorem d_Law_691 : decode code 691 = .ok (.iload_n 3, 1) := by decide +kernel
theorem d_Law_692 : decode code 692 = .ok (.iconst 2, 1) := by decide +kernel
theorem d_Law_693 : decode code 693 = .ok (.iadd, 1) := by decide +kernel
theorem d_Law_694 : decode code 694 = .ok (.iaload, 1) := by decide +kernel
theorem d_Law_695 : decode code 695 = .ok (.invokevirtual 75, 3) := by decide +kernel
theorem d_Law_698 : decode code 698 = .ok (.aload_n 2, 1) := by decide +kernel
theorem d_Law_699 : decode code 699 = .ok (.aload_n 0, 1) := by decide +kernel
theorem d_Law_700 : decode code 700 = .ok (.iload_n 3, 1) := by decide +kernel
theorem d_Law_701 : decode code 701 = .ok (.iconst 1, 1) := by decide +kernel
theorem d_Law_702 : decode code 702 = .ok (.iadd, 1) := by decide +kernel
theorem d_Law_703 : decode code 703 = .ok (.iaload, 1) := by decide +kernel
theorem d_Law_704 : decode code 704 = .ok (.aload_n 0, 1) := by decide +kernel
theorem d_Law_705 : decode code 705 = .ok (.iload_n 3, 1) := by decide +kernel
theorem d_Law_706 : decode code 706 = .ok (.iconst 2, 1) := by decide +kernel
theorem d_Law_707 : decode code 707 = .ok (.iadd, 1) := by decide +kernel
theorem d_Law_708 : decode code 708 = .ok (.iaload, 1) := by decide +kernel
theorem d_Law_709 : decode code 709 = .ok (.invokevirtual 79, 3) := by decide +kernel
theorem d_Law_712 : decode code 712 = .ok (.if_icmp .eq 1068, 3) := by decide +kernel
theorem d_Law_715 : decode code 715 = .ok (.iconst 0, 1) := by decide +kernel
theorem d_Law_716 : decode code 716 = .ok (.ireturn, 1) := by decide +kernel
theorem d_Law_717 : decode code 717 = .ok (.aload_n 1, 1) := by decide +kernel
theorem d_Law_718 : decode code 718 = .ok (.aload_n 0, 1) := by decide +kernel
theorem d_Law_719 : decode code 719 = .ok (.iload_n 3, 1) := by decide +kernel
theorem d_Law_720 : decode code 720 = .ok (.iconst 1, 1) := by decide +kernel
theorem d_Law_721 : decode code 721 = .ok (.iadd, 1) := by decide +kernel
theorem d_Law_722 : decode code 722 = .ok (.iaload, 1) := by decide +kernel
theorem d_Law_723 : decode code 723 = .ok (.aload_n 0, 1) := by decide +kernel
theorem d_Law_724 : decode code 724 = .ok (.iload_n 3, 1) := by decide +kernel
theorem d_Law_725 : decode code 725 = .ok (.iconst 2, 1) := by decide +kernel
theorem d_Law_726 : decode code 726 = .ok (.iadd, 1) := by decide +kernel
theorem d_Law_727 : decode code 727 = .ok (.iaload, 1) := by decide +kernel
theorem d_Law_728 : decode code 728 = .ok (.invokevirtual 80, 3) := by decide +kernel
theorem d_Law_731 : decode code 731 = .ok (.aload_n 2, 1) := by decide +kernel
theorem d_Law_732 : decode code 732 = .ok (.aload_n 0, 1) := by decide +kernel
theorem d_Law_733 : decode code 733 = .ok (.iload_n 3, 1) := by decide +kernel
theorem d_Law_734 : decode code 734 = .ok (.iconst 1, 1) := by decide +kernel
theorem d_Law_735 : decode code 735 = .ok (.iadd, 1) := by decide +kernel
theorem d_Law_736 : decode code 736 = .ok (.iaload, 1) := by decide +kernel
theorem d_Law_737 : decode code 737 = .ok (.aload_n 0, 1) := by decide +kernel
theorem d_Law_738 : decode code 738 = .ok (.iload_n 3, 1) := by decide +kernel
theorem d_Law_739 : decode code 739 = .ok (.iconst 2, 1) := by decide +kernel
theorem d_Law_740 : decode code 740 = .ok (.iadd, 1) := by decide +kernel
theorem d_Law_741 : decode code 741 = .ok (.iaload, 1) := by decide +kernel
theorem d_Law_742 : decode code 742 = .ok (.invokevirtual 83, 3) := by decide +kernel
theorem d_Law_745 : decode code 745 = .ok (.if_icmp .eq 1035, 3) := by decide +kernel
theorem d_Law_748 : decode code 748 = .ok (.iconst 0, 1) := by decide +kernel
theorem d_Law_749 : decode code 749 = .ok (.ireturn, 1) := by decide +kernel
theorem d_Law_750 : decode code 750 = .ok (.aload_n 1, 1) := by decide +kernel
theorem d_Law_751 : decode code 751 = .ok (.aload_n 0, 1) := by decide +kernel
theorem d_Law_752 : decode code 752 = .ok (.iload_n 3, 1) := by decide +kernel
theorem d_Law_753 : decode code 753 = .ok (.iconst 1, 1) := by decide +kernel
theorem d_Law_754 : decode code 754 = .ok (.iadd, 1) := by decide +kernel
theorem d_Law_755 : decode code 755 = .ok (.iaload, 1) := by decide +kernel
theorem d_Law_756 : decode code 756 = .ok (.invokevirtual 84, 3) := by decide +kernel
theorem d_Law_759 : decode code 759 = .ok (.aload_n 2, 1) := by decide +kernel
theorem d_Law_760 : decode code 760 = .ok (.aload_n 0, 1) := by decide +kernel
theorem d_Law_761 : decode code 761 = .ok (.iload_n 3, 1) := by decide +kernel
theorem d_Law_762 : decode code 762 = .ok (.iconst 1, 1) := by decide +kernel
theorem d_Law_763 : decode code 763 = .ok (.iadd, 1) := by decide +kernel
theorem d_Law_764 : decode code 764 = .ok (.iaload, 1) := by decide +kernel
theorem d_Law_765 : decode code 765 = .ok (.invokevirtual 87, 3) := by decide +kernel
theorem d_Law_768 : decode code 768 = .ok (.if_icmp .eq 1012, 3) := by decide +kernel
theorem d_Law_771 : decode code 771 = .ok (.iconst 0, 1) := by decide +kernel
theorem d_Law_772 : decode code 772 = .ok (.ireturn, 1) := by decide +kernel
theorem d_Law_773 : decode code 773 = .ok (.aload_n 1, 1) := by decide +kernel
theorem d_Law_774 : decode code 774 = .ok (.aload_n 0, 1) := by decide +kernel
theorem d_Law_775 : decode code 775 = .ok (.iload_n 3, 1) := by decide +kernel
theorem d_Law_776 : decode code 776 = .ok (.iconst 1, 1) := by decide +kernel
theorem d_Law_777 : decode code 777 = .ok (.iadd, 1) := by decide +kernel
theorem d_Law_778 : decode code 778 = .ok (.iaload, 1) := by decide +kernel
theorem d_Law_779 : decode code 779 = .ok (.aload_n 0, 1) := by decide +kernel
theorem d_Law_780 : decode code 780 = .ok (.iload_n 3, 1) := by decide +kernel
theorem d_Law_781 : decode code 781 = .ok (.iconst 2, 1) := by decide +kernel
theorem d_Law_782 : decode code 782 = .ok (.iadd, 1) := by decide +kernel
theorem d_Law_783 : decode code 783 = .ok (.iaload, 1) := by decide +kernel
theorem d_Law_784 : decode code 784 = .ok (.invokevirtual 88, 3) := by decide +kernel
theorem d_Law_787 : decode code 787 = .ok (.aload_n 2, 1) := by decide +kernel
theorem d_Law_788 : decode code 788 = .ok (.aload_n 0, 1) := by decide +kernel
theorem d_Law_789 : decode code 789 = .ok (.iload_n 3, 1) := by decide +kernel
theorem d_Law_790 : decode code 790 = .ok (.iconst 1, 1) := by decide +kernel
theorem d_Law_791 : decode code 791 = .ok (.iadd, 1) := by decide +kernel
theorem d_Law_792 : decode code 792 = .ok (.iaload, 1) := by decide +kernel
theorem d_Law_793 : decode code 793 = .ok (.aload_n 0, 1) := by decide +kernel
theorem d_Law_794 : decode code 794 = .ok (.iload_n 3, 1) := by decide +kernel
theorem d_Law_795 : decode code 795 = .ok (.iconst 2, 1) := by decide +kernel
theorem d_Law_796 : decode code 796 = .ok (.iadd, 1) := by decide +kernel
theorem d_Law_797 : decode code 797 = .ok (.iaload, 1) := by decide +kernel
theorem d_Law_798 : decode code 798 = .ok (.invokevirtual 91, 3) := by decide +kernel
theorem d_Law_801 : decode code 801 = .ok (.if_icmp .eq 979, 3) := by decide +kernel
theorem d_Law_804 : decode code 804 = .ok (.iconst 0, 1) := by decide +kernel
theorem d_Law_805 : decode code 805 = .ok (.ireturn, 1) := by decide +kernel
theorem d_Law_806 : decode code 806 = .ok (.aload_n 1, 1) := by decide +kernel
theorem d_Law_807 : decode code 807 = .ok (.aload_n 0, 1) := by decide +kernel
theorem d_Law_808 : decode code 808 = .ok (.iload_n 3, 1) := by decide +kernel
theorem d_Law_809 : decode code 809 = .ok (.iconst 1, 1) := by decide +kernel
theorem d_Law_810 : decode code 810 = .ok (.iadd, 1) := by decide +kernel
theorem d_Law_811 : decode code 811 = .ok (.iaload, 1) := by decide +kernel
theorem d_Law_812 : decode code 812 = .ok (.invokevirtual 92, 3) := by decide +kernel
theorem d_Law_815 : decode code 815 = .ok (.aload_n 2, 1) := by decide +kernel
theorem d_Law_816 : decode code 816 = .ok (.aload_n 0, 1) := by decide +kernel
theorem d_Law_817 : decode code 817 = .ok (.iload_n 3, 1) := by decide +kernel
theorem d_Law_818 : decode code 818 = .ok (.iconst 1, 1) := by decide +kernel
theorem d_Law_819 : decode code 819 = .ok (.iadd, 1) := by decide +kernel
theorem d_Law_820 : decode code 820 = .ok (.iaload, 1) := by decide +kernel
theorem d_Law_821 : decode code 821 = .ok (.invokevirtual 95, 3) := by decide +kernel
theorem d_Law_824 : decode code 824 = .ok (.if_icmp .eq 956, 3) := by decide +kernel
theorem d_Law_827 : decode code 827 = .ok (.iconst 0, 1) := by decide +kernel
theorem d_Law_828 : decode code 828 = .ok (.ireturn, 1) := by decide +kernel
theorem d_Law_829 : decode code 829 = .ok (.aload_n 1, 1) := by decide +kernel
theorem d_Law_830 : decode code 830 = .ok (.aload_n 0, 1) := by decide +kernel
theorem d_Law_831 : decode code 831 = .ok (.iload_n 3, 1) := by decide +kernel
theorem d_Law_832 : decode code 832 = .ok (.iconst 1, 1) := by decide +kernel
theorem d_Law_833 : decode code 833 = .ok (.iadd, 1) := by decide +kernel
theorem d_Law_834 : decode code 834 = .ok (.iaload, 1) := by decide +kernel
theorem d_Law_835 : decode code 835 = .ok (.aload_n 0, 1) := by decide +kernel
theorem d_Law_836 : decode code 836 = .ok (.iload_n 3, 1) := by decide +kernel
theorem d_Law_837 : decode code 837 = .ok (.iconst 2, 1) := by decide +kernel
theorem d_Law_838 : decode code 838 = .ok (.iadd, 1) := by decide +kernel
theorem d_Law_839 : decode code 839 = .ok (.iaload, 1) := by decide +kernel
theorem d_Law_840 : decode code 840 = .ok (.invokevirtual 96, 3) := by decide +kernel
theorem d_Law_843 : decode code 843 = .ok (.aload_n 2, 1) := by decide +kernel
theorem d_Law_844 : decode code 844 = .ok (.aload_n 0, 1) := by decide +kernel
theorem d_Law_845 : decode code 845 = .ok (.iload_n 3, 1) := by decide +kernel
theorem d_Law_846 : decode code 846 = .ok (.iconst 1, 1) := by decide +kernel
theorem d_Law_847 : decode code 847 = .ok (.iadd, 1) := by decide +kernel
theorem d_Law_848 : decode code 848 = .ok (.iaload, 1) := by decide +kernel
theorem d_Law_849 : decode code 849 = .ok (.aload_n 0, 1) := by decide +kernel
theorem d_Law_850 : decode code 850 = .ok (.iload_n 3, 1) := by decide +kernel
theorem d_Law_851 : decode code 851 = .ok (.iconst 2, 1) := by decide +kernel
theorem d_Law_852 : decode code 852 = .ok (.iadd, 1) := by decide +kernel
theorem d_Law_853 : decode code 853 = .ok (.iaload, 1) := by decide +kernel
theorem d_Law_854 : decode code 854 = .ok (.invokevirtual 100, 3) := by decide +kernel
theorem d_Law_857 : decode code 857 = .ok (.if_icmp .eq 923, 3) := by decide +kernel
theorem d_Law_860 : decode code 860 = .ok (.iconst 0, 1) := by decide +kernel
theorem d_Law_861 : decode code 861 = .ok (.ireturn, 1) := by decide +kernel
theorem d_Law_862 : decode code 862 = .ok (.aload_n 1, 1) := by decide +kernel
theorem d_Law_863 : decode code 863 = .ok (.aload_n 0, 1) := by decide +kernel
theorem d_Law_864 : decode code 864 = .ok (.iload_n 3, 1) := by decide +kernel
theorem d_Law_865 : decode code 865 = .ok (.iconst 1, 1) := by decide +kernel
theorem d_Law_866 : decode code 866 = .ok (.iadd, 1) := by decide +kernel
theorem d_Law_867 : decode code 867 = .ok (.iaload, 1) := by decide +kernel
theorem d_Law_868 : decode code 868 = .ok (.invokevirtual 101, 3) := by decide +kernel
theorem d_Law_871 : decode code 871 = .ok (.aload_n 2, 1) := by decide +kernel
theorem d_Law_872 : decode code 872 = .ok (.aload_n 0, 1) := by decide +kernel
theorem d_Law_873 : decode code 873 = .ok (.iload_n 3, 1) := by decide +kernel
theorem d_Law_874 : decode code 874 = .ok (.iconst 1, 1) := by decide +kernel
theorem d_Law_875 : decode code 875 = .ok (.iadd, 1) := by decide +kernel
theorem d_Law_876 : decode code 876 = .ok (.iaload, 1) := by decide +kernel
theorem d_Law_877 : decode code 877 = .ok (.invokevirtual 104, 3) := by decide +kernel
theorem d_Law_880 : decode code 880 = .ok (.if_icmp .eq 900, 3) := by decide +kernel
theorem d_Law_883 : decode code 883 = .ok (.iconst 0, 1) := by decide +kernel
theorem d_Law_884 : decode code 884 = .ok (.ireturn, 1) := by decide +kernel
theorem d_Law_885 : decode code 885 = .ok (.aload_n 1, 1) := by decide +kernel
theorem d_Law_886 : decode code 886 = .ok (.aload_n 0, 1) := by decide +kernel
theorem d_Law_887 : decode code 887 = .ok (.iload_n 3, 1) := by decide +kernel
theorem d_Law_888 : decode code 888 = .ok (.iconst 1, 1) := by decide +kernel
theorem d_Law_889 : decode code 889 = .ok (.iadd, 1) := by decide +kernel
theorem d_Law_890 : decode code 890 = .ok (.iaload, 1) := by decide +kernel
theorem d_Law_891 : decode code 891 = .ok (.aload_n 0, 1) := by decide +kernel
theorem d_Law_892 : decode code 892 = .ok (.iload_n 3, 1) := by decide +kernel
theorem d_Law_893 : decode code 893 = .ok (.iconst 2, 1) := by decide +kernel
theorem d_Law_894 : decode code 894 = .ok (.iadd, 1) := by decide +kernel
theorem d_Law_895 : decode code 895 = .ok (.iaload, 1) := by decide +kernel
theorem d_Law_896 : decode code 896 = .ok (.aload_n 0, 1) := by decide +kernel
theorem d_Law_897 : decode code 897 = .ok (.iload_n 3, 1) := by decide +kernel
theorem d_Law_898 : decode code 898 = .ok (.iconst 3, 1) := by decide +kernel
theorem d_Law_899 : decode code 899 = .ok (.iadd, 1) := by decide +kernel
theorem d_Law_900 : decode code 900 = .ok (.iaload, 1) := by decide +kernel
theorem d_Law_901 : decode code 901 = .ok (.ifCond .eq 7, 3) := by decide +kernel
theorem d_Law_904 : decode code 904 = .ok (.iconst 1, 1) := by decide +kernel
theorem d_Law_905 : decode code 905 = .ok (.goto 4, 3) := by decide +kernel
theorem d_Law_908 : decode code 908 = .ok (.iconst 0, 1) := by decide +kernel
theorem d_Law_909 : decode code 909 = .ok (.invokevirtual 105, 3) := by decide +kernel
theorem d_Law_912 : decode code 912 = .ok (.aload_n 2, 1) := by decide +kernel
theorem d_Law_913 : decode code 913 = .ok (.aload_n 0, 1) := by decide +kernel
theorem d_Law_914 : decode code 914 = .ok (.iload_n 3, 1) := by decide +kernel
theorem d_Law_915 : decode code 915 = .ok (.iconst 1, 1) := by decide +kernel
theorem d_Law_916 : decode code 916 = .ok (.iadd, 1) := by decide +kernel
theorem d_Law_917 : decode code 917 = .ok (.iaload, 1) := by decide +kernel
theorem d_Law_918 : decode code 918 = .ok (.aload_n 0, 1) := by decide +kernel
theorem d_Law_919 : decode code 919 = .ok (.iload_n 3, 1) := by decide +kernel
theorem d_Law_920 : decode code 920 = .ok (.iconst 2, 1) := by decide +kernel
theorem d_Law_921 : decode code 921 = .ok (.iadd, 1) := by decide +kernel
theorem d_Law_922 : decode code 922 = .ok (.iaload, 1) := by decide +kernel
theorem d_Law_923 : decode code 923 = .ok (.aload_n 0, 1) := by decide +kernel
theorem d_Law_924 : decode code 924 = .ok (.iload_n 3, 1) := by decide +kernel
theorem d_Law_925 : decode code 925 = .ok (.iconst 3, 1) := by decide +kernel
theorem d_Law_926 : decode code 926 = .ok (.iadd, 1) := by decide +kernel
theorem d_Law_927 : decode code 927 = .ok (.iaload, 1) := by decide +kernel
theorem d_Law_928 : decode code 928 = .ok (.ifCond .eq 7, 3) := by decide +kernel
theorem d_Law_931 : decode code 931 = .ok (.iconst 1, 1) := by decide +kernel
theorem d_Law_932 : decode code 932 = .ok (.goto 4, 3) := by decide +kernel
theorem d_Law_935 : decode code 935 = .ok (.iconst 0, 1) := by decide +kernel
theorem d_Law_936 : decode code 936 = .ok (.invokevirtual 109, 3) := by decide +kernel
theorem d_Law_939 : decode code 939 = .ok (.if_icmp .eq 841, 3) := by decide +kernel
theorem d_Law_942 : decode code 942 = .ok (.iconst 0, 1) := by decide +kernel
theorem d_Law_943 : decode code 943 = .ok (.ireturn, 1) := by decide +kernel
theorem d_Law_944 : decode code 944 = .ok (.aload_n 1, 1) := by decide +kernel
theorem d_Law_945 : decode code 945 = .ok (.aload_n 0, 1) := by decide +kernel
theorem d_Law_946 : decode code 946 = .ok (.iload_n 3, 1) := by decide +kernel
theorem d_Law_947 : decode code 947 = .ok (.iconst 1, 1) := by decide +kernel
theorem d_Law_948 : decode code 948 = .ok (.iadd, 1) := by decide +kernel
theorem d_Law_949 : decode code 949 = .ok (.iaload, 1) := by decide +kernel
theorem d_Law_950 : decode code 950 = .ok (.aload_n 0, 1) := by decide +kernel
theorem d_Law_951 : decode code 951 = .ok (.iload_n 3, 1) := by decide +kernel
theorem d_Law_952 : decode code 952 = .ok (.iconst 2, 1) := by decide +kernel
theorem d_Law_953 : decode code 953 = .ok (.iadd, 1) := by decide +kernel
theorem d_Law_954 : decode code 954 = .ok (.iaload, 1) := by decide +kernel
theorem d_Law_955 : decode code 955 = .ok (.aload_n 0, 1) := by decide +kernel
theorem d_Law_956 : decode code 956 = .ok (.iload_n 3, 1) := by decide +kernel
theorem d_Law_957 : decode code 957 = .ok (.iconst 3, 1) := by decide +kernel
theorem d_Law_958 : decode code 958 = .ok (.iadd, 1) := by decide +kernel
theorem d_Law_959 : decode code 959 = .ok (.iaload, 1) := by decide +kernel
theorem d_Law_960 : decode code 960 = .ok (.ifCond .eq 7, 3) := by decide +kernel
theorem d_Law_963 : decode code 963 = .ok (.iconst 1, 1) := by decide +kernel
theorem d_Law_964 : decode code 964 = .ok (.goto 4, 3) := by decide +kernel
theorem d_Law_967 : decode code 967 = .ok (.iconst 0, 1) := by decide +kernel
theorem d_Law_968 : decode code 968 = .ok (.invokevirtual 110, 3) := by decide +kernel
theorem d_Law_971 : decode code 971 = .ok (.aload_n 2, 1) := by decide +kernel
theorem d_Law_972 : decode code 972 = .ok (.aload_n 0, 1) := by decide +kernel
theorem d_Law_973 : decode code 973 = .ok (.iload_n 3, 1) := by decide +kernel
theorem d_Law_974 : decode code 974 = .ok (.iconst 1, 1) := by decide +kernel
theorem d_Law_975 : decode code 975 = .ok (.iadd, 1) := by decide +kernel
theorem d_Law_976 : decode code 976 = .ok (.iaload, 1) := by decide +kernel
theorem d_Law_977 : decode code 977 = .ok (.aload_n 0, 1) := by decide +kernel
theorem d_Law_978 : decode code 978 = .ok (.iload_n 3, 1) := by decide +kernel
theorem d_Law_979 : decode code 979 = .ok (.iconst 2, 1) := by decide +kernel
theorem d_Law_980 : decode code 980 = .ok (.iadd, 1) := by decide +kernel
theorem d_Law_981 : decode code 981 = .ok (.iaload, 1) := by decide +kernel
theorem d_Law_982 : decode code 982 = .ok (.aload_n 0, 1) := by decide +kernel
theorem d_Law_983 : decode code 983 = .ok (.iload_n 3, 1) := by decide +kernel
theorem d_Law_984 : decode code 984 = .ok (.iconst 3, 1) := by decide +kernel
theorem d_Law_985 : decode code 985 = .ok (.iadd, 1) := by decide +kernel
theorem d_Law_986 : decode code 986 = .ok (.iaload, 1) := by decide +kernel
theorem d_Law_987 : decode code 987 = .ok (.ifCond .eq 7, 3) := by decide +kernel
theorem d_Law_990 : decode code 990 = .ok (.iconst 1, 1) := by decide +kernel
