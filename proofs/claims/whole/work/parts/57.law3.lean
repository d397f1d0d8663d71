theorem d_L_law_352 : decode code 352 = .ok (.iload 4, 2) := by decide +kernel
theorem d_L_law_354 : decode code 354 = .ok (.iconst 1, 1) := by decide +kernel
theorem d_L_law_355 : decode code 355 = .ok (.iadd, 1) := by decide +kernel
theorem d_L_law_356 : decode code 356 = .ok (.iaload, 1) := by decide +kernel
theorem d_L_law_357 : decode code 357 = .ok (.aload_n 0, 1) := by decide +kernel
theorem d_L_law_358 : decode code 358 = .ok (.iload 4, 2) := by decide +kernel
theorem d_L_law_360 : decode code 360 = .ok (.iconst 2, 1) := by decide +kernel
theorem d_L_law_361 : decode code 361 = .ok (.iadd, 1) := by decide +kernel
theorem d_L_law_362 : decode code 362 = .ok (.iaload, 1) := by decide +kernel
theorem d_L_law_363 : decode code 363 = .ok (.i2l, 1) := by decide +kernel
theorem d_L_law_364 : decode code 364 = .ok (.bipush 32, 2) := by decide +kernel
theorem d_L_law_366 : decode code 366 = .ok (.lshl, 1) := by decide +kernel
theorem d_L_law_367 : decode code 367 = .ok (.aload_n 0, 1) := by decide +kernel
theorem d_L_law_368 : decode code 368 = .ok (.iload 4, 2) := by decide +kernel
theorem d_L_law_370 : decode code 370 = .ok (.iconst 3, 1) := by decide +kernel
theorem d_L_law_371 : decode code 371 = .ok (.iadd, 1) := by decide +kernel
theorem d_L_law_372 : decode code 372 = .ok (.iaload, 1) := by decide +kernel
theorem d_L_law_373 : decode code 373 = .ok (.i2l, 1) := by decide +kernel
theorem d_L_law_374 : decode code 374 = .ok (.ldc2_w 67, 3) := by decide +kernel
theorem d_L_law_377 : decode code 377 = .ok (.land, 1) := by decide +kernel
theorem d_L_law_378 : decode code 378 = .ok (.lor, 1) := by decide +kernel
theorem d_L_law_379 : decode code 379 = .ok (.aload_n 0, 1) := by decide +kernel
theorem d_L_law_380 : decode code 380 = .ok (.iload 4, 2) := by decide +kernel
theorem d_L_law_382 : decode code 382 = .ok (.iconst 4, 1) := by decide +kernel
theorem d_L_law_383 : decode code 383 = .ok (.iadd, 1) := by decide +kernel
theorem d_L_law_384 : decode code 384 = .ok (.iaload, 1) := by decide +kernel
theorem d_L_law_385 : decode code 385 = .ok (.i2l, 1) := by decide +kernel
theorem d_L_law_386 : decode code 386 = .ok (.bipush 32, 2) := by decide +kernel
theorem d_L_law_388 : decode code 388 = .ok (.lshl, 1) := by decide +kernel
theorem d_L_law_389 : decode code 389 = .ok (.aload_n 0, 1) := by decide +kernel
theorem d_L_law_390 : decode code 390 = .ok (.iload 4, 2) := by decide +kernel
theorem d_L_law_392 : decode code 392 = .ok (.iconst 5, 1) := by decide +kernel
theorem d_L_law_393 : decode code 393 = .ok (.iadd, 1) := by decide +kernel
theorem d_L_law_394 : decode code 394 = .ok (.iaload, 1) := by decide +kernel
theorem d_L_law_395 : decode code 395 = .ok (.i2l, 1) := by decide +kernel
theorem d_L_law_396 : decode code 396 = .ok (.ldc2_w 67, 3) := by decide +kernel
theorem d_L_law_399 : decode code 399 = .ok (.land, 1) := by decide +kernel
theorem d_L_law_400 : decode code 400 = .ok (.lor, 1) := by decide +kernel
theorem d_L_law_401 : decode code 401 = .ok (.aload_n 0, 1) := by decide +kernel
theorem d_L_law_402 : decode code 402 = .ok (.iload 4, 2) := by decide +kernel
theorem d_L_law_404 : decode code 404 = .ok (.bipush 6, 2) := by decide +kernel
theorem d_L_law_406 : decode code 406 = .ok (.iadd, 1) := by decide +kernel
theorem d_L_law_407 : decode code 407 = .ok (.iaload, 1) := by decide +kernel
theorem d_L_law_408 : decode code 408 = .ok (.aload_n 3, 1) := by decide +kernel
theorem d_L_law_409 : decode code 409 = .ok (.invokestatic 88, 3) := by decide +kernel
theorem d_L_law_412 : decode code 412 = .ok (.istore 5, 2) := by decide +kernel
theorem d_L_law_414 : decode code 414 = .ok (.aload_n 2, 1) := by decide +kernel
theorem d_L_law_415 : decode code 415 = .ok (.aload_n 0, 1) := by decide +kernel
theorem d_L_law_416 : decode code 416 = .ok (.iload 4, 2) := by decide +kernel
theorem d_L_law_418 : decode code 418 = .ok (.iconst 1, 1) := by decide +kernel
theorem d_L_law_419 : decode code 419 = .ok (.iadd, 1) := by decide +kernel
theorem d_L_law_420 : decode code 420 = .ok (.iaload, 1) := by decide +kernel
theorem d_L_law_421 : decode code 421 = .ok (.aload_n 0, 1) := by decide +kernel
theorem d_L_law_422 : decode code 422 = .ok (.iload 4, 2) := by decide +kernel
theorem d_L_law_424 : decode code 424 = .ok (.iconst 2, 1) := by decide +kernel
theorem d_L_law_425 : decode code 425 = .ok (.iadd, 1) := by decide +kernel
theorem d_L_law_426 : decode code 426 = .ok (.iaload, 1) := by decide +kernel
theorem d_L_law_427 : decode code 427 = .ok (.i2l, 1) := by decide +kernel
theorem d_L_law_428 : decode code 428 = .ok (.bipush 32, 2) := by decide +kernel
theorem d_L_law_430 : decode code 430 = .ok (.lshl, 1) := by decide +kernel
theorem d_L_law_431 : decode code 431 = .ok (.aload_n 0, 1) := by decide +kernel
theorem d_L_law_432 : decode code 432 = .ok (.iload 4, 2) := by decide +kernel
theorem d_L_law_434 : decode code 434 = .ok (.iconst 3, 1) := by decide +kernel
theorem d_L_law_435 : decode code 435 = .ok (.iadd, 1) := by decide +kernel
theorem d_L_law_436 : decode code 436 = .ok (.iaload, 1) := by decide +kernel
theorem d_L_law_437 : decode code 437 = .ok (.i2l, 1) := by decide +kernel
theorem d_L_law_438 : decode code 438 = .ok (.ldc2_w 67, 3) := by decide +kernel
theorem d_L_law_441 : decode code 441 = .ok (.land, 1) := by decide +kernel
theorem d_L_law_442 : decode code 442 = .ok (.lor, 1) := by decide +kernel
theorem d_L_law_443 : decode code 443 = .ok (.aload_n 0, 1) := by decide +kernel
theorem d_L_law_444 : decode code 444 = .ok (.iload 4, 2) := by decide +kernel
theorem d_L_law_446 : decode code 446 = .ok (.iconst 4, 1) := by decide +kernel
theorem d_L_law_447 : decode code 447 = .ok (.iadd, 1) := by decide +kernel
theorem d_L_law_448 : decode code 448 = .ok (.iaload, 1) := by decide +kernel
theorem d_L_law_449 : decode code 449 = .ok (.i2l, 1) := by decide +kernel
theorem d_L_law_450 : decode code 450 = .ok (.bipush 32, 2) := by decide +kernel
theorem d_L_law_452 : decode code 452 = .ok (.lshl, 1) := by decide +kernel
theorem d_L_law_453 : decode code 453 = .ok (.aload_n 0, 1) := by decide +kernel
theorem d_L_law_454 : decode code 454 = .ok (.iload 4, 2) := by decide +kernel
theorem d_L_law_456 : decode code 456 = .ok (.iconst 5, 1) := by decide +kernel
theorem d_L_law_457 : decode code 457 = .ok (.iadd, 1) := by decide +kernel
theorem d_L_law_458 : decode code 458 = .ok (.iaload, 1) := by decide +kernel
theorem d_L_law_459 : decode code 459 = .ok (.i2l, 1) := by decide +kernel
theorem d_L_law_460 : decode code 460 = .ok (.ldc2_w 67, 3) := by decide +kernel
theorem d_L_law_463 : decode code 463 = .ok (.land, 1) := by decide +kernel
theorem d_L_law_464 : decode code 464 = .ok (.lor, 1) := by decide +kernel
theorem d_L_law_465 : decode code 465 = .ok (.aload_n 0, 1) := by decide +kernel
theorem d_L_law_466 : decode code 466 = .ok (.iload 4, 2) := by decide +kernel
theorem d_L_law_468 : decode code 468 = .ok (.bipush 6, 2) := by decide +kernel
theorem d_L_law_470 : decode code 470 = .ok (.iadd, 1) := by decide +kernel
theorem d_L_law_471 : decode code 471 = .ok (.iaload, 1) := by decide +kernel
theorem d_L_law_472 : decode code 472 = .ok (.invokevirtual 91, 3) := by decide +kernel
theorem d_L_law_475 : decode code 475 = .ok (.istore 6, 2) := by decide +kernel
theorem d_L_law_477 : decode code 477 = .ok (.aload_n 2, 1) := by decide +kernel
theorem d_L_law_478 : decode code 478 = .ok (.invokevirtual 80, 3) := by decide +kernel
theorem d_L_law_481 : decode code 481 = .ok (.iload 5, 2) := by decide +kernel
theorem d_L_law_483 : decode code 483 = .ok (.if_icmp .eq 5, 3) := by decide +kernel
theorem d_L_law_486 : decode code 486 = .ok (.iconst 0, 1) := by decide +kernel
theorem d_L_law_487 : decode code 487 = .ok (.ireturn, 1) := by decide +kernel
theorem d_L_law_488 : decode code 488 = .ok (.iload 5, 2) := by decide +kernel
