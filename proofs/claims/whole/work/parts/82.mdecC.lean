theorem dX7_init_317 : decode cX7_init 317 = .ok (.newarray .int, 2) := by decide +kernel
theorem dX7_init_319 : decode cX7_init 319 = .ok (.putfield 30, 3) := by decide +kernel
theorem dX7_init_322 : decode cX7_init 322 = .ok (.aload_n 0, 1) := by decide +kernel
theorem dX7_init_323 : decode cX7_init 323 = .ok (.sipush 550, 3) := by decide +kernel
theorem dX7_init_326 : decode cX7_init 326 = .ok (.newarray .int, 2) := by decide +kernel
theorem dX7_init_328 : decode cX7_init 328 = .ok (.putfield 33, 3) := by decide +kernel
theorem dX7_init_331 : decode cX7_init 331 = .ok (.aload_n 0, 1) := by decide +kernel
theorem dX7_init_332 : decode cX7_init 332 = .ok (.iconst 2, 1) := by decide +kernel
theorem dX7_init_333 : decode cX7_init 333 = .ok (.newarray .boolean, 2) := by decide +kernel
theorem dX7_init_335 : decode cX7_init 335 = .ok (.putfield 36, 3) := by decide +kernel
theorem dX7_init_338 : decode cX7_init 338 = .ok (.aload_n 0, 1) := by decide +kernel
theorem dX7_init_339 : decode cX7_init 339 = .ok (.bipush 12, 2) := by decide +kernel
theorem dX7_init_341 : decode cX7_init 341 = .ok (.newarray .int, 2) := by decide +kernel
theorem dX7_init_343 : decode cX7_init 343 = .ok (.putfield 40, 3) := by decide +kernel
theorem dX7_init_346 : decode cX7_init 346 = .ok (.iconst 0, 1) := by decide +kernel
theorem dX7_init_347 : decode cX7_init 347 = .ok (.istore_n 1, 1) := by decide +kernel
theorem dX7_init_348 : decode cX7_init 348 = .ok (.iload_n 1, 1) := by decide +kernel
theorem dX7_init_349 : decode cX7_init 349 = .ok (.bipush 32, 2) := by decide +kernel
theorem dX7_init_351 : decode cX7_init 351 = .ok (.if_icmp .ge 19, 3) := by decide +kernel
theorem dX7_init_354 : decode cX7_init 354 = .ok (.aload_n 0, 1) := by decide +kernel
theorem dX7_init_355 : decode cX7_init 355 = .ok (.getfield 30, 3) := by decide +kernel
theorem dX7_init_358 : decode cX7_init 358 = .ok (.iconst 0, 1) := by decide +kernel
theorem dX7_init_359 : decode cX7_init 359 = .ok (.iload_n 1, 1) := by decide +kernel
theorem dX7_init_360 : decode cX7_init 360 = .ok (.iadd, 1) := by decide +kernel
theorem dX7_init_361 : decode cX7_init 361 = .ok (.bipush (-6), 2) := by decide +kernel
theorem dX7_init_363 : decode cX7_init 363 = .ok (.iastore, 1) := by decide +kernel
theorem dX7_init_364 : decode cX7_init 364 = .ok (.iinc 1 1, 3) := by decide +kernel
theorem dX7_init_367 : decode cX7_init 367 = .ok (.goto (-19), 3) := by decide +kernel
theorem dX7_init_370 : decode cX7_init 370 = .ok (.aload_n 0, 1) := by decide +kernel
theorem dX7_init_371 : decode cX7_init 371 = .ok (.getfield 30, 3) := by decide +kernel
theorem dX7_init_374 : decode cX7_init 374 = .ok (.bipush 32, 2) := by decide +kernel
theorem dX7_init_376 : decode cX7_init 376 = .ok (.bipush 60, 2) := by decide +kernel
theorem dX7_init_378 : decode cX7_init 378 = .ok (.iastore, 1) := by decide +kernel
theorem dX7_init_379 : decode cX7_init 379 = .ok (.aload_n 0, 1) := by decide +kernel
theorem dX7_init_380 : decode cX7_init 380 = .ok (.getfield 30, 3) := by decide +kernel
theorem dX7_init_383 : decode cX7_init 383 = .ok (.bipush 33, 2) := by decide +kernel
theorem dX7_init_385 : decode cX7_init 385 = .ok (.bipush 10, 2) := by decide +kernel
theorem dX7_init_387 : decode cX7_init 387 = .ok (.iastore, 1) := by decide +kernel
theorem dX7_init_388 : decode cX7_init 388 = .ok (.aload_n 0, 1) := by decide +kernel
theorem dX7_init_389 : decode cX7_init 389 = .ok (.getfield 30, 3) := by decide +kernel
theorem dX7_init_392 : decode cX7_init 392 = .ok (.bipush 34, 2) := by decide +kernel
theorem dX7_init_394 : decode cX7_init 394 = .ok (.sipush 1000, 3) := by decide +kernel
theorem dX7_init_397 : decode cX7_init 397 = .ok (.iastore, 1) := by decide +kernel
theorem dX7_init_398 : decode cX7_init 398 = .ok (.aload_n 0, 1) := by decide +kernel
theorem dX7_init_399 : decode cX7_init 399 = .ok (.getfield 30, 3) := by decide +kernel
theorem dX7_init_402 : decode cX7_init 402 = .ok (.bipush 35, 2) := by decide +kernel
theorem dX7_init_404 : decode cX7_init 404 = .ok (.sipush 500, 3) := by decide +kernel
theorem dX7_init_407 : decode cX7_init 407 = .ok (.iastore, 1) := by decide +kernel
theorem dX7_init_408 : decode cX7_init 408 = .ok (.aload_n 0, 1) := by decide +kernel
theorem dX7_init_409 : decode cX7_init 409 = .ok (.getfield 30, 3) := by decide +kernel
theorem dX7_init_412 : decode cX7_init 412 = .ok (.bipush 36, 2) := by decide +kernel
theorem dX7_init_414 : decode cX7_init 414 = .ok (.sipush 2000, 3) := by decide +kernel
theorem dX7_init_417 : decode cX7_init 417 = .ok (.iastore, 1) := by decide +kernel
theorem dX7_init_418 : decode cX7_init 418 = .ok (.aload_n 0, 1) := by decide +kernel
theorem dX7_init_419 : decode cX7_init 419 = .ok (.getfield 30, 3) := by decide +kernel
theorem dX7_init_422 : decode cX7_init 422 = .ok (.bipush 37, 2) := by decide +kernel
theorem dX7_init_424 : decode cX7_init 424 = .ok (.sipush 750, 3) := by decide +kernel
theorem dX7_init_427 : decode cX7_init 427 = .ok (.iastore, 1) := by decide +kernel
theorem dX7_init_428 : decode cX7_init 428 = .ok (.aload_n 0, 1) := by decide +kernel
theorem dX7_init_429 : decode cX7_init 429 = .ok (.getfield 30, 3) := by decide +kernel
theorem dX7_init_432 : decode cX7_init 432 = .ok (.bipush 38, 2) := by decide +kernel
theorem dX7_init_434 : decode cX7_init 434 = .ok (.sipush 8000, 3) := by decide +kernel
theorem dX7_init_437 : decode cX7_init 437 = .ok (.iastore, 1) := by decide +kernel
theorem dX7_init_438 : decode cX7_init 438 = .ok (.iconst 0, 1) := by decide +kernel
theorem dX7_init_439 : decode cX7_init 439 = .ok (.istore_n 1, 1) := by decide +kernel
theorem dX7_init_440 : decode cX7_init 440 = .ok (.iload_n 1, 1) := by decide +kernel
theorem dX7_init_441 : decode cX7_init 441 = .ok (.bipush 8, 2) := by decide +kernel
theorem dX7_init_443 : decode cX7_init 443 = .ok (.if_icmp .ge 37, 3) := by decide +kernel
theorem dX7_init_446 : decode cX7_init 446 = .ok (.aload_n 0, 1) := by decide +kernel
theorem dX7_init_447 : decode cX7_init 447 = .ok (.getfield 30, 3) := by decide +kernel
theorem dX7_init_450 : decode cX7_init 450 = .ok (.bipush 39, 2) := by decide +kernel
theorem dX7_init_452 : decode cX7_init 452 = .ok (.iconst 3, 1) := by decide +kernel
theorem dX7_init_453 : decode cX7_init 453 = .ok (.iload_n 1, 1) := by decide +kernel
theorem dX7_init_454 : decode cX7_init 454 = .ok (.imul, 1) := by decide +kernel
theorem dX7_init_455 : decode cX7_init 455 = .ok (.iadd, 1) := by decide +kernel
theorem dX7_init_456 : decode cX7_init 456 = .ok (.bipush (-6), 2) := by decide +kernel
theorem dX7_init_458 : decode cX7_init 458 = .ok (.iastore, 1) := by decide +kernel
theorem dX7_init_459 : decode cX7_init 459 = .ok (.aload_n 0, 1) := by decide +kernel
theorem dX7_init_460 : decode cX7_init 460 = .ok (.getfield 30, 3) := by decide +kernel
theorem dX7_init_463 : decode cX7_init 463 = .ok (.bipush 39, 2) := by decide +kernel
theorem dX7_init_465 : decode cX7_init 465 = .ok (.iconst 3, 1) := by decide +kernel
theorem dX7_init_466 : decode cX7_init 466 = .ok (.iload_n 1, 1) := by decide +kernel
theorem dX7_init_467 : decode cX7_init 467 = .ok (.imul, 1) := by decide +kernel
theorem dX7_init_468 : decode cX7_init 468 = .ok (.iadd, 1) := by decide +kernel
theorem dX7_init_469 : decode cX7_init 469 = .ok (.iconst 1, 1) := by decide +kernel
theorem dX7_init_470 : decode cX7_init 470 = .ok (.iadd, 1) := by decide +kernel
theorem dX7_init_471 : decode cX7_init 471 = .ok (.bipush (-6), 2) := by decide +kernel
theorem dX7_init_473 : decode cX7_init 473 = .ok (.iastore, 1) := by decide +kernel
theorem dX7_init_474 : decode cX7_init 474 = .ok (.iinc 1 1, 3) := by decide +kernel
theorem dX7_init_477 : decode cX7_init 477 = .ok (.goto (-37), 3) := by decide +kernel
theorem dX7_init_480 : decode cX7_init 480 = .ok (.return_, 1) := by decide +kernel
