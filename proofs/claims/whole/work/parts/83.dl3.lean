theorem d_Law_352 : decode code 352 = .ok (.aload_n 0, 1) := by decide +kernel
theorem d_Law_353 : decode code 353 = .ok (.iload_n 3, 1) := by decide +kernel
theorem d_Law_354 : decode code 354 = .ok (.iconst 1, 1) := by decide +kernel
theorem d_Law_355 : decode code 355 = .ok (.iadd, 1) := by decide +kernel
theorem d_Law_356 : decode code 356 = .ok (.iaload, 1) := by decide +kernel
theorem d_Law_357 : decode code 357 = .ok (.aload_n 0, 1) := by decide +kernel
theorem d_Law_358 : decode code 358 = .ok (.iload_n 3, 1) := by decide +kernel
theorem d_Law_359 : decode code 359 = .ok (.iconst 2, 1) := by decide +kernel
theorem d_Law_360 : decode code 360 = .ok (.iadd, 1) := by decide +kernel
theorem d_Law_361 : decode code 361 = .ok (.iaload, 1) := by decide +kernel
theorem d_Law_362 : decode code 362 = .ok (.invokevirtual 61, 3) := by decide +kernel
theorem d_Law_365 : decode code 365 = .ok (.aload_n 2, 1) := by decide +kernel
theorem d_Law_366 : decode code 366 = .ok (.aload_n 0, 1) := by decide +kernel
theorem d_Law_367 : decode code 367 = .ok (.iload_n 3, 1) := by decide +kernel
theorem d_Law_368 : decode code 368 = .ok (.iconst 1, 1) := by decide +kernel
theorem d_Law_369 : decode code 369 = .ok (.iadd, 1) := by decide +kernel
theorem d_Law_370 : decode code 370 = .ok (.iaload, 1) := by decide +kernel
theorem d_Law_371 : decode code 371 = .ok (.aload_n 0, 1) := by decide +kernel
theorem d_Law_372 : decode code 372 = .ok (.iload_n 3, 1) := by decide +kernel
theorem d_Law_373 : decode code 373 = .ok (.iconst 2, 1) := by decide +kernel
theorem d_Law_374 : decode code 374 = .ok (.iadd, 1) := by decide +kernel
theorem d_Law_375 : decode code 375 = .ok (.iaload, 1) := by decide +kernel
theorem d_Law_376 : decode code 376 = .ok (.invokevirtual 65, 3) := by decide +kernel
theorem d_Law_379 : decode code 379 = .ok (.if_icmp .eq 159, 3) := by decide +kernel
theorem d_Law_382 : decode code 382 = .ok (.iconst 0, 1) := by decide +kernel
theorem d_Law_383 : decode code 383 = .ok (.ireturn, 1) := by decide +kernel
theorem d_Law_384 : decode code 384 = .ok (.aload_n 1, 1) := by decide +kernel
theorem d_Law_385 : decode code 385 = .ok (.invokevirtual 66, 3) := by decide +kernel
theorem d_Law_388 : decode code 388 = .ok (.aload_n 2, 1) := by decide +kernel
theorem d_Law_389 : decode code 389 = .ok (.invokevirtual 69, 3) := by decide +kernel
theorem d_Law_392 : decode code 392 = .ok (.if_icmp .eq 146, 3) := by decide +kernel
theorem d_Law_395 : decode code 395 = .ok (.iconst 0, 1) := by decide +kernel
theorem d_Law_396 : decode code 396 = .ok (.ireturn, 1) := by decide +kernel
theorem d_Law_397 : decode code 397 = .ok (.aload_n 1, 1) := by decide +kernel
theorem d_Law_398 : decode code 398 = .ok (.aload_n 0, 1) := by decide +kernel
theorem d_Law_399 : decode code 399 = .ok (.iload_n 3, 1) := by decide +kernel
theorem d_Law_400 : decode code 400 = .ok (.iconst 1, 1) := by decide +kernel
theorem d_Law_401 : decode code 401 = .ok (.iadd, 1) := by decide +kernel
theorem d_Law_402 : decode code 402 = .ok (.iaload, 1) := by decide +kernel
theorem d_Law_403 : decode code 403 = .ok (.invokevirtual 70, 3) := by decide +kernel
theorem d_Law_406 : decode code 406 = .ok (.aload_n 2, 1) := by decide +kernel
theorem d_Law_407 : decode code 407 = .ok (.aload_n 0, 1) := by decide +kernel
theorem d_Law_408 : decode code 408 = .ok (.iload_n 3, 1) := by decide +kernel
theorem d_Law_409 : decode code 409 = .ok (.iconst 1, 1) := by decide +kernel
theorem d_Law_410 : decode code 410 = .ok (.iadd, 1) := by decide +kernel
theorem d_Law_411 : decode code 411 = .ok (.iaload, 1) := by decide +kernel
theorem d_Law_412 : decode code 412 = .ok (.invokevirtual 73, 3) := by decide +kernel
theorem d_Law_415 : decode code 415 = .ok (.if_icmp .eq 123, 3) := by decide +kernel
theorem d_Law_418 : decode code 418 = .ok (.iconst 0, 1) := by decide +kernel
theorem d_Law_419 : decode code 419 = .ok (.ireturn, 1) := by decide +kernel
theorem d_Law_420 : decode code 420 = .ok (.aload_n 1, 1) := by decide +kernel
theorem d_Law_421 : decode code 421 = .ok (.aload_n 0, 1) := by decide +kernel
theorem d_Law_422 : decode code 422 = .ok (.iload_n 3, 1) := by decide +kernel
theorem d_Law_423 : decode code 423 = .ok (.iconst 1, 1) := by decide +kernel
theorem d_Law_424 : decode code 424 = .ok (.iadd, 1) := by decide +kernel
theorem d_Law_425 : decode code 425 = .ok (.iaload, 1) := by decide +kernel
theorem d_Law_426 : decode code 426 = .ok (.aload_n 0, 1) := by decide +kernel
theorem d_Law_427 : decode code 427 = .ok (.iload_n 3, 1) := by decide +kernel
theorem d_Law_428 : decode code 428 = .ok (.iconst 2, 1) := by decide +kernel
theorem d_Law_429 : decode code 429 = .ok (.iadd, 1) := by decide +kernel
