theorem d_Law_430 : decode code 430 = .ok (.iaload, 1) := by decide +kernel
theorem d_Law_431 : decode code 431 = .ok (.invokevirtual 74, 3) := by decide +kernel
theorem d_Law_434 : decode code 434 = .ok (.aload_n 2, 1) := by decide +kernel
theorem d_Law_435 : decode code 435 = .ok (.aload_n 0, 1) := by decide +kernel
theorem d_Law_436 : decode code 436 = .ok (.iload_n 3, 1) := by decide +kernel
theorem d_Law_437 : decode code 437 = .ok (.iconst 1, 1) := by decide +kernel
theorem d_Law_438 : decode code 438 = .ok (.iadd, 1) := by decide +kernel
theorem d_Law_439 : decode code 439 = .ok (.iaload, 1) := by decide +kernel
theorem d_Law_440 : decode code 440 = .ok (.aload_n 0, 1) := by decide +kernel
theorem d_Law_441 : decode code 441 = .ok (.iload_n 3, 1) := by decide +kernel
theorem d_Law_442 : decode code 442 = .ok (.iconst 2, 1) := by decide +kernel
theorem d_Law_443 : decode code 443 = .ok (.iadd, 1) := by decide +kernel
theorem d_Law_444 : decode code 444 = .ok (.iaload, 1) := by decide +kernel
theorem d_Law_445 : decode code 445 = .ok (.invokevirtual 77, 3) := by decide +kernel
theorem d_Law_448 : decode code 448 = .ok (.if_icmp .eq 90, 3) := by decide +kernel
theorem d_Law_451 : decode code 451 = .ok (.iconst 0, 1) := by decide +kernel
theorem d_Law_452 : decode code 452 = .ok (.ireturn, 1) := by decide +kernel
theorem d_Law_453 : decode code 453 = .ok (.aload_n 1, 1) := by decide +kernel
theorem d_Law_454 : decode code 454 = .ok (.aload_n 0, 1) := by decide +kernel
theorem d_Law_455 : decode code 455 = .ok (.iload_n 3, 1) := by decide +kernel
theorem d_Law_456 : decode code 456 = .ok (.iconst 1, 1) := by decide +kernel
theorem d_Law_457 : decode code 457 = .ok (.iadd, 1) := by decide +kernel
theorem d_Law_458 : decode code 458 = .ok (.iaload, 1) := by decide +kernel
theorem d_Law_459 : decode code 459 = .ok (.invokevirtual 78, 3) := by decide +kernel
theorem d_Law_462 : decode code 462 = .ok (.aload_n 2, 1) := by decide +kernel
theorem d_Law_463 : decode code 463 = .ok (.aload_n 0, 1) := by decide +kernel
theorem d_Law_464 : decode code 464 = .ok (.iload_n 3, 1) := by decide +kernel
theorem d_Law_465 : decode code 465 = .ok (.iconst 1, 1) := by decide +kernel
theorem d_Law_466 : decode code 466 = .ok (.iadd, 1) := by decide +kernel
theorem d_Law_467 : decode code 467 = .ok (.iaload, 1) := by decide +kernel
theorem d_Law_468 : decode code 468 = .ok (.invokevirtual 81, 3) := by decide +kernel
theorem d_Law_471 : decode code 471 = .ok (.if_icmp .eq 67, 3) := by decide +kernel
theorem d_Law_474 : decode code 474 = .ok (.iconst 0, 1) := by decide +kernel
theorem d_Law_475 : decode code 475 = .ok (.ireturn, 1) := by decide +kernel
theorem d_Law_476 : decode code 476 = .ok (.aload_n 1, 1) := by decide +kernel
theorem d_Law_477 : decode code 477 = .ok (.invokevirtual 82, 3) := by decide +kernel
theorem d_Law_480 : decode code 480 = .ok (.aload_n 2, 1) := by decide +kernel
theorem d_Law_481 : decode code 481 = .ok (.invokevirtual 85, 3) := by decide +kernel
theorem d_Law_484 : decode code 484 = .ok (.if_icmp .eq 54, 3) := by decide +kernel
theorem d_Law_487 : decode code 487 = .ok (.iconst 0, 1) := by decide +kernel
theorem d_Law_488 : decode code 488 = .ok (.ireturn, 1) := by decide +kernel
theorem d_Law_489 : decode code 489 = .ok (.aload_n 1, 1) := by decide +kernel
theorem d_Law_490 : decode code 490 = .ok (.aload_n 0, 1) := by decide +kernel
theorem d_Law_491 : decode code 491 = .ok (.iload_n 3, 1) := by decide +kernel
theorem d_Law_492 : decode code 492 = .ok (.iconst 1, 1) := by decide +kernel
theorem d_Law_493 : decode code 493 = .ok (.iadd, 1) := by decide +kernel
theorem d_Law_494 : decode code 494 = .ok (.iaload, 1) := by decide +kernel
theorem d_Law_495 : decode code 495 = .ok (.invokevirtual 86, 3) := by decide +kernel
theorem d_Law_498 : decode code 498 = .ok (.aload_n 2, 1) := by decide +kernel
theorem d_Law_499 : decode code 499 = .ok (.aload_n 0, 1) := by decide +kernel
theorem d_Law_500 : decode code 500 = .ok (.iload_n 3, 1) := by decide +kernel
theorem d_Law_501 : decode code 501 = .ok (.iconst 1, 1) := by decide +kernel
theorem d_Law_502 : decode code 502 = .ok (.iadd, 1) := by decide +kernel
theorem d_Law_503 : decode code 503 = .ok (.iaload, 1) := by decide +kernel
theorem d_Law_504 : decode code 504 = .ok (.invokevirtual 89, 3) := by decide +kernel
theorem d_Law_507 : decode code 507 = .ok (.if_icmp .eq 31, 3) := by decide +kernel
theorem d_Law_510 : decode code 510 = .ok (.iconst 0, 1) := by decide +kernel
theorem d_Law_511 : decode code 511 = .ok (.ireturn, 1) := by decide +kernel
theorem d_Law_512 : decode code 512 = .ok (.aload_n 1, 1) := by decide +kernel
theorem d_Law_513 : decode code 513 = .ok (.invokevirtual 90, 3) := by decide +kernel
