theorem d_Law_516 : decode code 516 = .ok (.aload_n 2, 1) := by decide +kernel
theorem d_Law_517 : decode code 517 = .ok (.invokevirtual 93, 3) := by decide +kernel
theorem d_Law_520 : decode code 520 = .ok (.if_icmp .eq 18, 3) := by decide +kernel
theorem d_Law_523 : decode code 523 = .ok (.iconst 0, 1) := by decide +kernel
theorem d_Law_524 : decode code 524 = .ok (.ireturn, 1) := by decide +kernel
theorem d_Law_525 : decode code 525 = .ok (.aload_n 1, 1) := by decide +kernel
theorem d_Law_526 : decode code 526 = .ok (.invokevirtual 94, 3) := by decide +kernel
theorem d_Law_529 : decode code 529 = .ok (.aload_n 2, 1) := by decide +kernel
theorem d_Law_530 : decode code 530 = .ok (.invokevirtual 97, 3) := by decide +kernel
theorem d_Law_533 : decode code 533 = .ok (.if_icmp .eq 5, 3) := by decide +kernel
theorem d_Law_536 : decode code 536 = .ok (.iconst 0, 1) := by decide +kernel
theorem d_Law_537 : decode code 537 = .ok (.ireturn, 1) := by decide +kernel
theorem d_Law_538 : decode code 538 = .ok (.iinc 3 4, 3) := by decide +kernel
theorem d_Law_541 : decode code 541 = .ok (.goto (-523), 3) := by decide +kernel
theorem d_Law_544 : decode code 544 = .ok (.iconst 1, 1) := by decide +kernel
theorem d_Law_545 : decode code 545 = .ok (.ireturn, 1) := by decide +kernel
