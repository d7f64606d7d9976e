theorem d_La_law_415 : decode b_La_law 415 = .ok (.aload_n 0, 1) := by decide +kernel
theorem d_La_law_416 : decode b_La_law 416 = .ok (.iload 4, 2) := by decide +kernel
theorem d_La_law_418 : decode b_La_law 418 = .ok (.iconst 2, 1) := by decide +kernel
theorem d_La_law_419 : decode b_La_law 419 = .ok (.iadd, 1) := by decide +kernel
theorem d_La_law_420 : decode b_La_law 420 = .ok (.iaload, 1) := by decide +kernel
theorem d_La_law_421 : decode b_La_law 421 = .ok (.invokevirtual 67, 3) := by decide +kernel
theorem d_La_law_424 : decode b_La_law 424 = .ok (.istore 6, 2) := by decide +kernel
theorem d_La_law_426 : decode b_La_law 426 = .ok (.aload_n 2, 1) := by decide +kernel
theorem d_La_law_427 : decode b_La_law 427 = .ok (.invokevirtual 57, 3) := by decide +kernel
theorem d_La_law_430 : decode b_La_law 430 = .ok (.iload 5, 2) := by decide +kernel
theorem d_La_law_432 : decode b_La_law 432 = .ok (.if_icmp .eq 5, 3) := by decide +kernel
theorem d_La_law_435 : decode b_La_law 435 = .ok (.iconst 0, 1) := by decide +kernel
theorem d_La_law_436 : decode b_La_law 436 = .ok (.ireturn, 1) := by decide +kernel
theorem d_La_law_437 : decode b_La_law 437 = .ok (.iload 5, 2) := by decide +kernel
theorem d_La_law_439 : decode b_La_law 439 = .ok (.ifCond .ne 15, 3) := by decide +kernel
theorem d_La_law_442 : decode b_La_law 442 = .ok (.aload_n 3, 1) := by decide +kernel
theorem d_La_law_443 : decode b_La_law 443 = .ok (.iconst 0, 1) := by decide +kernel
theorem d_La_law_444 : decode b_La_law 444 = .ok (.laload, 1) := by decide +kernel
theorem d_La_law_445 : decode b_La_law 445 = .ok (.iload 6, 2) := by decide +kernel
theorem d_La_law_447 : decode b_La_law 447 = .ok (.i2l, 1) := by decide +kernel
theorem d_La_law_448 : decode b_La_law 448 = .ok (.lcmp, 1) := by decide +kernel
theorem d_La_law_449 : decode b_La_law 449 = .ok (.ifCond .eq 5, 3) := by decide +kernel
theorem d_La_law_452 : decode b_La_law 452 = .ok (.iconst 0, 1) := by decide +kernel
theorem d_La_law_453 : decode b_La_law 453 = .ok (.ireturn, 1) := by decide +kernel
theorem d_La_law_454 : decode b_La_law 454 = .ok (.goto 364, 3) := by decide +kernel
theorem d_La_law_457 : decode b_La_law 457 = .ok (.aload_n 1, 1) := by decide +kernel
theorem d_La_law_458 : decode b_La_law 458 = .ok (.aload_n 0, 1) := by decide +kernel
theorem d_La_law_459 : decode b_La_law 459 = .ok (.iload 4, 2) := by decide +kernel
theorem d_La_law_461 : decode b_La_law 461 = .ok (.iconst 1, 1) := by decide +kernel
theorem d_La_law_462 : decode b_La_law 462 = .ok (.iadd, 1) := by decide +kernel
theorem d_La_law_463 : decode b_La_law 463 = .ok (.iaload, 1) := by decide +kernel
theorem d_La_law_464 : decode b_La_law 464 = .ok (.aload_n 3, 1) := by decide +kernel
theorem d_La_law_465 : decode b_La_law 465 = .ok (.invokestatic 68, 3) := by decide +kernel
theorem d_La_law_468 : decode b_La_law 468 = .ok (.istore 5, 2) := by decide +kernel
theorem d_La_law_470 : decode b_La_law 470 = .ok (.aload_n 2, 1) := by decide +kernel
theorem d_La_law_471 : decode b_La_law 471 = .ok (.aload_n 0, 1) := by decide +kernel
theorem d_La_law_472 : decode b_La_law 472 = .ok (.iload 4, 2) := by decide +kernel
theorem d_La_law_474 : decode b_La_law 474 = .ok (.iconst 1, 1) := by decide +kernel
theorem d_La_law_475 : decode b_La_law 475 = .ok (.iadd, 1) := by decide +kernel
theorem d_La_law_476 : decode b_La_law 476 = .ok (.iaload, 1) := by decide +kernel
theorem d_La_law_477 : decode b_La_law 477 = .ok (.invokevirtual 71, 3) := by decide +kernel
theorem d_La_law_480 : decode b_La_law 480 = .ok (.istore 6, 2) := by decide +kernel
theorem d_La_law_482 : decode b_La_law 482 = .ok (.aload_n 2, 1) := by decide +kernel
theorem d_La_law_483 : decode b_La_law 483 = .ok (.invokevirtual 57, 3) := by decide +kernel
theorem d_La_law_486 : decode b_La_law 486 = .ok (.iload 5, 2) := by decide +kernel
theorem d_La_law_488 : decode b_La_law 488 = .ok (.if_icmp .eq 5, 3) := by decide +kernel
theorem d_La_law_491 : decode b_La_law 491 = .ok (.iconst 0, 1) := by decide +kernel
theorem d_La_law_492 : decode b_La_law 492 = .ok (.ireturn, 1) := by decide +kernel
theorem d_La_law_493 : decode b_La_law 493 = .ok (.iload 5, 2) := by decide +kernel
theorem d_La_law_495 : decode b_La_law 495 = .ok (.ifCond .ne 15, 3) := by decide +kernel
theorem d_La_law_498 : decode b_La_law 498 = .ok (.aload_n 3, 1) := by decide +kernel
theorem d_La_law_499 : decode b_La_law 499 = .ok (.iconst 0, 1) := by decide +kernel
theorem d_La_law_500 : decode b_La_law 500 = .ok (.laload, 1) := by decide +kernel
theorem d_La_law_501 : decode b_La_law 501 = .ok (.iload 6, 2) := by decide +kernel
theorem d_La_law_503 : decode b_La_law 503 = .ok (.i2l, 1) := by decide +kernel
theorem d_La_law_504 : decode b_La_law 504 = .ok (.lcmp, 1) := by decide +kernel
theorem d_La_law_505 : decode b_La_law 505 = .ok (.ifCond .eq 5, 3) := by decide +kernel
theorem d_La_law_508 : decode b_La_law 508 = .ok (.iconst 0, 1) := by decide +kernel
theorem d_La_law_509 : decode b_La_law 509 = .ok (.ireturn, 1) := by decide +kernel
theorem d_La_law_510 : decode b_La_law 510 = .ok (.goto 308, 3) := by decide +kernel
