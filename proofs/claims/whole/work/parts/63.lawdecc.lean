theorem d_L_law_441 : decode code 441 = .ok (.iaload, 1) := by decide +kernel
theorem d_L_law_442 : decode code 442 = .ok (.invokevirtual 66, 3) := by decide +kernel
theorem d_L_law_445 : decode code 445 = .ok (.aload_n 2, 1) := by decide +kernel
theorem d_L_law_446 : decode code 446 = .ok (.aload_n 0, 1) := by decide +kernel
theorem d_L_law_447 : decode code 447 = .ok (.iload_n 3, 1) := by decide +kernel
theorem d_L_law_448 : decode code 448 = .ok (.iconst 1, 1) := by decide +kernel
theorem d_L_law_449 : decode code 449 = .ok (.iadd, 1) := by decide +kernel
theorem d_L_law_450 : decode code 450 = .ok (.iaload, 1) := by decide +kernel
theorem d_L_law_451 : decode code 451 = .ok (.invokevirtual 69, 3) := by decide +kernel
theorem d_L_law_454 : decode code 454 = .ok (.if_icmp .eq 470, 3) := by decide +kernel
theorem d_L_law_457 : decode code 457 = .ok (.iconst 0, 1) := by decide +kernel
theorem d_L_law_458 : decode code 458 = .ok (.ireturn, 1) := by decide +kernel
theorem d_L_law_459 : decode code 459 = .ok (.aload_n 1, 1) := by decide +kernel
theorem d_L_law_460 : decode code 460 = .ok (.aload_n 0, 1) := by decide +kernel
theorem d_L_law_461 : decode code 461 = .ok (.iload_n 3, 1) := by decide +kernel
theorem d_L_law_462 : decode code 462 = .ok (.iconst 1, 1) := by decide +kernel
theorem d_L_law_463 : decode code 463 = .ok (.iadd, 1) := by decide +kernel
theorem d_L_law_464 : decode code 464 = .ok (.iaload, 1) := by decide +kernel
theorem d_L_law_465 : decode code 465 = .ok (.invokevirtual 70, 3) := by decide +kernel
theorem d_L_law_468 : decode code 468 = .ok (.aload_n 2, 1) := by decide +kernel
theorem d_L_law_469 : decode code 469 = .ok (.aload_n 0, 1) := by decide +kernel
theorem d_L_law_470 : decode code 470 = .ok (.iload_n 3, 1) := by decide +kernel
theorem d_L_law_471 : decode code 471 = .ok (.iconst 1, 1) := by decide +kernel
theorem d_L_law_472 : decode code 472 = .ok (.iadd, 1) := by decide +kernel
theorem d_L_law_473 : decode code 473 = .ok (.iaload, 1) := by decide +kernel
theorem d_L_law_474 : decode code 474 = .ok (.invokevirtual 73, 3) := by decide +kernel
theorem d_L_law_477 : decode code 477 = .ok (.if_icmp .eq 447, 3) := by decide +kernel
theorem d_L_law_480 : decode code 480 = .ok (.iconst 0, 1) := by decide +kernel
theorem d_L_law_481 : decode code 481 = .ok (.ireturn, 1) := by decide +kernel
theorem d_L_law_482 : decode code 482 = .ok (.aload_n 1, 1) := by decide +kernel
theorem d_L_law_483 : decode code 483 = .ok (.aload_n 0, 1) := by decide +kernel
theorem d_L_law_484 : decode code 484 = .ok (.iload_n 3, 1) := by decide +kernel
theorem d_L_law_485 : decode code 485 = .ok (.iconst 1, 1) := by decide +kernel
theorem d_L_law_486 : decode code 486 = .ok (.iadd, 1) := by decide +kernel
theorem d_L_law_487 : decode code 487 = .ok (.iaload, 1) := by decide +kernel
theorem d_L_law_488 : decode code 488 = .ok (.aload_n 0, 1) := by decide +kernel
theorem d_L_law_489 : decode code 489 = .ok (.iload_n 3, 1) := by decide +kernel
theorem d_L_law_490 : decode code 490 = .ok (.iconst 2, 1) := by decide +kernel
theorem d_L_law_491 : decode code 491 = .ok (.iadd, 1) := by decide +kernel
theorem d_L_law_492 : decode code 492 = .ok (.iaload, 1) := by decide +kernel
theorem d_L_law_493 : decode code 493 = .ok (.invokevirtual 74, 3) := by decide +kernel
theorem d_L_law_496 : decode code 496 = .ok (.aload_n 2, 1) := by decide +kernel
theorem d_L_law_497 : decode code 497 = .ok (.aload_n 0, 1) := by decide +kernel
theorem d_L_law_498 : decode code 498 = .ok (.iload_n 3, 1) := by decide +kernel
theorem d_L_law_499 : decode code 499 = .ok (.iconst 1, 1) := by decide +kernel
theorem d_L_law_500 : decode code 500 = .ok (.iadd, 1) := by decide +kernel
theorem d_L_law_501 : decode code 501 = .ok (.iaload, 1) := by decide +kernel
theorem d_L_law_502 : decode code 502 = .ok (.aload_n 0, 1) := by decide +kernel
theorem d_L_law_503 : decode code 503 = .ok (.iload_n 3, 1) := by decide +kernel
theorem d_L_law_504 : decode code 504 = .ok (.iconst 2, 1) := by decide +kernel
theorem d_L_law_505 : decode code 505 = .ok (.iadd, 1) := by decide +kernel
theorem d_L_law_506 : decode code 506 = .ok (.iaload, 1) := by decide +kernel
theorem d_L_law_507 : decode code 507 = .ok (.invokevirtual 77, 3) := by decide +kernel
theorem d_L_law_510 : decode code 510 = .ok (.if_icmp .eq 414, 3) := by decide +kernel
theorem d_L_law_513 : decode code 513 = .ok (.iconst 0, 1) := by decide +kernel
theorem d_L_law_514 : decode code 514 = .ok (.ireturn, 1) := by decide +kernel
theorem d_L_law_515 : decode code 515 = .ok (.aload_n 1, 1) := by decide +kernel
theorem d_L_law_516 : decode code 516 = .ok (.invokevirtual 78, 3) := by decide +kernel
theorem d_L_law_519 : decode code 519 = .ok (.aload_n 2, 1) := by decide +kernel
theorem d_L_law_520 : decode code 520 = .ok (.invokevirtual 81, 3) := by decide +kernel
theorem d_L_law_523 : decode code 523 = .ok (.if_icmp .eq 401, 3) := by decide +kernel
theorem d_L_law_526 : decode code 526 = .ok (.iconst 0, 1) := by decide +kernel
theorem d_L_law_527 : decode code 527 = .ok (.ireturn, 1) := by decide +kernel
theorem d_L_law_528 : decode code 528 = .ok (.aload_n 1, 1) := by decide +kernel
theorem d_L_law_529 : decode code 529 = .ok (.aload_n 0, 1) := by decide +kernel
theorem d_L_law_530 : decode code 530 = .ok (.iload_n 3, 1) := by decide +kernel
theorem d_L_law_531 : decode code 531 = .ok (.iconst 1, 1) := by decide +kernel
theorem d_L_law_532 : decode code 532 = .ok (.iadd, 1) := by decide +kernel
theorem d_L_law_533 : decode code 533 = .ok (.iaload, 1) := by decide +kernel
theorem d_L_law_534 : decode code 534 = .ok (.invokevirtual 82, 3) := by decide +kernel
theorem d_L_law_537 : decode code 537 = .ok (.aload_n 2, 1) := by decide +kernel
theorem d_L_law_538 : decode code 538 = .ok (.aload_n 0, 1) := by decide +kernel
theorem d_L_law_539 : decode code 539 = .ok (.iload_n 3, 1) := by decide +kernel
theorem d_L_law_540 : decode code 540 = .ok (.iconst 1, 1) := by decide +kernel
theorem d_L_law_541 : decode code 541 = .ok (.iadd, 1) := by decide +kernel
theorem d_L_law_542 : decode code 542 = .ok (.iaload, 1) := by decide +kernel
theorem d_L_law_543 : decode code 543 = .ok (.invokevirtual 85, 3) := by decide +kernel
theorem d_L_law_546 : decode code 546 = .ok (.if_icmp .eq 378, 3) := by decide +kernel
theorem d_L_law_549 : decode code 549 = .ok (.iconst 0, 1) := by decide +kernel
theorem d_L_law_550 : decode code 550 = .ok (.ireturn, 1) := by decide +kernel
theorem d_L_law_551 : decode code 551 = .ok (.aload_n 1, 1) := by decide +kernel
theorem d_L_law_552 : decode code 552 = .ok (.aload_n 0, 1) := by decide +kernel
theorem d_L_law_553 : decode code 553 = .ok (.iload_n 3, 1) := by decide +kernel
theorem d_L_law_554 : decode code 554 = .ok (.iconst 1, 1) := by decide +kernel
theorem d_L_law_555 : decode code 555 = .ok (.iadd, 1) := by decide +kernel
theorem d_L_law_556 : decode code 556 = .ok (.iaload, 1) := by decide +kernel
theorem d_L_law_557 : decode code 557 = .ok (.aload_n 0, 1) := by decide +kernel
theorem d_L_law_558 : decode code 558 = .ok (.iload_n 3, 1) := by decide +kernel
theorem d_L_law_559 : decode code 559 = .ok (.iconst 2, 1) := by decide +kernel
theorem d_L_law_560 : decode code 560 = .ok (.iadd, 1) := by decide +kernel
theorem d_L_law_561 : decode code 561 = .ok (.iaload, 1) := by decide +kernel
theorem d_L_law_562 : decode code 562 = .ok (.invokevirtual 86, 3) := by decide +kernel
theorem d_L_law_565 : decode code 565 = .ok (.aload_n 2, 1) := by decide +kernel
theorem d_L_law_566 : decode code 566 = .ok (.aload_n 0, 1) := by decide +kernel
theorem d_L_law_567 : decode code 567 = .ok (.iload_n 3, 1) := by decide +kernel
theorem d_L_law_568 : decode code 568 = .ok (.iconst 1, 1) := by decide +kernel
theorem d_L_law_569 : decode code 569 = .ok (.iadd, 1) := by decide +kernel
theorem d_L_law_570 : decode code 570 = .ok (.iaload, 1) := by decide +kernel
theorem d_L_law_571 : decode code 571 = .ok (.aload_n 0, 1) := by decide +kernel
theorem d_L_law_572 : decode code 572 = .ok (.iload_n 3, 1) := by decide +kernel
theorem d_L_law_573 : decode code 573 = .ok (.iconst 2, 1) := by decide +kernel
theorem d_L_law_574 : decode code 574 = .ok (.iadd, 1) := by decide +kernel
theorem d_L_law_575 : decode code 575 = .ok (.iaload, 1) := by decide +kernel
theorem d_L_law_576 : decode code 576 = .ok (.invokevirtual 89, 3) := by decide +kernel
theorem d_L_law_579 : decode code 579 = .ok (.if_icmp .eq 345, 3) := by decide +kernel
theorem d_L_law_582 : decode code 582 = .ok (.iconst 0, 1) := by decide +kernel
theorem d_L_law_583 : decode code 583 = .ok (.ireturn, 1) := by decide +kernel
theorem d_L_law_584 : decode code 584 = .ok (.aload_n 1, 1) := by decide +kernel
theorem d_L_law_585 : decode code 585 = .ok (.aload_n 0, 1) := by decide +kernel
theorem d_L_law_586 : decode code 586 = .ok (.iload_n 3, 1) := by decide +kernel
theorem d_L_law_587 : decode code 587 = .ok (.iconst 1, 1) := by decide +kernel
theorem d_L_law_588 : decode code 588 = .ok (.iadd, 1) := by decide +kernel
theorem d_L_law_589 : decode code 589 = .ok (.iaload, 1) := by decide +kernel
theorem d_L_law_590 : decode code 590 = .ok (.aload_n 0, 1) := by decide +kernel
theorem d_L_law_591 : decode code 591 = .ok (.iload_n 3, 1) := by decide +kernel
theorem d_L_law_592 : decode code 592 = .ok (.iconst 2, 1) := by decide +kernel
theorem d_L_law_593 : decode code 593 = .ok (.iadd, 1) := by decide +kernel
theorem d_L_law_594 : decode code 594 = .ok (.iaload, 1) := by decide +kernel
theorem d_L_law_595 : decode code 595 = .ok (.invokevirtual 90, 3) := by decide +kernel
theorem d_L_law_598 : decode code 598 = .ok (.aload_n 2, 1) := by decide +kernel
