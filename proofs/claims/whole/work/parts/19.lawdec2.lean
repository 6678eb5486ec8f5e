theorem d_L_law_453 : decode code 453 = .ok (.aload_n 3, 1) := by decide +kernel
theorem d_L_law_454 : decode code 454 = .ok (.invokestatic 104, 3) := by decide +kernel
theorem d_L_law_457 : decode code 457 = .ok (.istore 5, 2) := by decide +kernel
theorem d_L_law_459 : decode code 459 = .ok (.aload_n 2, 1) := by decide +kernel
theorem d_L_law_460 : decode code 460 = .ok (.aload_n 0, 1) := by decide +kernel
theorem d_L_law_461 : decode code 461 = .ok (.iload 4, 2) := by decide +kernel
theorem d_L_law_463 : decode code 463 = .ok (.iconst 1, 1) := by decide +kernel
theorem d_L_law_464 : decode code 464 = .ok (.iadd, 1) := by decide +kernel
theorem d_L_law_465 : decode code 465 = .ok (.iaload, 1) := by decide +kernel
theorem d_L_law_466 : decode code 466 = .ok (.aload_n 0, 1) := by decide +kernel
theorem d_L_law_467 : decode code 467 = .ok (.iload 4, 2) := by decide +kernel
theorem d_L_law_469 : decode code 469 = .ok (.iconst 2, 1) := by decide +kernel
theorem d_L_law_470 : decode code 470 = .ok (.iadd, 1) := by decide +kernel
theorem d_L_law_471 : decode code 471 = .ok (.iaload, 1) := by decide +kernel
theorem d_L_law_472 : decode code 472 = .ok (.invokevirtual 107, 3) := by decide +kernel
theorem d_L_law_475 : decode code 475 = .ok (.istore 6, 2) := by decide +kernel
theorem d_L_law_477 : decode code 477 = .ok (.aload_n 2, 1) := by decide +kernel
theorem d_L_law_478 : decode code 478 = .ok (.invokevirtual 79, 3) := by decide +kernel
theorem d_L_law_481 : decode code 481 = .ok (.iload 5, 2) := by decide +kernel
theorem d_L_law_483 : decode code 483 = .ok (.if_icmp .eq (5), 3) := by decide +kernel
theorem d_L_law_486 : decode code 486 = .ok (.iconst 0, 1) := by decide +kernel
theorem d_L_law_487 : decode code 487 = .ok (.ireturn, 1) := by decide +kernel
theorem d_L_law_488 : decode code 488 = .ok (.iload 5, 2) := by decide +kernel
theorem d_L_law_490 : decode code 490 = .ok (.ifCond .ne (15), 3) := by decide +kernel
theorem d_L_law_493 : decode code 493 = .ok (.aload_n 3, 1) := by decide +kernel
theorem d_L_law_494 : decode code 494 = .ok (.iconst 0, 1) := by decide +kernel
theorem d_L_law_495 : decode code 495 = .ok (.laload, 1) := by decide +kernel
theorem d_L_law_496 : decode code 496 = .ok (.iload 6, 2) := by decide +kernel
theorem d_L_law_498 : decode code 498 = .ok (.i2l, 1) := by decide +kernel
theorem d_L_law_499 : decode code 499 = .ok (.lcmp, 1) := by decide +kernel
theorem d_L_law_500 : decode code 500 = .ok (.ifCond .eq (5), 3) := by decide +kernel
theorem d_L_law_503 : decode code 503 = .ok (.iconst 0, 1) := by decide +kernel
theorem d_L_law_504 : decode code 504 = .ok (.ireturn, 1) := by decide +kernel
theorem d_L_law_505 : decode code 505 = .ok (.goto (648), 3) := by decide +kernel
theorem d_L_law_508 : decode code 508 = .ok (.aload_n 1, 1) := by decide +kernel
theorem d_L_law_509 : decode code 509 = .ok (.aload_n 0, 1) := by decide +kernel
theorem d_L_law_510 : decode code 510 = .ok (.iload 4, 2) := by decide +kernel
theorem d_L_law_512 : decode code 512 = .ok (.iconst 1, 1) := by decide +kernel
theorem d_L_law_513 : decode code 513 = .ok (.iadd, 1) := by decide +kernel
theorem d_L_law_514 : decode code 514 = .ok (.iaload, 1) := by decide +kernel
theorem d_L_law_515 : decode code 515 = .ok (.aload_n 0, 1) := by decide +kernel
theorem d_L_law_516 : decode code 516 = .ok (.iload 4, 2) := by decide +kernel
theorem d_L_law_518 : decode code 518 = .ok (.iconst 2, 1) := by decide +kernel
theorem d_L_law_519 : decode code 519 = .ok (.iadd, 1) := by decide +kernel
theorem d_L_law_520 : decode code 520 = .ok (.iaload, 1) := by decide +kernel
theorem d_L_law_521 : decode code 521 = .ok (.aload_n 0, 1) := by decide +kernel
theorem d_L_law_522 : decode code 522 = .ok (.iload 4, 2) := by decide +kernel
theorem d_L_law_524 : decode code 524 = .ok (.iconst 3, 1) := by decide +kernel
theorem d_L_law_525 : decode code 525 = .ok (.iadd, 1) := by decide +kernel
theorem d_L_law_526 : decode code 526 = .ok (.iaload, 1) := by decide +kernel
theorem d_L_law_527 : decode code 527 = .ok (.aload_n 0, 1) := by decide +kernel
theorem d_L_law_528 : decode code 528 = .ok (.iload 4, 2) := by decide +kernel
theorem d_L_law_530 : decode code 530 = .ok (.iconst 4, 1) := by decide +kernel
theorem d_L_law_531 : decode code 531 = .ok (.iadd, 1) := by decide +kernel
theorem d_L_law_532 : decode code 532 = .ok (.iaload, 1) := by decide +kernel
theorem d_L_law_533 : decode code 533 = .ok (.aload_n 0, 1) := by decide +kernel
theorem d_L_law_534 : decode code 534 = .ok (.iload 4, 2) := by decide +kernel
theorem d_L_law_536 : decode code 536 = .ok (.iconst 5, 1) := by decide +kernel
theorem d_L_law_537 : decode code 537 = .ok (.iadd, 1) := by decide +kernel
theorem d_L_law_538 : decode code 538 = .ok (.iaload, 1) := by decide +kernel
theorem d_L_law_539 : decode code 539 = .ok (.aload_n 3, 1) := by decide +kernel
theorem d_L_law_540 : decode code 540 = .ok (.invokestatic 108, 3) := by decide +kernel
theorem d_L_law_543 : decode code 543 = .ok (.istore 5, 2) := by decide +kernel
theorem d_L_law_545 : decode code 545 = .ok (.aload_n 2, 1) := by decide +kernel
theorem d_L_law_546 : decode code 546 = .ok (.aload_n 0, 1) := by decide +kernel
theorem d_L_law_547 : decode code 547 = .ok (.iload 4, 2) := by decide +kernel
theorem d_L_law_549 : decode code 549 = .ok (.iconst 1, 1) := by decide +kernel
theorem d_L_law_550 : decode code 550 = .ok (.iadd, 1) := by decide +kernel
theorem d_L_law_551 : decode code 551 = .ok (.iaload, 1) := by decide +kernel
theorem d_L_law_552 : decode code 552 = .ok (.aload_n 0, 1) := by decide +kernel
theorem d_L_law_553 : decode code 553 = .ok (.iload 4, 2) := by decide +kernel
theorem d_L_law_555 : decode code 555 = .ok (.iconst 2, 1) := by decide +kernel
theorem d_L_law_556 : decode code 556 = .ok (.iadd, 1) := by decide +kernel
theorem d_L_law_557 : decode code 557 = .ok (.iaload, 1) := by decide +kernel
theorem d_L_law_558 : decode code 558 = .ok (.aload_n 0, 1) := by decide +kernel
theorem d_L_law_559 : decode code 559 = .ok (.iload 4, 2) := by decide +kernel
theorem d_L_law_561 : decode code 561 = .ok (.iconst 3, 1) := by decide +kernel
theorem d_L_law_562 : decode code 562 = .ok (.iadd, 1) := by decide +kernel
theorem d_L_law_563 : decode code 563 = .ok (.iaload, 1) := by decide +kernel
theorem d_L_law_564 : decode code 564 = .ok (.aload_n 0, 1) := by decide +kernel
theorem d_L_law_565 : decode code 565 = .ok (.iload 4, 2) := by decide +kernel
theorem d_L_law_567 : decode code 567 = .ok (.iconst 4, 1) := by decide +kernel
theorem d_L_law_568 : decode code 568 = .ok (.iadd, 1) := by decide +kernel
theorem d_L_law_569 : decode code 569 = .ok (.iaload, 1) := by decide +kernel
theorem d_L_law_570 : decode code 570 = .ok (.aload_n 0, 1) := by decide +kernel
theorem d_L_law_571 : decode code 571 = .ok (.iload 4, 2) := by decide +kernel
theorem d_L_law_573 : decode code 573 = .ok (.iconst 5, 1) := by decide +kernel
theorem d_L_law_574 : decode code 574 = .ok (.iadd, 1) := by decide +kernel
theorem d_L_law_575 : decode code 575 = .ok (.iaload, 1) := by decide +kernel
theorem d_L_law_576 : decode code 576 = .ok (.invokevirtual 111, 3) := by decide +kernel
theorem d_L_law_579 : decode code 579 = .ok (.istore 6, 2) := by decide +kernel
theorem d_L_law_581 : decode code 581 = .ok (.aload_n 2, 1) := by decide +kernel
theorem d_L_law_582 : decode code 582 = .ok (.invokevirtual 79, 3) := by decide +kernel
theorem d_L_law_585 : decode code 585 = .ok (.iload 5, 2) := by decide +kernel
theorem d_L_law_587 : decode code 587 = .ok (.if_icmp .eq (5), 3) := by decide +kernel
theorem d_L_law_590 : decode code 590 = .ok (.iconst 0, 1) := by decide +kernel
theorem d_L_law_591 : decode code 591 = .ok (.ireturn, 1) := by decide +kernel
theorem d_L_law_592 : decode code 592 = .ok (.iload 5, 2) := by decide +kernel
theorem d_L_law_594 : decode code 594 = .ok (.ifCond .ne (15), 3) := by decide +kernel
theorem d_L_law_597 : decode code 597 = .ok (.aload_n 3, 1) := by decide +kernel
theorem d_L_law_598 : decode code 598 = .ok (.iconst 0, 1) := by decide +kernel
theorem d_L_law_599 : decode code 599 = .ok (.laload, 1) := by decide +kernel
theorem d_L_law_600 : decode code 600 = .ok (.iload 6, 2) := by decide +kernel
theorem d_L_law_602 : decode code 602 = .ok (.i2l, 1) := by decide +kernel
theorem d_L_law_603 : decode code 603 = .ok (.lcmp, 1) := by decide +kernel
theorem d_L_law_604 : decode code 604 = .ok (.ifCond .eq (5), 3) := by decide +kernel
theorem d_L_law_607 : decode code 607 = .ok (.iconst 0, 1) := by decide +kernel
theorem d_L_law_608 : decode code 608 = .ok (.ireturn, 1) := by decide +kernel
theorem d_L_law_609 : decode code 609 = .ok (.goto (544), 3) := by decide +kernel
theorem d_L_law_612 : decode code 612 = .ok (.aload_n 1, 1) := by decide +kernel
theorem d_L_law_613 : decode code 613 = .ok (.aload_n 0, 1) := by decide +kernel
theorem d_L_law_614 : decode code 614 = .ok (.iload 4, 2) := by decide +kernel
theorem d_L_law_616 : decode code 616 = .ok (.iconst 1, 1) := by decide +kernel
theorem d_L_law_617 : decode code 617 = .ok (.iadd, 1) := by decide +kernel
theorem d_L_law_618 : decode code 618 = .ok (.iaload, 1) := by decide +kernel
theorem d_L_law_619 : decode code 619 = .ok (.aload_n 0, 1) := by decide +kernel
theorem d_L_law_620 : decode code 620 = .ok (.iload 4, 2) := by decide +kernel
theorem d_L_law_622 : decode code 622 = .ok (.iconst 2, 1) := by decide +kernel
theorem d_L_law_623 : decode code 623 = .ok (.iadd, 1) := by decide +kernel
theorem d_L_law_624 : decode code 624 = .ok (.iaload, 1) := by decide +kernel
