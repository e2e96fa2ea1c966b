theorem d_LW_law_454 : decode M_LW_law.2.1 454 = .ok (.iadd, 1) := by decide +kernel
theorem d_LW_law_455 : decode M_LW_law.2.1 455 = .ok (.iaload, 1) := by decide +kernel
theorem d_LW_law_456 : decode M_LW_law.2.1 456 = .ok (.aload_n 0, 1) := by decide +kernel
theorem d_LW_law_457 : decode M_LW_law.2.1 457 = .ok (.iload_n 3, 1) := by decide +kernel
theorem d_LW_law_458 : decode M_LW_law.2.1 458 = .ok (.iconst 4, 1) := by decide +kernel
theorem d_LW_law_459 : decode M_LW_law.2.1 459 = .ok (.iadd, 1) := by decide +kernel
theorem d_LW_law_460 : decode M_LW_law.2.1 460 = .ok (.iaload, 1) := by decide +kernel
theorem d_LW_law_461 : decode M_LW_law.2.1 461 = .ok (.invokevirtual 58, 3) := by decide +kernel
theorem d_LW_law_464 : decode M_LW_law.2.1 464 = .ok (.aload_n 2, 1) := by decide +kernel
theorem d_LW_law_465 : decode M_LW_law.2.1 465 = .ok (.aload_n 0, 1) := by decide +kernel
theorem d_LW_law_466 : decode M_LW_law.2.1 466 = .ok (.iload_n 3, 1) := by decide +kernel
theorem d_LW_law_467 : decode M_LW_law.2.1 467 = .ok (.iconst 1, 1) := by decide +kernel
theorem d_LW_law_468 : decode M_LW_law.2.1 468 = .ok (.iadd, 1) := by decide +kernel
theorem d_LW_law_469 : decode M_LW_law.2.1 469 = .ok (.iaload, 1) := by decide +kernel
theorem d_LW_law_470 : decode M_LW_law.2.1 470 = .ok (.aload_n 0, 1) := by decide +kernel
theorem d_LW_law_471 : decode M_LW_law.2.1 471 = .ok (.iload_n 3, 1) := by decide +kernel
theorem d_LW_law_472 : decode M_LW_law.2.1 472 = .ok (.iconst 2, 1) := by decide +kernel
theorem d_LW_law_473 : decode M_LW_law.2.1 473 = .ok (.iadd, 1) := by decide +kernel
theorem d_LW_law_474 : decode M_LW_law.2.1 474 = .ok (.iaload, 1) := by decide +kernel
theorem d_LW_law_475 : decode M_LW_law.2.1 475 = .ok (.aload_n 0, 1) := by decide +kernel
theorem d_LW_law_476 : decode M_LW_law.2.1 476 = .ok (.iload_n 3, 1) := by decide +kernel
theorem d_LW_law_477 : decode M_LW_law.2.1 477 = .ok (.iconst 3, 1) := by decide +kernel
theorem d_LW_law_478 : decode M_LW_law.2.1 478 = .ok (.iadd, 1) := by decide +kernel
theorem d_LW_law_479 : decode M_LW_law.2.1 479 = .ok (.iaload, 1) := by decide +kernel
theorem d_LW_law_480 : decode M_LW_law.2.1 480 = .ok (.aload_n 0, 1) := by decide +kernel
theorem d_LW_law_481 : decode M_LW_law.2.1 481 = .ok (.iload_n 3, 1) := by decide +kernel
theorem d_LW_law_482 : decode M_LW_law.2.1 482 = .ok (.iconst 4, 1) := by decide +kernel
theorem d_LW_law_483 : decode M_LW_law.2.1 483 = .ok (.iadd, 1) := by decide +kernel
theorem d_LW_law_484 : decode M_LW_law.2.1 484 = .ok (.iaload, 1) := by decide +kernel
theorem d_LW_law_485 : decode M_LW_law.2.1 485 = .ok (.invokevirtual 62, 3) := by decide +kernel
theorem d_LW_law_488 : decode M_LW_law.2.1 488 = .ok (.if_icmp .eq 538, 3) := by decide +kernel
theorem d_LW_law_491 : decode M_LW_law.2.1 491 = .ok (.iconst 0, 1) := by decide +kernel
theorem d_LW_law_492 : decode M_LW_law.2.1 492 = .ok (.ireturn, 1) := by decide +kernel
theorem d_LW_law_493 : decode M_LW_law.2.1 493 = .ok (.aload_n 1, 1) := by decide +kernel
theorem d_LW_law_494 : decode M_LW_law.2.1 494 = .ok (.aload_n 0, 1) := by decide +kernel
theorem d_LW_law_495 : decode M_LW_law.2.1 495 = .ok (.iload_n 3, 1) := by decide +kernel
theorem d_LW_law_496 : decode M_LW_law.2.1 496 = .ok (.iconst 1, 1) := by decide +kernel
theorem d_LW_law_497 : decode M_LW_law.2.1 497 = .ok (.iadd, 1) := by decide +kernel
theorem d_LW_law_498 : decode M_LW_law.2.1 498 = .ok (.iaload, 1) := by decide +kernel
theorem d_LW_law_499 : decode M_LW_law.2.1 499 = .ok (.aload_n 0, 1) := by decide +kernel
theorem d_LW_law_500 : decode M_LW_law.2.1 500 = .ok (.iload_n 3, 1) := by decide +kernel
theorem d_LW_law_501 : decode M_LW_law.2.1 501 = .ok (.iconst 2, 1) := by decide +kernel
theorem d_LW_law_502 : decode M_LW_law.2.1 502 = .ok (.iadd, 1) := by decide +kernel
theorem d_LW_law_503 : decode M_LW_law.2.1 503 = .ok (.iaload, 1) := by decide +kernel
theorem d_LW_law_504 : decode M_LW_law.2.1 504 = .ok (.aload_n 0, 1) := by decide +kernel
theorem d_LW_law_505 : decode M_LW_law.2.1 505 = .ok (.iload_n 3, 1) := by decide +kernel
theorem d_LW_law_506 : decode M_LW_law.2.1 506 = .ok (.iconst 3, 1) := by decide +kernel
theorem d_LW_law_507 : decode M_LW_law.2.1 507 = .ok (.iadd, 1) := by decide +kernel
theorem d_LW_law_508 : decode M_LW_law.2.1 508 = .ok (.iaload, 1) := by decide +kernel
theorem d_LW_law_509 : decode M_LW_law.2.1 509 = .ok (.invokevirtual 63, 3) := by decide +kernel
theorem d_LW_law_512 : decode M_LW_law.2.1 512 = .ok (.aload_n 2, 1) := by decide +kernel
theorem d_LW_law_513 : decode M_LW_law.2.1 513 = .ok (.aload_n 0, 1) := by decide +kernel
theorem d_LW_law_514 : decode M_LW_law.2.1 514 = .ok (.iload_n 3, 1) := by decide +kernel
theorem d_LW_law_515 : decode M_LW_law.2.1 515 = .ok (.iconst 1, 1) := by decide +kernel
theorem d_LW_law_516 : decode M_LW_law.2.1 516 = .ok (.iadd, 1) := by decide +kernel
theorem d_LW_law_517 : decode M_LW_law.2.1 517 = .ok (.iaload, 1) := by decide +kernel
theorem d_LW_law_518 : decode M_LW_law.2.1 518 = .ok (.aload_n 0, 1) := by decide +kernel
theorem d_LW_law_519 : decode M_LW_law.2.1 519 = .ok (.iload_n 3, 1) := by decide +kernel
theorem d_LW_law_520 : decode M_LW_law.2.1 520 = .ok (.iconst 2, 1) := by decide +kernel
theorem d_LW_law_521 : decode M_LW_law.2.1 521 = .ok (.iadd, 1) := by decide +kernel
theorem d_LW_law_522 : decode M_LW_law.2.1 522 = .ok (.iaload, 1) := by decide +kernel
theorem d_LW_law_523 : decode M_LW_law.2.1 523 = .ok (.aload_n 0, 1) := by decide +kernel
theorem d_LW_law_524 : decode M_LW_law.2.1 524 = .ok (.iload_n 3, 1) := by decide +kernel
theorem d_LW_law_525 : decode M_LW_law.2.1 525 = .ok (.iconst 3, 1) := by decide +kernel
theorem d_LW_law_526 : decode M_LW_law.2.1 526 = .ok (.iadd, 1) := by decide +kernel
theorem d_LW_law_527 : decode M_LW_law.2.1 527 = .ok (.iaload, 1) := by decide +kernel
theorem d_LW_law_528 : decode M_LW_law.2.1 528 = .ok (.invokevirtual 67, 3) := by decide +kernel
theorem d_LW_law_531 : decode M_LW_law.2.1 531 = .ok (.if_icmp .eq 495, 3) := by decide +kernel
theorem d_LW_law_534 : decode M_LW_law.2.1 534 = .ok (.iconst 0, 1) := by decide +kernel
theorem d_LW_law_535 : decode M_LW_law.2.1 535 = .ok (.ireturn, 1) := by decide +kernel
theorem d_LW_law_536 : decode M_LW_law.2.1 536 = .ok (.aload_n 1, 1) := by decide +kernel
theorem d_LW_law_537 : decode M_LW_law.2.1 537 = .ok (.aload_n 0, 1) := by decide +kernel
theorem d_LW_law_538 : decode M_LW_law.2.1 538 = .ok (.iload_n 3, 1) := by decide +kernel
theorem d_LW_law_539 : decode M_LW_law.2.1 539 = .ok (.iconst 1, 1) := by decide +kernel
theorem d_LW_law_540 : decode M_LW_law.2.1 540 = .ok (.iadd, 1) := by decide +kernel
theorem d_LW_law_541 : decode M_LW_law.2.1 541 = .ok (.iaload, 1) := by decide +kernel
theorem d_LW_law_542 : decode M_LW_law.2.1 542 = .ok (.aload_n 0, 1) := by decide +kernel
theorem d_LW_law_543 : decode M_LW_law.2.1 543 = .ok (.iload_n 3, 1) := by decide +kernel
theorem d_LW_law_544 : decode M_LW_law.2.1 544 = .ok (.iconst 2, 1) := by decide +kernel
theorem d_LW_law_545 : decode M_LW_law.2.1 545 = .ok (.iadd, 1) := by decide +kernel
theorem d_LW_law_546 : decode M_LW_law.2.1 546 = .ok (.iaload, 1) := by decide +kernel
theorem d_LW_law_547 : decode M_LW_law.2.1 547 = .ok (.invokevirtual 68, 3) := by decide +kernel
theorem d_LW_law_550 : decode M_LW_law.2.1 550 = .ok (.aload_n 2, 1) := by decide +kernel
theorem d_LW_law_551 : decode M_LW_law.2.1 551 = .ok (.aload_n 0, 1) := by decide +kernel
theorem d_LW_law_552 : decode M_LW_law.2.1 552 = .ok (.iload_n 3, 1) := by decide +kernel
theorem d_LW_law_553 : decode M_LW_law.2.1 553 = .ok (.iconst 1, 1) := by decide +kernel
theorem d_LW_law_554 : decode M_LW_law.2.1 554 = .ok (.iadd, 1) := by decide +kernel
theorem d_LW_law_555 : decode M_LW_law.2.1 555 = .ok (.iaload, 1) := by decide +kernel
theorem d_LW_law_556 : decode M_LW_law.2.1 556 = .ok (.aload_n 0, 1) := by decide +kernel
theorem d_LW_law_557 : decode M_LW_law.2.1 557 = .ok (.iload_n 3, 1) := by decide +kernel
theorem d_LW_law_558 : decode M_LW_law.2.1 558 = .ok (.iconst 2, 1) := by decide +kernel
theorem d_LW_law_559 : decode M_LW_law.2.1 559 = .ok (.iadd, 1) := by decide +kernel
theorem d_LW_law_560 : decode M_LW_law.2.1 560 = .ok (.iaload, 1) := by decide +kernel
theorem d_LW_law_561 : decode M_LW_law.2.1 561 = .ok (.invokevirtual 71, 3) := by decide +kernel
theorem d_LW_law_564 : decode M_LW_law.2.1 564 = .ok (.if_icmp .eq 462, 3) := by decide +kernel
theorem d_LW_law_567 : decode M_LW_law.2.1 567 = .ok (.iconst 0, 1) := by decide +kernel
theorem d_LW_law_568 : decode M_LW_law.2.1 568 = .ok (.ireturn, 1) := by decide +kernel
theorem d_LW_law_569 : decode M_LW_law.2.1 569 = .ok (.aload_n 1, 1) := by decide +kernel
theorem d_LW_law_570 : decode M_LW_law.2.1 570 = .ok (.aload_n 0, 1) := by decide +kernel
theorem d_LW_law_571 : decode M_LW_law.2.1 571 = .ok (.iload_n 3, 1) := by decide +kernel
theorem d_LW_law_572 : decode M_LW_law.2.1 572 = .ok (.iconst 1, 1) := by decide +kernel
theorem d_LW_law_573 : decode M_LW_law.2.1 573 = .ok (.iadd, 1) := by decide +kernel
theorem d_LW_law_574 : decode M_LW_law.2.1 574 = .ok (.iaload, 1) := by decide +kernel
theorem d_LW_law_575 : decode M_LW_law.2.1 575 = .ok (.aload_n 0, 1) := by decide +kernel
theorem d_LW_law_576 : decode M_LW_law.2.1 576 = .ok (.iload_n 3, 1) := by decide +kernel
theorem d_LW_law_577 : decode M_LW_law.2.1 577 = .ok (.iconst 2, 1) := by decide +kernel
theorem d_LW_law_578 : decode M_LW_law.2.1 578 = .ok (.iadd, 1) := by decide +kernel
theorem d_LW_law_579 : decode M_LW_law.2.1 579 = .ok (.iaload, 1) := by decide +kernel
theorem d_LW_law_580 : decode M_LW_law.2.1 580 = .ok (.invokevirtual 72, 3) := by decide +kernel
theorem d_LW_law_583 : decode M_LW_law.2.1 583 = .ok (.aload_n 2, 1) := by decide +kernel
theorem d_LW_law_584 : decode M_LW_law.2.1 584 = .ok (.aload_n 0, 1) := by decide +kernel
theorem d_LW_law_585 : decode M_LW_law.2.1 585 = .ok (.iload_n 3, 1) := by decide +kernel
theorem d_LW_law_586 : decode M_LW_law.2.1 586 = .ok (.iconst 1, 1) := by decide +kernel
theorem d_LW_law_587 : decode M_LW_law.2.1 587 = .ok (.iadd, 1) := by decide +kernel
theorem d_LW_law_588 : decode M_LW_law.2.1 588 = .ok (.iaload, 1) := by decide +kernel
theorem d_LW_law_589 : decode M_LW_law.2.1 589 = .ok (.aload_n 0, 1) := by decide +kernel
theorem d_LW_law_590 : decode M_LW_law.2.1 590 = .ok (.iload_n 3, 1) := by decide +kernel
theorem d_LW_law_591 : decode M_LW_law.2.1 591 = .ok (.iconst 2, 1) := by decide +kernel
theorem d_LW_law_592 : decode M_LW_law.2.1 592 = .ok (.iadd, 1) := by decide +kernel
theorem d_LW_law_593 : decode M_LW_law.2.1 593 = .ok (.iaload, 1) := by decide +kernel
