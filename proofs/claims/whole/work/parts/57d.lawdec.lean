theorem d_L_law_461 : decode code 461 = .ok (.iconst 1, 1) := by decide +kernel
theorem d_L_law_462 : decode code 462 = .ok (.iadd, 1) := by decide +kernel
theorem d_L_law_463 : decode code 463 = .ok (.iaload, 1) := by decide +kernel
theorem d_L_law_464 : decode code 464 = .ok (.aload_n 0, 1) := by decide +kernel
theorem d_L_law_465 : decode code 465 = .ok (.iload 4, 2) := by decide +kernel
theorem d_L_law_467 : decode code 467 = .ok (.iconst 2, 1) := by decide +kernel
theorem d_L_law_468 : decode code 468 = .ok (.iadd, 1) := by decide +kernel
theorem d_L_law_469 : decode code 469 = .ok (.iaload, 1) := by decide +kernel
theorem d_L_law_470 : decode code 470 = .ok (.invokevirtual 87, 3) := by decide +kernel
theorem d_L_law_473 : decode code 473 = .ok (.istore 6, 2) := by decide +kernel
theorem d_L_law_475 : decode code 475 = .ok (.aload_n 2, 1) := by decide +kernel
theorem d_L_law_476 : decode code 476 = .ok (.invokevirtual 66, 3) := by decide +kernel
theorem d_L_law_479 : decode code 479 = .ok (.iload 5, 2) := by decide +kernel
theorem d_L_law_481 : decode code 481 = .ok (.if_icmp .eq 5, 3) := by decide +kernel
theorem d_L_law_484 : decode code 484 = .ok (.iconst 0, 1) := by decide +kernel
theorem d_L_law_485 : decode code 485 = .ok (.ireturn, 1) := by decide +kernel
theorem d_L_law_486 : decode code 486 = .ok (.iload 5, 2) := by decide +kernel
theorem d_L_law_488 : decode code 488 = .ok (.ifCond .ne 15, 3) := by decide +kernel
theorem d_L_law_491 : decode code 491 = .ok (.aload_n 3, 1) := by decide +kernel
theorem d_L_law_492 : decode code 492 = .ok (.iconst 0, 1) := by decide +kernel
theorem d_L_law_493 : decode code 493 = .ok (.laload, 1) := by decide +kernel
theorem d_L_law_494 : decode code 494 = .ok (.iload 6, 2) := by decide +kernel
theorem d_L_law_496 : decode code 496 = .ok (.i2l, 1) := by decide +kernel
theorem d_L_law_497 : decode code 497 = .ok (.lcmp, 1) := by decide +kernel
theorem d_L_law_498 : decode code 498 = .ok (.ifCond .eq 5, 3) := by decide +kernel
theorem d_L_law_501 : decode code 501 = .ok (.iconst 0, 1) := by decide +kernel
theorem d_L_law_502 : decode code 502 = .ok (.ireturn, 1) := by decide +kernel
theorem d_L_law_503 : decode code 503 = .ok (.goto 380, 3) := by decide +kernel
theorem d_L_law_506 : decode code 506 = .ok (.aload_n 1, 1) := by decide +kernel
theorem d_L_law_507 : decode code 507 = .ok (.aload_n 0, 1) := by decide +kernel
theorem d_L_law_508 : decode code 508 = .ok (.iload 4, 2) := by decide +kernel
theorem d_L_law_510 : decode code 510 = .ok (.iconst 1, 1) := by decide +kernel
theorem d_L_law_511 : decode code 511 = .ok (.iadd, 1) := by decide +kernel
theorem d_L_law_512 : decode code 512 = .ok (.iaload, 1) := by decide +kernel
theorem d_L_law_513 : decode code 513 = .ok (.aload_n 0, 1) := by decide +kernel
theorem d_L_law_514 : decode code 514 = .ok (.iload 4, 2) := by decide +kernel
theorem d_L_law_516 : decode code 516 = .ok (.iconst 2, 1) := by decide +kernel
theorem d_L_law_517 : decode code 517 = .ok (.iadd, 1) := by decide +kernel
theorem d_L_law_518 : decode code 518 = .ok (.iaload, 1) := by decide +kernel
theorem d_L_law_519 : decode code 519 = .ok (.aload_n 3, 1) := by decide +kernel
theorem d_L_law_520 : decode code 520 = .ok (.invokestatic 88, 3) := by decide +kernel
theorem d_L_law_523 : decode code 523 = .ok (.istore 5, 2) := by decide +kernel
theorem d_L_law_525 : decode code 525 = .ok (.aload_n 2, 1) := by decide +kernel
theorem d_L_law_526 : decode code 526 = .ok (.aload_n 0, 1) := by decide +kernel
theorem d_L_law_527 : decode code 527 = .ok (.iload 4, 2) := by decide +kernel
theorem d_L_law_529 : decode code 529 = .ok (.iconst 1, 1) := by decide +kernel
theorem d_L_law_530 : decode code 530 = .ok (.iadd, 1) := by decide +kernel
theorem d_L_law_531 : decode code 531 = .ok (.iaload, 1) := by decide +kernel
theorem d_L_law_532 : decode code 532 = .ok (.aload_n 0, 1) := by decide +kernel
theorem d_L_law_533 : decode code 533 = .ok (.iload 4, 2) := by decide +kernel
theorem d_L_law_535 : decode code 535 = .ok (.iconst 2, 1) := by decide +kernel
theorem d_L_law_536 : decode code 536 = .ok (.iadd, 1) := by decide +kernel
theorem d_L_law_537 : decode code 537 = .ok (.iaload, 1) := by decide +kernel
theorem d_L_law_538 : decode code 538 = .ok (.invokevirtual 90, 3) := by decide +kernel
theorem d_L_law_541 : decode code 541 = .ok (.istore 6, 2) := by decide +kernel
theorem d_L_law_543 : decode code 543 = .ok (.aload_n 2, 1) := by decide +kernel
theorem d_L_law_544 : decode code 544 = .ok (.invokevirtual 66, 3) := by decide +kernel
theorem d_L_law_547 : decode code 547 = .ok (.iload 5, 2) := by decide +kernel
theorem d_L_law_549 : decode code 549 = .ok (.if_icmp .eq 5, 3) := by decide +kernel
theorem d_L_law_552 : decode code 552 = .ok (.iconst 0, 1) := by decide +kernel
theorem d_L_law_553 : decode code 553 = .ok (.ireturn, 1) := by decide +kernel
theorem d_L_law_554 : decode code 554 = .ok (.iload 5, 2) := by decide +kernel
theorem d_L_law_556 : decode code 556 = .ok (.ifCond .ne 15, 3) := by decide +kernel
theorem d_L_law_559 : decode code 559 = .ok (.aload_n 3, 1) := by decide +kernel
theorem d_L_law_560 : decode code 560 = .ok (.iconst 0, 1) := by decide +kernel
theorem d_L_law_561 : decode code 561 = .ok (.laload, 1) := by decide +kernel
theorem d_L_law_562 : decode code 562 = .ok (.iload 6, 2) := by decide +kernel
theorem d_L_law_564 : decode code 564 = .ok (.i2l, 1) := by decide +kernel
theorem d_L_law_565 : decode code 565 = .ok (.lcmp, 1) := by decide +kernel
theorem d_L_law_566 : decode code 566 = .ok (.ifCond .eq 5, 3) := by decide +kernel
theorem d_L_law_569 : decode code 569 = .ok (.iconst 0, 1) := by decide +kernel
theorem d_L_law_570 : decode code 570 = .ok (.ireturn, 1) := by decide +kernel
theorem d_L_law_571 : decode code 571 = .ok (.goto 312, 3) := by decide +kernel
theorem d_L_law_574 : decode code 574 = .ok (.aload_n 1, 1) := by decide +kernel
theorem d_L_law_575 : decode code 575 = .ok (.aload_n 0, 1) := by decide +kernel
theorem d_L_law_576 : decode code 576 = .ok (.iload 4, 2) := by decide +kernel
theorem d_L_law_578 : decode code 578 = .ok (.iconst 1, 1) := by decide +kernel
theorem d_L_law_579 : decode code 579 = .ok (.iadd, 1) := by decide +kernel
theorem d_L_law_580 : decode code 580 = .ok (.iaload, 1) := by decide +kernel
theorem d_L_law_581 : decode code 581 = .ok (.aload_n 3, 1) := by decide +kernel
theorem d_L_law_582 : decode code 582 = .ok (.invokestatic 91, 3) := by decide +kernel
theorem d_L_law_585 : decode code 585 = .ok (.istore 5, 2) := by decide +kernel
theorem d_L_law_587 : decode code 587 = .ok (.aload_n 2, 1) := by decide +kernel
theorem d_L_law_588 : decode code 588 = .ok (.aload_n 0, 1) := by decide +kernel
theorem d_L_law_589 : decode code 589 = .ok (.iload 4, 2) := by decide +kernel
theorem d_L_law_591 : decode code 591 = .ok (.iconst 1, 1) := by decide +kernel
theorem d_L_law_592 : decode code 592 = .ok (.iadd, 1) := by decide +kernel
theorem d_L_law_593 : decode code 593 = .ok (.iaload, 1) := by decide +kernel
theorem d_L_law_594 : decode code 594 = .ok (.invokevirtual 93, 3) := by decide +kernel
theorem d_L_law_597 : decode code 597 = .ok (.lstore 6, 2) := by decide +kernel
theorem d_L_law_599 : decode code 599 = .ok (.aload_n 2, 1) := by decide +kernel
theorem d_L_law_600 : decode code 600 = .ok (.invokevirtual 66, 3) := by decide +kernel
theorem d_L_law_603 : decode code 603 = .ok (.iload 5, 2) := by decide +kernel
theorem d_L_law_605 : decode code 605 = .ok (.if_icmp .eq 5, 3) := by decide +kernel
theorem d_L_law_608 : decode code 608 = .ok (.iconst 0, 1) := by decide +kernel
theorem d_L_law_609 : decode code 609 = .ok (.ireturn, 1) := by decide +kernel
theorem d_L_law_610 : decode code 610 = .ok (.iload 5, 2) := by decide +kernel
theorem d_L_law_612 : decode code 612 = .ok (.ifCond .ne 14, 3) := by decide +kernel
theorem d_L_law_615 : decode code 615 = .ok (.aload_n 3, 1) := by decide +kernel
theorem d_L_law_616 : decode code 616 = .ok (.iconst 0, 1) := by decide +kernel
theorem d_L_law_617 : decode code 617 = .ok (.laload, 1) := by decide +kernel
theorem d_L_law_618 : decode code 618 = .ok (.lload 6, 2) := by decide +kernel
theorem d_L_law_620 : decode code 620 = .ok (.lcmp, 1) := by decide +kernel
theorem d_L_law_621 : decode code 621 = .ok (.ifCond .eq 5, 3) := by decide +kernel
theorem d_L_law_624 : decode code 624 = .ok (.iconst 0, 1) := by decide +kernel
theorem d_L_law_625 : decode code 625 = .ok (.ireturn, 1) := by decide +kernel
theorem d_L_law_626 : decode code 626 = .ok (.goto 257, 3) := by decide +kernel
theorem d_L_law_629 : decode code 629 = .ok (.aload_n 1, 1) := by decide +kernel
theorem d_L_law_630 : decode code 630 = .ok (.aload_n 0, 1) := by decide +kernel
theorem d_L_law_631 : decode code 631 = .ok (.iload 4, 2) := by decide +kernel
theorem d_L_law_633 : decode code 633 = .ok (.iconst 1, 1) := by decide +kernel
theorem d_L_law_634 : decode code 634 = .ok (.iadd, 1) := by decide +kernel
theorem d_L_law_635 : decode code 635 = .ok (.iaload, 1) := by decide +kernel
theorem d_L_law_636 : decode code 636 = .ok (.aload_n 3, 1) := by decide +kernel
theorem d_L_law_637 : decode code 637 = .ok (.invokestatic 94, 3) := by decide +kernel
theorem d_L_law_640 : decode code 640 = .ok (.istore 5, 2) := by decide +kernel
theorem d_L_law_642 : decode code 642 = .ok (.aload_n 2, 1) := by decide +kernel
theorem d_L_law_643 : decode code 643 = .ok (.aload_n 0, 1) := by decide +kernel
theorem d_L_law_644 : decode code 644 = .ok (.iload 4, 2) := by decide +kernel
theorem d_L_law_646 : decode code 646 = .ok (.iconst 1, 1) := by decide +kernel
theorem d_L_law_647 : decode code 647 = .ok (.iadd, 1) := by decide +kernel
theorem d_L_law_648 : decode code 648 = .ok (.iaload, 1) := by decide +kernel
theorem d_L_law_649 : decode code 649 = .ok (.invokevirtual 96, 3) := by decide +kernel
theorem d_L_law_652 : decode code 652 = .ok (.istore 6, 2) := by decide +kernel
theorem d_L_law_654 : decode code 654 = .ok (.aload_n 2, 1) := by decide +kernel
theorem d_L_law_655 : decode code 655 = .ok (.invokevirtual 66, 3) := by decide +kernel
theorem d_L_law_658 : decode code 658 = .ok (.iload 5, 2) := by decide +kernel
theorem d_L_law_660 : decode code 660 = .ok (.if_icmp .eq 5, 3) := by decide +kernel
theorem d_L_law_663 : decode code 663 = .ok (.iconst 0, 1) := by decide +kernel
theorem d_L_law_664 : decode code 664 = .ok (.ireturn, 1) := by decide +kernel
theorem d_L_law_665 : decode code 665 = .ok (.iload 5, 2) := by decide +kernel
theorem d_L_law_667 : decode code 667 = .ok (.ifCond .ne 15, 3) := by decide +kernel
theorem d_L_law_670 : decode code 670 = .ok (.aload_n 3, 1) := by decide +kernel
theorem d_L_law_671 : decode code 671 = .ok (.iconst 0, 1) := by decide +kernel
theorem d_L_law_672 : decode code 672 = .ok (.laload, 1) := by decide +kernel
theorem d_L_law_673 : decode code 673 = .ok (.iload 6, 2) := by decide +kernel
theorem d_L_law_675 : decode code 675 = .ok (.i2l, 1) := by decide +kernel
