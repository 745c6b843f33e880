theorem dL_isWhole_399 : decode cL_isWhole 399 = .ok (.iload 10, 2) := by decide +kernel
theorem dL_isWhole_401 : decode cL_isWhole 401 = .ok (.invokestatic 338, 3) := by decide +kernel
theorem dL_isWhole_404 : decode cL_isWhole 404 = .ok (.istore 12, 2) := by decide +kernel
theorem dL_isWhole_406 : decode cL_isWhole 406 = .ok (.iload 10, 2) := by decide +kernel
theorem dL_isWhole_408 : decode cL_isWhole 408 = .ok (.ifCond .ne 8, 3) := by decide +kernel
theorem dL_isWhole_411 : decode cL_isWhole 411 = .ok (.iload 12, 2) := by decide +kernel
theorem dL_isWhole_413 : decode cL_isWhole 413 = .ok (.goto 11, 3) := by decide +kernel
theorem dL_isWhole_416 : decode cL_isWhole 416 = .ok (.aload_n 0, 1) := by decide +kernel
theorem dL_isWhole_417 : decode cL_isWhole 417 = .ok (.iload 10, 2) := by decide +kernel
theorem dL_isWhole_419 : decode cL_isWhole 419 = .ok (.iconst 1, 1) := by decide +kernel
theorem dL_isWhole_420 : decode cL_isWhole 420 = .ok (.isub, 1) := by decide +kernel
theorem dL_isWhole_421 : decode cL_isWhole 421 = .ok (.invokestatic 338, 3) := by decide +kernel
theorem dL_isWhole_424 : decode cL_isWhole 424 = .ok (.istore 13, 2) := by decide +kernel
theorem dL_isWhole_426 : decode cL_isWhole 426 = .ok (.iload 12, 2) := by decide +kernel
theorem dL_isWhole_428 : decode cL_isWhole 428 = .ok (.ifCond .lt 15, 3) := by decide +kernel
theorem dL_isWhole_431 : decode cL_isWhole 431 = .ok (.iload 10, 2) := by decide +kernel
theorem dL_isWhole_433 : decode cL_isWhole 433 = .ok (.ifCond .le 12, 3) := by decide +kernel
theorem dL_isWhole_436 : decode cL_isWhole 436 = .ok (.iload 12, 2) := by decide +kernel
theorem dL_isWhole_438 : decode cL_isWhole 438 = .ok (.iload 13, 2) := by decide +kernel
theorem dL_isWhole_440 : decode cL_isWhole 440 = .ok (.if_icmp .ne 5, 3) := by decide +kernel
theorem dL_isWhole_443 : decode cL_isWhole 443 = .ok (.iconst 0, 1) := by decide +kernel
theorem dL_isWhole_444 : decode cL_isWhole 444 = .ok (.ireturn, 1) := by decide +kernel
theorem dL_isWhole_445 : decode cL_isWhole 445 = .ok (.iinc 10 1, 3) := by decide +kernel
theorem dL_isWhole_448 : decode cL_isWhole 448 = .ok (.goto (-148), 3) := by decide +kernel
theorem dL_isWhole_451 : decode cL_isWhole 451 = .ok (.aload_n 1, 1) := by decide +kernel
theorem dL_isWhole_452 : decode cL_isWhole 452 = .ok (.iload_n 2, 1) := by decide +kernel
theorem dL_isWhole_453 : decode cL_isWhole 453 = .ok (.iconst 2, 1) := by decide +kernel
theorem dL_isWhole_454 : decode cL_isWhole 454 = .ok (.iadd, 1) := by decide +kernel
theorem dL_isWhole_455 : decode cL_isWhole 455 = .ok (.bipush 41, 2) := by decide +kernel
theorem dL_isWhole_457 : decode cL_isWhole 457 = .ok (.invokestatic 189, 3) := by decide +kernel
theorem dL_isWhole_460 : decode cL_isWhole 460 = .ok (.istore 10, 2) := by decide +kernel
theorem dL_isWhole_462 : decode cL_isWhole 462 = .ok (.aload_n 0, 1) := by decide +kernel
theorem dL_isWhole_463 : decode cL_isWhole 463 = .ok (.iload 10, 2) := by decide +kernel
theorem dL_isWhole_465 : decode cL_isWhole 465 = .ok (.invokestatic 325, 3) := by decide +kernel
theorem dL_isWhole_468 : decode cL_isWhole 468 = .ok (.aload_n 0, 1) := by decide +kernel
theorem dL_isWhole_469 : decode cL_isWhole 469 = .ok (.iload 10, 2) := by decide +kernel
theorem dL_isWhole_471 : decode cL_isWhole 471 = .ok (.invokestatic 340, 3) := by decide +kernel
theorem dL_isWhole_474 : decode cL_isWhole 474 = .ok (.lcmp, 1) := by decide +kernel
theorem dL_isWhole_475 : decode cL_isWhole 475 = .ok (.ifCond .ne 48, 3) := by decide +kernel
theorem dL_isWhole_478 : decode cL_isWhole 478 = .ok (.iload 10, 2) := by decide +kernel
theorem dL_isWhole_480 : decode cL_isWhole 480 = .ok (.ifCond .ne 17, 3) := by decide +kernel
theorem dL_isWhole_483 : decode cL_isWhole 483 = .ok (.aload_n 0, 1) := by decide +kernel
theorem dL_isWhole_484 : decode cL_isWhole 484 = .ok (.iload 10, 2) := by decide +kernel
theorem dL_isWhole_486 : decode cL_isWhole 486 = .ok (.invokestatic 325, 3) := by decide +kernel
theorem dL_isWhole_489 : decode cL_isWhole 489 = .ok (.lconst 1, 1) := by decide +kernel
theorem dL_isWhole_490 : decode cL_isWhole 490 = .ok (.lcmp, 1) := by decide +kernel
theorem dL_isWhole_491 : decode cL_isWhole 491 = .ok (.ifCond .ne 32, 3) := by decide +kernel
theorem dL_isWhole_494 : decode cL_isWhole 494 = .ok (.goto 25, 3) := by decide +kernel
theorem dL_isWhole_497 : decode cL_isWhole 497 = .ok (.aload_n 0, 1) := by decide +kernel
theorem dL_isWhole_498 : decode cL_isWhole 498 = .ok (.iload 10, 2) := by decide +kernel
theorem dL_isWhole_500 : decode cL_isWhole 500 = .ok (.invokestatic 325, 3) := by decide +kernel
theorem dL_isWhole_503 : decode cL_isWhole 503 = .ok (.ldc2_w 342, 3) := by decide +kernel
theorem dL_isWhole_506 : decode cL_isWhole 506 = .ok (.aload_n 0, 1) := by decide +kernel
theorem dL_isWhole_507 : decode cL_isWhole 507 = .ok (.iload 10, 2) := by decide +kernel
theorem dL_isWhole_509 : decode cL_isWhole 509 = .ok (.iconst 1, 1) := by decide +kernel
theorem dL_isWhole_510 : decode cL_isWhole 510 = .ok (.isub, 1) := by decide +kernel
theorem dL_isWhole_511 : decode cL_isWhole 511 = .ok (.invokestatic 325, 3) := by decide +kernel
theorem dL_isWhole_514 : decode cL_isWhole 514 = .ok (.lmul, 1) := by decide +kernel
theorem dL_isWhole_515 : decode cL_isWhole 515 = .ok (.lcmp, 1) := by decide +kernel
theorem dL_isWhole_516 : decode cL_isWhole 516 = .ok (.ifCond .ne 7, 3) := by decide +kernel
theorem dL_isWhole_519 : decode cL_isWhole 519 = .ok (.iconst 1, 1) := by decide +kernel
theorem dL_isWhole_520 : decode cL_isWhole 520 = .ok (.goto 4, 3) := by decide +kernel
theorem dL_isWhole_523 : decode cL_isWhole 523 = .ok (.iconst 0, 1) := by decide +kernel
theorem dL_isWhole_524 : decode cL_isWhole 524 = .ok (.istore 11, 2) := by decide +kernel
theorem dL_isWhole_526 : decode cL_isWhole 526 = .ok (.iload 4, 2) := by decide +kernel
theorem dL_isWhole_528 : decode cL_isWhole 528 = .ok (.ifCond .ne 33, 3) := by decide +kernel
theorem dL_isWhole_531 : decode cL_isWhole 531 = .ok (.aload_n 0, 1) := by decide +kernel
theorem dL_isWhole_532 : decode cL_isWhole 532 = .ok (.invokestatic 344, 3) := by decide +kernel
theorem dL_isWhole_535 : decode cL_isWhole 535 = .ok (.ldc2_w 126, 3) := by decide +kernel
theorem dL_isWhole_538 : decode cL_isWhole 538 = .ok (.dcmp .l, 1) := by decide +kernel
theorem dL_isWhole_539 : decode cL_isWhole 539 = .ok (.ifCond .ne 18, 3) := by decide +kernel
theorem dL_isWhole_542 : decode cL_isWhole 542 = .ok (.aload_n 0, 1) := by decide +kernel
theorem dL_isWhole_543 : decode cL_isWhole 543 = .ok (.invokestatic 347, 3) := by decide +kernel
theorem dL_isWhole_546 : decode cL_isWhole 546 = .ok (.ldc2_w 132, 3) := by decide +kernel
theorem dL_isWhole_549 : decode cL_isWhole 549 = .ok (.lcmp, 1) := by decide +kernel
theorem dL_isWhole_550 : decode cL_isWhole 550 = .ok (.ifCond .ne 7, 3) := by decide +kernel
theorem dL_isWhole_553 : decode cL_isWhole 553 = .ok (.iconst 1, 1) := by decide +kernel
theorem dL_isWhole_554 : decode cL_isWhole 554 = .ok (.goto 42, 3) := by decide +kernel
theorem dL_isWhole_557 : decode cL_isWhole 557 = .ok (.iconst 0, 1) := by decide +kernel
theorem dL_isWhole_558 : decode cL_isWhole 558 = .ok (.goto 38, 3) := by decide +kernel
theorem dL_isWhole_561 : decode cL_isWhole 561 = .ok (.aload_n 0, 1) := by decide +kernel
theorem dL_isWhole_562 : decode cL_isWhole 562 = .ok (.invokestatic 344, 3) := by decide +kernel
theorem dL_isWhole_565 : decode cL_isWhole 565 = .ok (.iload 5, 2) := by decide +kernel
theorem dL_isWhole_567 : decode cL_isWhole 567 = .ok (.i2d, 1) := by decide +kernel
theorem dL_isWhole_568 : decode cL_isWhole 568 = .ok (.iload 4, 2) := by decide +kernel
theorem dL_isWhole_570 : decode cL_isWhole 570 = .ok (.i2d, 1) := by decide +kernel
theorem dL_isWhole_571 : decode cL_isWhole 571 = .ok (.ddiv, 1) := by decide +kernel
theorem dL_isWhole_572 : decode cL_isWhole 572 = .ok (.dcmp .l, 1) := by decide +kernel
theorem dL_isWhole_573 : decode cL_isWhole 573 = .ok (.ifCond .ne 22, 3) := by decide +kernel
theorem dL_isWhole_576 : decode cL_isWhole 576 = .ok (.aload_n 0, 1) := by decide +kernel
theorem dL_isWhole_577 : decode cL_isWhole 577 = .ok (.invokestatic 347, 3) := by decide +kernel
theorem dL_isWhole_580 : decode cL_isWhole 580 = .ok (.aload_n 0, 1) := by decide +kernel
theorem dL_isWhole_581 : decode cL_isWhole 581 = .ok (.invokestatic 344, 3) := by decide +kernel
theorem dL_isWhole_584 : decode cL_isWhole 584 = .ok (.invokestatic 349, 3) := by decide +kernel
theorem dL_isWhole_587 : decode cL_isWhole 587 = .ok (.lcmp, 1) := by decide +kernel
theorem dL_isWhole_588 : decode cL_isWhole 588 = .ok (.ifCond .ne 7, 3) := by decide +kernel
theorem dL_isWhole_591 : decode cL_isWhole 591 = .ok (.iconst 1, 1) := by decide +kernel
theorem dL_isWhole_592 : decode cL_isWhole 592 = .ok (.goto 4, 3) := by decide +kernel
theorem dL_isWhole_595 : decode cL_isWhole 595 = .ok (.iconst 0, 1) := by decide +kernel
theorem dL_isWhole_596 : decode cL_isWhole 596 = .ok (.istore 12, 2) := by decide +kernel
theorem dL_isWhole_598 : decode cL_isWhole 598 = .ok (.aload_n 0, 1) := by decide +kernel
theorem dL_isWhole_599 : decode cL_isWhole 599 = .ok (.invokevirtual 210, 3) := by decide +kernel
theorem dL_isWhole_602 : decode cL_isWhole 602 = .ok (.ifCond .ne 30, 3) := by decide +kernel
theorem dL_isWhole_605 : decode cL_isWhole 605 = .ok (.aload_n 0, 1) := by decide +kernel
theorem dL_isWhole_606 : decode cL_isWhole 606 = .ok (.invokestatic 355, 3) := by decide +kernel
theorem dL_isWhole_609 : decode cL_isWhole 609 = .ok (.ldc 138, 2) := by decide +kernel
theorem dL_isWhole_611 : decode cL_isWhole 611 = .ok (.fcmp .l, 1) := by decide +kernel
theorem dL_isWhole_612 : decode cL_isWhole 612 = .ok (.ifCond .ne 16, 3) := by decide +kernel
theorem dL_isWhole_615 : decode cL_isWhole 615 = .ok (.aload_n 0, 1) := by decide +kernel
theorem dL_isWhole_616 : decode cL_isWhole 616 = .ok (.invokestatic 358, 3) := by decide +kernel
theorem dL_isWhole_619 : decode cL_isWhole 619 = .ok (.bipush (-74), 2) := by decide +kernel
theorem dL_isWhole_621 : decode cL_isWhole 621 = .ok (.if_icmp .ne 7, 3) := by decide +kernel
theorem dL_isWhole_624 : decode cL_isWhole 624 = .ok (.iconst 1, 1) := by decide +kernel
theorem dL_isWhole_625 : decode cL_isWhole 625 = .ok (.goto 45, 3) := by decide +kernel
theorem dL_isWhole_628 : decode cL_isWhole 628 = .ok (.iconst 0, 1) := by decide +kernel
theorem dL_isWhole_629 : decode cL_isWhole 629 = .ok (.goto 41, 3) := by decide +kernel
theorem dL_isWhole_632 : decode cL_isWhole 632 = .ok (.aload_n 0, 1) := by decide +kernel
theorem dL_isWhole_633 : decode cL_isWhole 633 = .ok (.invokestatic 355, 3) := by decide +kernel
theorem dL_isWhole_636 : decode cL_isWhole 636 = .ok (.aload_n 0, 1) := by decide +kernel
theorem dL_isWhole_637 : decode cL_isWhole 637 = .ok (.invokevirtual 204, 3) := by decide +kernel
theorem dL_isWhole_640 : decode cL_isWhole 640 = .ok (.i2f, 1) := by decide +kernel
theorem dL_isWhole_641 : decode cL_isWhole 641 = .ok (.aload_n 0, 1) := by decide +kernel
theorem dL_isWhole_642 : decode cL_isWhole 642 = .ok (.invokevirtual 210, 3) := by decide +kernel
theorem dL_isWhole_645 : decode cL_isWhole 645 = .ok (.i2f, 1) := by decide +kernel
theorem dL_isWhole_646 : decode cL_isWhole 646 = .ok (.fdiv, 1) := by decide +kernel
theorem dL_isWhole_647 : decode cL_isWhole 647 = .ok (.fcmp .l, 1) := by decide +kernel
theorem dL_isWhole_648 : decode cL_isWhole 648 = .ok (.ifCond .ne 21, 3) := by decide +kernel
theorem dL_isWhole_651 : decode cL_isWhole 651 = .ok (.aload_n 0, 1) := by decide +kernel
theorem dL_isWhole_652 : decode cL_isWhole 652 = .ok (.invokestatic 358, 3) := by decide +kernel
theorem dL_isWhole_655 : decode cL_isWhole 655 = .ok (.aload_n 0, 1) := by decide +kernel
theorem dL_isWhole_656 : decode cL_isWhole 656 = .ok (.invokestatic 355, 3) := by decide +kernel
theorem dL_isWhole_659 : decode cL_isWhole 659 = .ok (.invokestatic 360, 3) := by decide +kernel
theorem dL_isWhole_662 : decode cL_isWhole 662 = .ok (.if_icmp .ne 7, 3) := by decide +kernel
theorem dL_isWhole_665 : decode cL_isWhole 665 = .ok (.iconst 1, 1) := by decide +kernel
theorem dL_isWhole_666 : decode cL_isWhole 666 = .ok (.goto 4, 3) := by decide +kernel
theorem dL_isWhole_669 : decode cL_isWhole 669 = .ok (.iconst 0, 1) := by decide +kernel
theorem dL_isWhole_670 : decode cL_isWhole 670 = .ok (.istore 13, 2) := by decide +kernel
theorem dL_isWhole_672 : decode cL_isWhole 672 = .ok (.aload_n 0, 1) := by decide +kernel
theorem dL_isWhole_673 : decode cL_isWhole 673 = .ok (.invokevirtual 366, 3) := by decide +kernel
theorem dL_isWhole_676 : decode cL_isWhole 676 = .ok (.iload 4, 2) := by decide +kernel
theorem dL_isWhole_678 : decode cL_isWhole 678 = .ok (.if_icmp .ne 63, 3) := by decide +kernel
theorem dL_isWhole_681 : decode cL_isWhole 681 = .ok (.iload 8, 2) := by decide +kernel
theorem dL_isWhole_683 : decode cL_isWhole 683 = .ok (.iload 6, 2) := by decide +kernel
theorem dL_isWhole_685 : decode cL_isWhole 685 = .ok (.if_icmp .ne 56, 3) := by decide +kernel
theorem dL_isWhole_688 : decode cL_isWhole 688 = .ok (.iload 9, 2) := by decide +kernel
theorem dL_isWhole_690 : decode cL_isWhole 690 = .ok (.iload 7, 2) := by decide +kernel
theorem dL_isWhole_692 : decode cL_isWhole 692 = .ok (.if_icmp .ne 49, 3) := by decide +kernel
theorem dL_isWhole_695 : decode cL_isWhole 695 = .ok (.aload_n 0, 1) := by decide +kernel
theorem dL_isWhole_696 : decode cL_isWhole 696 = .ok (.invokevirtual 204, 3) := by decide +kernel
theorem dL_isWhole_699 : decode cL_isWhole 699 = .ok (.aload_n 0, 1) := by decide +kernel
theorem dL_isWhole_700 : decode cL_isWhole 700 = .ok (.invokevirtual 293, 3) := by decide +kernel
theorem dL_isWhole_703 : decode cL_isWhole 703 = .ok (.iload 7, 2) := by decide +kernel
theorem dL_isWhole_705 : decode cL_isWhole 705 = .ok (.iadd, 1) := by decide +kernel
theorem dL_isWhole_706 : decode cL_isWhole 706 = .ok (.if_icmp .ne 35, 3) := by decide +kernel
theorem dL_isWhole_709 : decode cL_isWhole 709 = .ok (.aload_n 0, 1) := by decide +kernel
theorem dL_isWhole_710 : decode cL_isWhole 710 = .ok (.invokevirtual 210, 3) := by decide +kernel
theorem dL_isWhole_713 : decode cL_isWhole 713 = .ok (.aload_n 0, 1) := by decide +kernel
theorem dL_isWhole_714 : decode cL_isWhole 714 = .ok (.invokevirtual 204, 3) := by decide +kernel
theorem dL_isWhole_717 : decode cL_isWhole 717 = .ok (.aload_n 0, 1) := by decide +kernel
theorem dL_isWhole_718 : decode cL_isWhole 718 = .ok (.invokevirtual 213, 3) := by decide +kernel
theorem dL_isWhole_721 : decode cL_isWhole 721 = .ok (.iadd, 1) := by decide +kernel
theorem dL_isWhole_722 : decode cL_isWhole 722 = .ok (.aload_n 0, 1) := by decide +kernel
theorem dL_isWhole_723 : decode cL_isWhole 723 = .ok (.invokevirtual 216, 3) := by decide +kernel
theorem dL_isWhole_726 : decode cL_isWhole 726 = .ok (.iadd, 1) := by decide +kernel
theorem dL_isWhole_727 : decode cL_isWhole 727 = .ok (.if_icmp .lt 14, 3) := by decide +kernel
theorem dL_isWhole_730 : decode cL_isWhole 730 = .ok (.iload 4, 2) := by decide +kernel
theorem dL_isWhole_732 : decode cL_isWhole 732 = .ok (.bipush 16, 2) := by decide +kernel
theorem dL_isWhole_734 : decode cL_isWhole 734 = .ok (.if_icmp .gt 7, 3) := by decide +kernel
theorem dL_isWhole_737 : decode cL_isWhole 737 = .ok (.iconst 1, 1) := by decide +kernel
theorem dL_isWhole_738 : decode cL_isWhole 738 = .ok (.goto 4, 3) := by decide +kernel
theorem dL_isWhole_741 : decode cL_isWhole 741 = .ok (.iconst 0, 1) := by decide +kernel
theorem dL_isWhole_742 : decode cL_isWhole 742 = .ok (.istore 14, 2) := by decide +kernel
theorem dL_isWhole_744 : decode cL_isWhole 744 = .ok (.iload 11, 2) := by decide +kernel
theorem dL_isWhole_746 : decode cL_isWhole 746 = .ok (.ifCond .eq 46, 3) := by decide +kernel
theorem dL_isWhole_749 : decode cL_isWhole 749 = .ok (.iload 12, 2) := by decide +kernel
theorem dL_isWhole_751 : decode cL_isWhole 751 = .ok (.ifCond .eq 41, 3) := by decide +kernel
theorem dL_isWhole_754 : decode cL_isWhole 754 = .ok (.iload 13, 2) := by decide +kernel
theorem dL_isWhole_756 : decode cL_isWhole 756 = .ok (.ifCond .eq 36, 3) := by decide +kernel
theorem dL_isWhole_759 : decode cL_isWhole 759 = .ok (.iload 14, 2) := by decide +kernel
theorem dL_isWhole_761 : decode cL_isWhole 761 = .ok (.ifCond .eq 31, 3) := by decide +kernel
theorem dL_isWhole_764 : decode cL_isWhole 764 = .ok (.aload_n 0, 1) := by decide +kernel
theorem dL_isWhole_765 : decode cL_isWhole 765 = .ok (.aload_n 0, 1) := by decide +kernel
theorem dL_isWhole_766 : decode cL_isWhole 766 = .ok (.invokevirtual 231, 3) := by decide +kernel
theorem dL_isWhole_769 : decode cL_isWhole 769 = .ok (.invokestatic 338, 3) := by decide +kernel
theorem dL_isWhole_772 : decode cL_isWhole 772 = .ok (.bipush (-75), 2) := by decide +kernel
theorem dL_isWhole_774 : decode cL_isWhole 774 = .ok (.if_icmp .ne 18, 3) := by decide +kernel
theorem dL_isWhole_777 : decode cL_isWhole 777 = .ok (.iload_n 3, 1) := by decide +kernel
theorem dL_isWhole_778 : decode cL_isWhole 778 = .ok (.ifCond .eq 10, 3) := by decide +kernel
theorem dL_isWhole_781 : decode cL_isWhole 781 = .ok (.aload_n 0, 1) := by decide +kernel
theorem dL_isWhole_782 : decode cL_isWhole 782 = .ok (.invokevirtual 369, 3) := by decide +kernel
theorem dL_isWhole_785 : decode cL_isWhole 785 = .ok (.ifCond .eq 7, 3) := by decide +kernel
theorem dL_isWhole_788 : decode cL_isWhole 788 = .ok (.iconst 1, 1) := by decide +kernel
theorem dL_isWhole_789 : decode cL_isWhole 789 = .ok (.goto 4, 3) := by decide +kernel
theorem dL_isWhole_792 : decode cL_isWhole 792 = .ok (.iconst 0, 1) := by decide +kernel
theorem dL_isWhole_793 : decode cL_isWhole 793 = .ok (.ireturn, 1) := by decide +kernel
theorem dL_isKept_0 : decode cL_isKept 0 = .ok (.aload_n 0, 1) := by decide +kernel
theorem dL_isKept_1 : decode cL_isKept 1 = .ok (.invokevirtual 373, 3) := by decide +kernel
theorem dL_isKept_4 : decode cL_isKept 4 = .ok (.istore_n 3, 1) := by decide +kernel
theorem dL_isKept_5 : decode cL_isKept 5 = .ok (.bipush 8, 2) := by decide +kernel
theorem dL_isKept_7 : decode cL_isKept 7 = .ok (.iload_n 2, 1) := by decide +kernel
theorem dL_isKept_8 : decode cL_isKept 8 = .ok (.invokestatic 376, 3) := by decide +kernel
theorem dL_isKept_11 : decode cL_isKept 11 = .ok (.istore 4, 2) := by decide +kernel
theorem dL_isKept_13 : decode cL_isKept 13 = .ok (.iload_n 2, 1) := by decide +kernel
theorem dL_isKept_14 : decode cL_isKept 14 = .ok (.iconst 1, 1) := by decide +kernel
theorem dL_isKept_15 : decode cL_isKept 15 = .ok (.isub, 1) := by decide +kernel
theorem dL_isKept_16 : decode cL_isKept 16 = .ok (.istore 5, 2) := by decide +kernel
theorem dL_isKept_18 : decode cL_isKept 18 = .ok (.iload 4, 2) := by decide +kernel
theorem dL_isKept_20 : decode cL_isKept 20 = .ok (.ifCond .le 35, 3) := by decide +kernel
theorem dL_isKept_23 : decode cL_isKept 23 = .ok (.iinc 4 (-1), 3) := by decide +kernel
theorem dL_isKept_26 : decode cL_isKept 26 = .ok (.aload_n 0, 1) := by decide +kernel
theorem dL_isKept_27 : decode cL_isKept 27 = .ok (.invokestatic 381, 3) := by decide +kernel
theorem dL_isKept_30 : decode cL_isKept 30 = .ok (.iload 4, 2) := by decide +kernel
theorem dL_isKept_32 : decode cL_isKept 32 = .ok (.if_icmp .ne 15, 3) := by decide +kernel
theorem dL_isKept_35 : decode cL_isKept 35 = .ok (.aload_n 0, 1) := by decide +kernel
theorem dL_isKept_36 : decode cL_isKept 36 = .ok (.invokestatic 185, 3) := by decide +kernel
theorem dL_isKept_39 : decode cL_isKept 39 = .ok (.aload_n 1, 1) := by decide +kernel
theorem dL_isKept_40 : decode cL_isKept 40 = .ok (.iload 5, 2) := by decide +kernel
theorem dL_isKept_42 : decode cL_isKept 42 = .ok (.laload, 1) := by decide +kernel
theorem dL_isKept_43 : decode cL_isKept 43 = .ok (.lcmp, 1) := by decide +kernel
theorem dL_isKept_44 : decode cL_isKept 44 = .ok (.ifCond .eq 5, 3) := by decide +kernel
theorem dL_isKept_47 : decode cL_isKept 47 = .ok (.iconst 0, 1) := by decide +kernel
theorem dL_isKept_48 : decode cL_isKept 48 = .ok (.ireturn, 1) := by decide +kernel
theorem dL_isKept_49 : decode cL_isKept 49 = .ok (.iinc 5 (-1), 3) := by decide +kernel
theorem dL_isKept_52 : decode cL_isKept 52 = .ok (.goto (-34), 3) := by decide +kernel
theorem dL_isKept_55 : decode cL_isKept 55 = .ok (.aload_n 0, 1) := by decide +kernel
theorem dL_isKept_56 : decode cL_isKept 56 = .ok (.invokestatic 381, 3) := by decide +kernel
theorem dL_isKept_59 : decode cL_isKept 59 = .ok (.bipush (-75), 2) := by decide +kernel
theorem dL_isKept_61 : decode cL_isKept 61 = .ok (.if_icmp .ne 35, 3) := by decide +kernel
theorem dL_isKept_64 : decode cL_isKept 64 = .ok (.aload_n 0, 1) := by decide +kernel
theorem dL_isKept_65 : decode cL_isKept 65 = .ok (.invokestatic 383, 3) := by decide +kernel
theorem dL_isKept_68 : decode cL_isKept 68 = .ok (.iload_n 3, 1) := by decide +kernel
theorem dL_isKept_69 : decode cL_isKept 69 = .ok (.if_icmp .ne 27, 3) := by decide +kernel
theorem dL_isKept_72 : decode cL_isKept 72 = .ok (.aload_n 0, 1) := by decide +kernel
theorem dL_isKept_73 : decode cL_isKept 73 = .ok (.invokestatic 185, 3) := by decide +kernel
theorem dL_isKept_76 : decode cL_isKept 76 = .ok (.aload_n 1, 1) := by decide +kernel
theorem dL_isKept_77 : decode cL_isKept 77 = .ok (.iload_n 2, 1) := by decide +kernel
theorem dL_isKept_78 : decode cL_isKept 78 = .ok (.laload, 1) := by decide +kernel
theorem dL_isKept_79 : decode cL_isKept 79 = .ok (.lcmp, 1) := by decide +kernel
theorem dL_isKept_80 : decode cL_isKept 80 = .ok (.ifCond .ne 16, 3) := by decide +kernel
theorem dL_isKept_83 : decode cL_isKept 83 = .ok (.aload_n 0, 1) := by decide +kernel
theorem dL_isKept_84 : decode cL_isKept 84 = .ok (.invokestatic 381, 3) := by decide +kernel
theorem dL_isKept_87 : decode cL_isKept 87 = .ok (.bipush (-75), 2) := by decide +kernel
theorem dL_isKept_89 : decode cL_isKept 89 = .ok (.if_icmp .ne 7, 3) := by decide +kernel
theorem dL_isKept_92 : decode cL_isKept 92 = .ok (.iconst 1, 1) := by decide +kernel
theorem dL_isKept_93 : decode cL_isKept 93 = .ok (.goto 4, 3) := by decide +kernel
theorem dL_isKept_96 : decode cL_isKept 96 = .ok (.iconst 0, 1) := by decide +kernel
theorem dL_isKept_97 : decode cL_isKept 97 = .ok (.ireturn, 1) := by decide +kernel
