theorem d_L_law_429 : decode b_L_law 429 = .ok (.aload_n 0, 1) := by decide +kernel
theorem d_L_law_430 : decode b_L_law 430 = .ok (.iload 4, 2) := by decide +kernel
theorem d_L_law_432 : decode b_L_law 432 = .ok (.iconst 1, 1) := by decide +kernel
theorem d_L_law_433 : decode b_L_law 433 = .ok (.iadd, 1) := by decide +kernel
theorem d_L_law_434 : decode b_L_law 434 = .ok (.iaload, 1) := by decide +kernel
theorem d_L_law_435 : decode b_L_law 435 = .ok (.aload_n 0, 1) := by decide +kernel
theorem d_L_law_436 : decode b_L_law 436 = .ok (.iload 4, 2) := by decide +kernel
theorem d_L_law_438 : decode b_L_law 438 = .ok (.iconst 2, 1) := by decide +kernel
theorem d_L_law_439 : decode b_L_law 439 = .ok (.iadd, 1) := by decide +kernel
theorem d_L_law_440 : decode b_L_law 440 = .ok (.iaload, 1) := by decide +kernel
theorem d_L_law_441 : decode b_L_law 441 = .ok (.aload_n 3, 1) := by decide +kernel
theorem d_L_law_442 : decode b_L_law 442 = .ok (.invokestatic 104, 3) := by decide +kernel
theorem d_L_law_445 : decode b_L_law 445 = .ok (.istore 5, 2) := by decide +kernel
theorem d_L_law_447 : decode b_L_law 447 = .ok (.aload_n 2, 1) := by decide +kernel
theorem d_L_law_448 : decode b_L_law 448 = .ok (.aload_n 0, 1) := by decide +kernel
theorem d_L_law_449 : decode b_L_law 449 = .ok (.iload 4, 2) := by decide +kernel
theorem d_L_law_451 : decode b_L_law 451 = .ok (.iconst 1, 1) := by decide +kernel
theorem d_L_law_452 : decode b_L_law 452 = .ok (.iadd, 1) := by decide +kernel
theorem d_L_law_453 : decode b_L_law 453 = .ok (.iaload, 1) := by decide +kernel
theorem d_L_law_454 : decode b_L_law 454 = .ok (.aload_n 0, 1) := by decide +kernel
theorem d_L_law_455 : decode b_L_law 455 = .ok (.iload 4, 2) := by decide +kernel
theorem d_L_law_457 : decode b_L_law 457 = .ok (.iconst 2, 1) := by decide +kernel
theorem d_L_law_458 : decode b_L_law 458 = .ok (.iadd, 1) := by decide +kernel
theorem d_L_law_459 : decode b_L_law 459 = .ok (.iaload, 1) := by decide +kernel
theorem d_L_law_460 : decode b_L_law 460 = .ok (.invokevirtual 107, 3) := by decide +kernel
theorem d_L_law_463 : decode b_L_law 463 = .ok (.istore 6, 2) := by decide +kernel
theorem d_L_law_465 : decode b_L_law 465 = .ok (.aload_n 2, 1) := by decide +kernel
theorem d_L_law_466 : decode b_L_law 466 = .ok (.invokevirtual 85, 3) := by decide +kernel
theorem d_L_law_469 : decode b_L_law 469 = .ok (.iload 5, 2) := by decide +kernel
theorem d_L_law_471 : decode b_L_law 471 = .ok (.if_icmp .eq 5, 3) := by decide +kernel
theorem d_L_law_474 : decode b_L_law 474 = .ok (.iconst 0, 1) := by decide +kernel
theorem d_L_law_475 : decode b_L_law 475 = .ok (.ireturn, 1) := by decide +kernel
theorem d_L_law_476 : decode b_L_law 476 = .ok (.iload 5, 2) := by decide +kernel
theorem d_L_law_478 : decode b_L_law 478 = .ok (.ifCond .ne 15, 3) := by decide +kernel
theorem d_L_law_481 : decode b_L_law 481 = .ok (.aload_n 3, 1) := by decide +kernel
theorem d_L_law_482 : decode b_L_law 482 = .ok (.iconst 0, 1) := by decide +kernel
theorem d_L_law_483 : decode b_L_law 483 = .ok (.laload, 1) := by decide +kernel
theorem d_L_law_484 : decode b_L_law 484 = .ok (.iload 6, 2) := by decide +kernel
theorem d_L_law_486 : decode b_L_law 486 = .ok (.i2l, 1) := by decide +kernel
theorem d_L_law_487 : decode b_L_law 487 = .ok (.lcmp, 1) := by decide +kernel
theorem d_L_law_488 : decode b_L_law 488 = .ok (.ifCond .eq 5, 3) := by decide +kernel
theorem d_L_law_491 : decode b_L_law 491 = .ok (.iconst 0, 1) := by decide +kernel
theorem d_L_law_492 : decode b_L_law 492 = .ok (.ireturn, 1) := by decide +kernel
theorem d_L_law_493 : decode b_L_law 493 = .ok (.goto 627, 3) := by decide +kernel
theorem d_L_law_496 : decode b_L_law 496 = .ok (.aload_n 1, 1) := by decide +kernel
theorem d_L_law_497 : decode b_L_law 497 = .ok (.aload_n 0, 1) := by decide +kernel
theorem d_L_law_498 : decode b_L_law 498 = .ok (.iload 4, 2) := by decide +kernel
theorem d_L_law_500 : decode b_L_law 500 = .ok (.iconst 1, 1) := by decide +kernel
theorem d_L_law_501 : decode b_L_law 501 = .ok (.iadd, 1) := by decide +kernel
theorem d_L_law_502 : decode b_L_law 502 = .ok (.iaload, 1) := by decide +kernel
theorem d_L_law_503 : decode b_L_law 503 = .ok (.invokestatic 108, 3) := by decide +kernel
theorem d_L_law_506 : decode b_L_law 506 = .ok (.istore 5, 2) := by decide +kernel
theorem d_L_law_508 : decode b_L_law 508 = .ok (.aload_n 2, 1) := by decide +kernel
theorem d_L_law_509 : decode b_L_law 509 = .ok (.aload_n 0, 1) := by decide +kernel
theorem d_L_law_510 : decode b_L_law 510 = .ok (.iload 4, 2) := by decide +kernel
theorem d_L_law_512 : decode b_L_law 512 = .ok (.iconst 1, 1) := by decide +kernel
theorem d_L_law_513 : decode b_L_law 513 = .ok (.iadd, 1) := by decide +kernel
theorem d_L_law_514 : decode b_L_law 514 = .ok (.iaload, 1) := by decide +kernel
theorem d_L_law_515 : decode b_L_law 515 = .ok (.invokevirtual 110, 3) := by decide +kernel
theorem d_L_law_518 : decode b_L_law 518 = .ok (.aload_n 2, 1) := by decide +kernel
theorem d_L_law_519 : decode b_L_law 519 = .ok (.invokevirtual 85, 3) := by decide +kernel
theorem d_L_law_522 : decode b_L_law 522 = .ok (.iload 5, 2) := by decide +kernel
theorem d_L_law_524 : decode b_L_law 524 = .ok (.if_icmp .eq 5, 3) := by decide +kernel
theorem d_L_law_527 : decode b_L_law 527 = .ok (.iconst 0, 1) := by decide +kernel
theorem d_L_law_528 : decode b_L_law 528 = .ok (.ireturn, 1) := by decide +kernel
theorem d_L_law_529 : decode b_L_law 529 = .ok (.goto 591, 3) := by decide +kernel
theorem d_L_law_532 : decode b_L_law 532 = .ok (.aload_n 1, 1) := by decide +kernel
theorem d_L_law_533 : decode b_L_law 533 = .ok (.aload_n 0, 1) := by decide +kernel
theorem d_L_law_534 : decode b_L_law 534 = .ok (.iload 4, 2) := by decide +kernel
theorem d_L_law_536 : decode b_L_law 536 = .ok (.iconst 1, 1) := by decide +kernel
theorem d_L_law_537 : decode b_L_law 537 = .ok (.iadd, 1) := by decide +kernel
theorem d_L_law_538 : decode b_L_law 538 = .ok (.iaload, 1) := by decide +kernel
theorem d_L_law_539 : decode b_L_law 539 = .ok (.aload_n 0, 1) := by decide +kernel
theorem d_L_law_540 : decode b_L_law 540 = .ok (.iload 4, 2) := by decide +kernel
theorem d_L_law_542 : decode b_L_law 542 = .ok (.iconst 2, 1) := by decide +kernel
theorem d_L_law_543 : decode b_L_law 543 = .ok (.iadd, 1) := by decide +kernel
theorem d_L_law_544 : decode b_L_law 544 = .ok (.iaload, 1) := by decide +kernel
theorem d_L_law_545 : decode b_L_law 545 = .ok (.aload_n 0, 1) := by decide +kernel
theorem d_L_law_546 : decode b_L_law 546 = .ok (.iload 4, 2) := by decide +kernel
theorem d_L_law_548 : decode b_L_law 548 = .ok (.iconst 3, 1) := by decide +kernel
theorem d_L_law_549 : decode b_L_law 549 = .ok (.iadd, 1) := by decide +kernel
theorem d_L_law_550 : decode b_L_law 550 = .ok (.iaload, 1) := by decide +kernel
theorem d_L_law_551 : decode b_L_law 551 = .ok (.aload_n 3, 1) := by decide +kernel
theorem d_L_law_552 : decode b_L_law 552 = .ok (.invokestatic 111, 3) := by decide +kernel
theorem d_L_law_555 : decode b_L_law 555 = .ok (.istore 5, 2) := by decide +kernel
theorem d_L_law_557 : decode b_L_law 557 = .ok (.aload_n 2, 1) := by decide +kernel
theorem d_L_law_558 : decode b_L_law 558 = .ok (.aload_n 0, 1) := by decide +kernel
theorem d_L_law_559 : decode b_L_law 559 = .ok (.iload 4, 2) := by decide +kernel
theorem d_L_law_561 : decode b_L_law 561 = .ok (.iconst 1, 1) := by decide +kernel
theorem d_L_law_562 : decode b_L_law 562 = .ok (.iadd, 1) := by decide +kernel
theorem d_L_law_563 : decode b_L_law 563 = .ok (.iaload, 1) := by decide +kernel
theorem d_L_law_564 : decode b_L_law 564 = .ok (.aload_n 0, 1) := by decide +kernel
theorem d_L_law_565 : decode b_L_law 565 = .ok (.iload 4, 2) := by decide +kernel
theorem d_L_law_567 : decode b_L_law 567 = .ok (.iconst 2, 1) := by decide +kernel
theorem d_L_law_568 : decode b_L_law 568 = .ok (.iadd, 1) := by decide +kernel
theorem d_L_law_569 : decode b_L_law 569 = .ok (.iaload, 1) := by decide +kernel
theorem d_L_law_570 : decode b_L_law 570 = .ok (.aload_n 0, 1) := by decide +kernel
theorem d_L_law_571 : decode b_L_law 571 = .ok (.iload 4, 2) := by decide +kernel
theorem d_L_law_573 : decode b_L_law 573 = .ok (.iconst 3, 1) := by decide +kernel
theorem d_L_law_574 : decode b_L_law 574 = .ok (.iadd, 1) := by decide +kernel
theorem d_L_law_575 : decode b_L_law 575 = .ok (.iaload, 1) := by decide +kernel
theorem d_L_law_576 : decode b_L_law 576 = .ok (.invokevirtual 114, 3) := by decide +kernel
theorem d_L_law_579 : decode b_L_law 579 = .ok (.istore 6, 2) := by decide +kernel
theorem d_L_law_581 : decode b_L_law 581 = .ok (.aload_n 2, 1) := by decide +kernel
theorem d_L_law_582 : decode b_L_law 582 = .ok (.invokevirtual 85, 3) := by decide +kernel
theorem d_L_law_585 : decode b_L_law 585 = .ok (.iload 5, 2) := by decide +kernel
theorem d_L_law_587 : decode b_L_law 587 = .ok (.if_icmp .eq 5, 3) := by decide +kernel
theorem d_L_law_590 : decode b_L_law 590 = .ok (.iconst 0, 1) := by decide +kernel
theorem d_L_law_591 : decode b_L_law 591 = .ok (.ireturn, 1) := by decide +kernel
theorem d_L_law_592 : decode b_L_law 592 = .ok (.iload 5, 2) := by decide +kernel
theorem d_L_law_594 : decode b_L_law 594 = .ok (.ifCond .ne 15, 3) := by decide +kernel
theorem d_L_law_597 : decode b_L_law 597 = .ok (.aload_n 3, 1) := by decide +kernel
theorem d_L_law_598 : decode b_L_law 598 = .ok (.iconst 0, 1) := by decide +kernel
theorem d_L_law_599 : decode b_L_law 599 = .ok (.laload, 1) := by decide +kernel
theorem d_L_law_600 : decode b_L_law 600 = .ok (.iload 6, 2) := by decide +kernel
theorem d_L_law_602 : decode b_L_law 602 = .ok (.i2l, 1) := by decide +kernel
theorem d_L_law_603 : decode b_L_law 603 = .ok (.lcmp, 1) := by decide +kernel
theorem d_L_law_604 : decode b_L_law 604 = .ok (.ifCond .eq 5, 3) := by decide +kernel
theorem d_L_law_607 : decode b_L_law 607 = .ok (.iconst 0, 1) := by decide +kernel
theorem d_L_law_608 : decode b_L_law 608 = .ok (.ireturn, 1) := by decide +kernel
theorem d_L_law_609 : decode b_L_law 609 = .ok (.goto 511, 3) := by decide +kernel
theorem d_L_law_612 : decode b_L_law 612 = .ok (.aload_n 1, 1) := by decide +kernel
theorem d_L_law_613 : decode b_L_law 613 = .ok (.aload_n 0, 1) := by decide +kernel
theorem d_L_law_614 : decode b_L_law 614 = .ok (.iload 4, 2) := by decide +kernel
theorem d_L_law_616 : decode b_L_law 616 = .ok (.iconst 1, 1) := by decide +kernel
theorem d_L_law_617 : decode b_L_law 617 = .ok (.iadd, 1) := by decide +kernel
theorem d_L_law_618 : decode b_L_law 618 = .ok (.iaload, 1) := by decide +kernel
theorem d_L_law_619 : decode b_L_law 619 = .ok (.aload_n 0, 1) := by decide +kernel
theorem d_L_law_620 : decode b_L_law 620 = .ok (.iload 4, 2) := by decide +kernel
theorem d_L_law_622 : decode b_L_law 622 = .ok (.iconst 2, 1) := by decide +kernel
theorem d_L_law_623 : decode b_L_law 623 = .ok (.iadd, 1) := by decide +kernel
theorem d_L_law_624 : decode b_L_law 624 = .ok (.iaload, 1) := by decide +kernel
theorem d_L_law_625 : decode b_L_law 625 = .ok (.aload_n 3, 1) := by decide +kernel
theorem d_L_law_626 : decode b_L_law 626 = .ok (.invokestatic 115, 3) := by decide +kernel
theorem d_L_law_629 : decode b_L_law 629 = .ok (.istore 5, 2) := by decide +kernel
theorem d_L_law_631 : decode b_L_law 631 = .ok (.aload_n 2, 1) := by decide +kernel
theorem d_L_law_632 : decode b_L_law 632 = .ok (.aload_n 0, 1) := by decide +kernel
theorem d_L_law_633 : decode b_L_law 633 = .ok (.iload 4, 2) := by decide +kernel
theorem d_L_law_635 : decode b_L_law 635 = .ok (.iconst 1, 1) := by decide +kernel
theorem d_L_law_636 : decode b_L_law 636 = .ok (.iadd, 1) := by decide +kernel
theorem d_L_law_637 : decode b_L_law 637 = .ok (.iaload, 1) := by decide +kernel
theorem d_L_law_638 : decode b_L_law 638 = .ok (.aload_n 0, 1) := by decide +kernel
theorem d_L_law_639 : decode b_L_law 639 = .ok (.iload 4, 2) := by decide +kernel
theorem d_L_law_641 : decode b_L_law 641 = .ok (.iconst 2, 1) := by decide +kernel
theorem d_L_law_642 : decode b_L_law 642 = .ok (.iadd, 1) := by decide +kernel
theorem d_L_law_643 : decode b_L_law 643 = .ok (.iaload, 1) := by decide +kernel
theorem d_L_law_644 : decode b_L_law 644 = .ok (.invokevirtual 117, 3) := by decide +kernel
theorem d_L_law_647 : decode b_L_law 647 = .ok (.istore 6, 2) := by decide +kernel
theorem d_L_law_649 : decode b_L_law 649 = .ok (.aload_n 2, 1) := by decide +kernel
theorem d_L_law_650 : decode b_L_law 650 = .ok (.invokevirtual 85, 3) := by decide +kernel
theorem d_L_law_653 : decode b_L_law 653 = .ok (.iload 5, 2) := by decide +kernel
theorem d_L_law_655 : decode b_L_law 655 = .ok (.if_icmp .eq 5, 3) := by decide +kernel
theorem d_L_law_658 : decode b_L_law 658 = .ok (.iconst 0, 1) := by decide +kernel
theorem d_L_law_659 : decode b_L_law 659 = .ok (.ireturn, 1) := by decide +kernel
theorem d_L_law_660 : decode b_L_law 660 = .ok (.iload 5, 2) := by decide +kernel
theorem d_L_law_662 : decode b_L_law 662 = .ok (.ifCond .ne 15, 3) := by decide +kernel
theorem d_L_law_665 : decode b_L_law 665 = .ok (.aload_n 3, 1) := by decide +kernel
theorem d_L_law_666 : decode b_L_law 666 = .ok (.iconst 0, 1) := by decide +kernel
theorem d_L_law_667 : decode b_L_law 667 = .ok (.laload, 1) := by decide +kernel
theorem d_L_law_668 : decode b_L_law 668 = .ok (.iload 6, 2) := by decide +kernel
theorem d_L_law_670 : decode b_L_law 670 = .ok (.i2l, 1) := by decide +kernel
theorem d_L_law_671 : decode b_L_law 671 = .ok (.lcmp, 1) := by decide +kernel
theorem d_L_law_672 : decode b_L_law 672 = .ok (.ifCond .eq 5, 3) := by decide +kernel
theorem d_L_law_675 : decode b_L_law 675 = .ok (.iconst 0, 1) := by decide +kernel
theorem d_L_law_676 : decode b_L_law 676 = .ok (.ireturn, 1) := by decide +kernel
theorem d_L_law_677 : decode b_L_law 677 = .ok (.goto 443, 3) := by decide +kernel
theorem d_L_law_680 : decode b_L_law 680 = .ok (.aload_n 1, 1) := by decide +kernel
theorem d_L_law_681 : decode b_L_law 681 = .ok (.aload_n 0, 1) := by decide +kernel
theorem d_L_law_682 : decode b_L_law 682 = .ok (.iload 4, 2) := by decide +kernel
theorem d_L_law_684 : decode b_L_law 684 = .ok (.iconst 1, 1) := by decide +kernel
theorem d_L_law_685 : decode b_L_law 685 = .ok (.iadd, 1) := by decide +kernel
theorem d_L_law_686 : decode b_L_law 686 = .ok (.iaload, 1) := by decide +kernel
theorem d_L_law_687 : decode b_L_law 687 = .ok (.aload_n 0, 1) := by decide +kernel
theorem d_L_law_688 : decode b_L_law 688 = .ok (.iload 4, 2) := by decide +kernel
theorem d_L_law_690 : decode b_L_law 690 = .ok (.iconst 2, 1) := by decide +kernel
theorem d_L_law_691 : decode b_L_law 691 = .ok (.iadd, 1) := by decide +kernel
theorem d_L_law_692 : decode b_L_law 692 = .ok (.iaload, 1) := by decide +kernel
theorem d_L_law_693 : decode b_L_law 693 = .ok (.invokestatic 118, 3) := by decide +kernel
theorem d_L_law_696 : decode b_L_law 696 = .ok (.istore 5, 2) := by decide +kernel
theorem d_L_law_698 : decode b_L_law 698 = .ok (.aload_n 2, 1) := by decide +kernel
theorem d_L_law_699 : decode b_L_law 699 = .ok (.aload_n 0, 1) := by decide +kernel
theorem d_L_law_700 : decode b_L_law 700 = .ok (.iload 4, 2) := by decide +kernel
theorem d_L_law_702 : decode b_L_law 702 = .ok (.iconst 1, 1) := by decide +kernel
theorem d_L_law_703 : decode b_L_law 703 = .ok (.iadd, 1) := by decide +kernel
theorem d_L_law_704 : decode b_L_law 704 = .ok (.iaload, 1) := by decide +kernel
theorem d_L_law_705 : decode b_L_law 705 = .ok (.aload_n 0, 1) := by decide +kernel
theorem d_L_law_706 : decode b_L_law 706 = .ok (.iload 4, 2) := by decide +kernel
theorem d_L_law_708 : decode b_L_law 708 = .ok (.iconst 2, 1) := by decide +kernel
theorem d_L_law_709 : decode b_L_law 709 = .ok (.iadd, 1) := by decide +kernel
theorem d_L_law_710 : decode b_L_law 710 = .ok (.iaload, 1) := by decide +kernel
theorem d_L_law_711 : decode b_L_law 711 = .ok (.invokevirtual 120, 3) := by decide +kernel
theorem d_L_law_714 : decode b_L_law 714 = .ok (.aload_n 2, 1) := by decide +kernel
theorem d_L_law_715 : decode b_L_law 715 = .ok (.invokevirtual 85, 3) := by decide +kernel
theorem d_L_law_718 : decode b_L_law 718 = .ok (.iload 5, 2) := by decide +kernel
theorem d_L_law_720 : decode b_L_law 720 = .ok (.if_icmp .eq 5, 3) := by decide +kernel
theorem d_L_law_723 : decode b_L_law 723 = .ok (.iconst 0, 1) := by decide +kernel
theorem d_L_law_724 : decode b_L_law 724 = .ok (.ireturn, 1) := by decide +kernel
theorem d_L_law_725 : decode b_L_law 725 = .ok (.goto 395, 3) := by decide +kernel
theorem d_L_law_728 : decode b_L_law 728 = .ok (.aload_n 1, 1) := by decide +kernel
theorem d_L_law_729 : decode b_L_law 729 = .ok (.aload_n 0, 1) := by decide +kernel
theorem d_L_law_730 : decode b_L_law 730 = .ok (.iload 4, 2) := by decide +kernel
theorem d_L_law_732 : decode b_L_law 732 = .ok (.iconst 1, 1) := by decide +kernel
theorem d_L_law_733 : decode b_L_law 733 = .ok (.iadd, 1) := by decide +kernel
theorem d_L_law_734 : decode b_L_law 734 = .ok (.iaload, 1) := by decide +kernel
theorem d_L_law_735 : decode b_L_law 735 = .ok (.aload_n 0, 1) := by decide +kernel
theorem d_L_law_736 : decode b_L_law 736 = .ok (.iload 4, 2) := by decide +kernel
theorem d_L_law_738 : decode b_L_law 738 = .ok (.iconst 2, 1) := by decide +kernel
theorem d_L_law_739 : decode b_L_law 739 = .ok (.iadd, 1) := by decide +kernel
theorem d_L_law_740 : decode b_L_law 740 = .ok (.iaload, 1) := by decide +kernel
theorem d_L_law_741 : decode b_L_law 741 = .ok (.invokestatic 121, 3) := by decide +kernel
theorem d_L_law_744 : decode b_L_law 744 = .ok (.istore 5, 2) := by decide +kernel
theorem d_L_law_746 : decode b_L_law 746 = .ok (.aload_n 2, 1) := by decide +kernel
theorem d_L_law_747 : decode b_L_law 747 = .ok (.aload_n 0, 1) := by decide +kernel
theorem d_L_law_748 : decode b_L_law 748 = .ok (.iload 4, 2) := by decide +kernel
theorem d_L_law_750 : decode b_L_law 750 = .ok (.iconst 1, 1) := by decide +kernel
theorem d_L_law_751 : decode b_L_law 751 = .ok (.iadd, 1) := by decide +kernel
theorem d_L_law_752 : decode b_L_law 752 = .ok (.iaload, 1) := by decide +kernel
theorem d_L_law_753 : decode b_L_law 753 = .ok (.aload_n 0, 1) := by decide +kernel
theorem d_L_law_754 : decode b_L_law 754 = .ok (.iload 4, 2) := by decide +kernel
theorem d_L_law_756 : decode b_L_law 756 = .ok (.iconst 2, 1) := by decide +kernel
theorem d_L_law_757 : decode b_L_law 757 = .ok (.iadd, 1) := by decide +kernel
theorem d_L_law_758 : decode b_L_law 758 = .ok (.iaload, 1) := by decide +kernel
theorem d_L_law_759 : decode b_L_law 759 = .ok (.invokevirtual 123, 3) := by decide +kernel
theorem d_L_law_762 : decode b_L_law 762 = .ok (.aload_n 2, 1) := by decide +kernel
theorem d_L_law_763 : decode b_L_law 763 = .ok (.invokevirtual 85, 3) := by decide +kernel
theorem d_L_law_766 : decode b_L_law 766 = .ok (.iload 5, 2) := by decide +kernel
theorem d_L_law_768 : decode b_L_law 768 = .ok (.if_icmp .eq 5, 3) := by decide +kernel
theorem d_L_law_771 : decode b_L_law 771 = .ok (.iconst 0, 1) := by decide +kernel
theorem d_L_law_772 : decode b_L_law 772 = .ok (.ireturn, 1) := by decide +kernel
theorem d_L_law_773 : decode b_L_law 773 = .ok (.goto 347, 3) := by decide +kernel
