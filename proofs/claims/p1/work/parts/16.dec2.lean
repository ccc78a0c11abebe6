/-! the law's instructions -/
theorem dl_506 : decode code 506 = .ok (.iload_n 3, 1) := by decide +kernel
theorem dl_507 : decode code 507 = .ok (.iconst 2, 1) := by decide +kernel
theorem dl_508 : decode code 508 = .ok (.iadd, 1) := by decide +kernel
theorem dl_509 : decode code 509 = .ok (.iaload, 1) := by decide +kernel
theorem dl_510 : decode code 510 = .ok (.invokevirtual 65, 3) := by decide +kernel
theorem dl_513 : decode code 513 = .ok (.aload_n 2, 1) := by decide +kernel
theorem dl_514 : decode code 514 = .ok (.aload_n 0, 1) := by decide +kernel
theorem dl_515 : decode code 515 = .ok (.iload_n 3, 1) := by decide +kernel
theorem dl_516 : decode code 516 = .ok (.iconst 1, 1) := by decide +kernel
theorem dl_517 : decode code 517 = .ok (.iadd, 1) := by decide +kernel
theorem dl_518 : decode code 518 = .ok (.iaload, 1) := by decide +kernel
theorem dl_519 : decode code 519 = .ok (.aload_n 0, 1) := by decide +kernel
theorem dl_520 : decode code 520 = .ok (.iload_n 3, 1) := by decide +kernel
theorem dl_521 : decode code 521 = .ok (.iconst 2, 1) := by decide +kernel
theorem dl_522 : decode code 522 = .ok (.iadd, 1) := by decide +kernel
theorem dl_523 : decode code 523 = .ok (.iaload, 1) := by decide +kernel
theorem dl_524 : decode code 524 = .ok (.invokevirtual 68, 3) := by decide +kernel
theorem dl_527 : decode code 527 = .ok (.if_icmp .eq 192, 3) := by decide +kernel
theorem dl_530 : decode code 530 = .ok (.iconst 0, 1) := by decide +kernel
theorem dl_531 : decode code 531 = .ok (.ireturn, 1) := by decide +kernel
theorem dl_532 : decode code 532 = .ok (.aload_n 1, 1) := by decide +kernel
theorem dl_533 : decode code 533 = .ok (.aload_n 0, 1) := by decide +kernel
theorem dl_534 : decode code 534 = .ok (.iload_n 3, 1) := by decide +kernel
theorem dl_535 : decode code 535 = .ok (.iconst 1, 1) := by decide +kernel
theorem dl_536 : decode code 536 = .ok (.iadd, 1) := by decide +kernel
theorem dl_537 : decode code 537 = .ok (.iaload, 1) := by decide +kernel
theorem dl_538 : decode code 538 = .ok (.invokevirtual 69, 3) := by decide +kernel
theorem dl_541 : decode code 541 = .ok (.aload_n 2, 1) := by decide +kernel
theorem dl_542 : decode code 542 = .ok (.aload_n 0, 1) := by decide +kernel
theorem dl_543 : decode code 543 = .ok (.iload_n 3, 1) := by decide +kernel
theorem dl_544 : decode code 544 = .ok (.iconst 1, 1) := by decide +kernel
theorem dl_545 : decode code 545 = .ok (.iadd, 1) := by decide +kernel
theorem dl_546 : decode code 546 = .ok (.iaload, 1) := by decide +kernel
theorem dl_547 : decode code 547 = .ok (.invokevirtual 72, 3) := by decide +kernel
theorem dl_550 : decode code 550 = .ok (.if_icmp .eq 169, 3) := by decide +kernel
theorem dl_553 : decode code 553 = .ok (.iconst 0, 1) := by decide +kernel
theorem dl_554 : decode code 554 = .ok (.ireturn, 1) := by decide +kernel
theorem dl_555 : decode code 555 = .ok (.aload_n 1, 1) := by decide +kernel
theorem dl_556 : decode code 556 = .ok (.aload_n 0, 1) := by decide +kernel
theorem dl_557 : decode code 557 = .ok (.iload_n 3, 1) := by decide +kernel
theorem dl_558 : decode code 558 = .ok (.iconst 1, 1) := by decide +kernel
theorem dl_559 : decode code 559 = .ok (.iadd, 1) := by decide +kernel
theorem dl_560 : decode code 560 = .ok (.iaload, 1) := by decide +kernel
theorem dl_561 : decode code 561 = .ok (.aload_n 0, 1) := by decide +kernel
theorem dl_562 : decode code 562 = .ok (.iload_n 3, 1) := by decide +kernel
theorem dl_563 : decode code 563 = .ok (.iconst 2, 1) := by decide +kernel
theorem dl_564 : decode code 564 = .ok (.iadd, 1) := by decide +kernel
theorem dl_565 : decode code 565 = .ok (.iaload, 1) := by decide +kernel
theorem dl_566 : decode code 566 = .ok (.invokevirtual 73, 3) := by decide +kernel
theorem dl_569 : decode code 569 = .ok (.aload_n 2, 1) := by decide +kernel
theorem dl_570 : decode code 570 = .ok (.aload_n 0, 1) := by decide +kernel
theorem dl_571 : decode code 571 = .ok (.iload_n 3, 1) := by decide +kernel
theorem dl_572 : decode code 572 = .ok (.iconst 1, 1) := by decide +kernel
theorem dl_573 : decode code 573 = .ok (.iadd, 1) := by decide +kernel
theorem dl_574 : decode code 574 = .ok (.iaload, 1) := by decide +kernel
theorem dl_575 : decode code 575 = .ok (.aload_n 0, 1) := by decide +kernel
theorem dl_576 : decode code 576 = .ok (.iload_n 3, 1) := by decide +kernel
theorem dl_577 : decode code 577 = .ok (.iconst 2, 1) := by decide +kernel
theorem dl_578 : decode code 578 = .ok (.iadd, 1) := by decide +kernel
theorem dl_579 : decode code 579 = .ok (.iaload, 1) := by decide +kernel
theorem dl_580 : decode code 580 = .ok (.invokevirtual 76, 3) := by decide +kernel
theorem dl_583 : decode code 583 = .ok (.if_icmp .eq 136, 3) := by decide +kernel
theorem dl_586 : decode code 586 = .ok (.iconst 0, 1) := by decide +kernel
theorem dl_587 : decode code 587 = .ok (.ireturn, 1) := by decide +kernel
theorem dl_588 : decode code 588 = .ok (.aload_n 1, 1) := by decide +kernel
theorem dl_589 : decode code 589 = .ok (.invokevirtual 77, 3) := by decide +kernel
theorem dl_592 : decode code 592 = .ok (.aload_n 2, 1) := by decide +kernel
theorem dl_593 : decode code 593 = .ok (.invokevirtual 80, 3) := by decide +kernel
theorem dl_596 : decode code 596 = .ok (.if_icmp .eq 123, 3) := by decide +kernel
theorem dl_599 : decode code 599 = .ok (.iconst 0, 1) := by decide +kernel
theorem dl_600 : decode code 600 = .ok (.ireturn, 1) := by decide +kernel
theorem dl_601 : decode code 601 = .ok (.aload_n 1, 1) := by decide +kernel
theorem dl_602 : decode code 602 = .ok (.aload_n 0, 1) := by decide +kernel
theorem dl_603 : decode code 603 = .ok (.iload_n 3, 1) := by decide +kernel
theorem dl_604 : decode code 604 = .ok (.iconst 1, 1) := by decide +kernel
theorem dl_605 : decode code 605 = .ok (.iadd, 1) := by decide +kernel
theorem dl_606 : decode code 606 = .ok (.iaload, 1) := by decide +kernel
theorem dl_607 : decode code 607 = .ok (.invokevirtual 81, 3) := by decide +kernel
theorem dl_610 : decode code 610 = .ok (.aload_n 2, 1) := by decide +kernel
theorem dl_611 : decode code 611 = .ok (.aload_n 0, 1) := by decide +kernel
theorem dl_612 : decode code 612 = .ok (.iload_n 3, 1) := by decide +kernel
theorem dl_613 : decode code 613 = .ok (.iconst 1, 1) := by decide +kernel
theorem dl_614 : decode code 614 = .ok (.iadd, 1) := by decide +kernel
theorem dl_615 : decode code 615 = .ok (.iaload, 1) := by decide +kernel
theorem dl_616 : decode code 616 = .ok (.invokevirtual 84, 3) := by decide +kernel
theorem dl_619 : decode code 619 = .ok (.if_icmp .eq 100, 3) := by decide +kernel
theorem dl_622 : decode code 622 = .ok (.iconst 0, 1) := by decide +kernel
theorem dl_623 : decode code 623 = .ok (.ireturn, 1) := by decide +kernel
theorem dl_624 : decode code 624 = .ok (.aload_n 1, 1) := by decide +kernel
theorem dl_625 : decode code 625 = .ok (.aload_n 0, 1) := by decide +kernel
theorem dl_626 : decode code 626 = .ok (.iload_n 3, 1) := by decide +kernel
theorem dl_627 : decode code 627 = .ok (.iconst 1, 1) := by decide +kernel
theorem dl_628 : decode code 628 = .ok (.iadd, 1) := by decide +kernel
theorem dl_629 : decode code 629 = .ok (.iaload, 1) := by decide +kernel
theorem dl_630 : decode code 630 = .ok (.aload_n 0, 1) := by decide +kernel
theorem dl_631 : decode code 631 = .ok (.iload_n 3, 1) := by decide +kernel
theorem dl_632 : decode code 632 = .ok (.iconst 2, 1) := by decide +kernel
theorem dl_633 : decode code 633 = .ok (.iadd, 1) := by decide +kernel
theorem dl_634 : decode code 634 = .ok (.iaload, 1) := by decide +kernel
theorem dl_635 : decode code 635 = .ok (.invokevirtual 85, 3) := by decide +kernel
theorem dl_638 : decode code 638 = .ok (.aload_n 2, 1) := by decide +kernel
theorem dl_639 : decode code 639 = .ok (.aload_n 0, 1) := by decide +kernel
theorem dl_640 : decode code 640 = .ok (.iload_n 3, 1) := by decide +kernel
theorem dl_641 : decode code 641 = .ok (.iconst 1, 1) := by decide +kernel
theorem dl_642 : decode code 642 = .ok (.iadd, 1) := by decide +kernel
theorem dl_643 : decode code 643 = .ok (.iaload, 1) := by decide +kernel
theorem dl_644 : decode code 644 = .ok (.aload_n 0, 1) := by decide +kernel
theorem dl_645 : decode code 645 = .ok (.iload_n 3, 1) := by decide +kernel
theorem dl_646 : decode code 646 = .ok (.iconst 2, 1) := by decide +kernel
theorem dl_647 : decode code 647 = .ok (.iadd, 1) := by decide +kernel
theorem dl_648 : decode code 648 = .ok (.iaload, 1) := by decide +kernel
theorem dl_649 : decode code 649 = .ok (.invokevirtual 88, 3) := by decide +kernel
theorem dl_652 : decode code 652 = .ok (.if_icmp .eq 67, 3) := by decide +kernel
theorem dl_655 : decode code 655 = .ok (.iconst 0, 1) := by decide +kernel
theorem dl_656 : decode code 656 = .ok (.ireturn, 1) := by decide +kernel
theorem dl_657 : decode code 657 = .ok (.aload_n 1, 1) := by decide +kernel
theorem dl_658 : decode code 658 = .ok (.aload_n 0, 1) := by decide +kernel
theorem dl_659 : decode code 659 = .ok (.iload_n 3, 1) := by decide +kernel
theorem dl_660 : decode code 660 = .ok (.iconst 1, 1) := by decide +kernel
theorem dl_661 : decode code 661 = .ok (.iadd, 1) := by decide +kernel
theorem dl_662 : decode code 662 = .ok (.iaload, 1) := by decide +kernel
theorem dl_663 : decode code 663 = .ok (.ifCond .eq 7, 3) := by decide +kernel
theorem dl_666 : decode code 666 = .ok (.iconst 1, 1) := by decide +kernel
theorem dl_667 : decode code 667 = .ok (.goto 4, 3) := by decide +kernel
theorem dl_670 : decode code 670 = .ok (.iconst 0, 1) := by decide +kernel
theorem dl_671 : decode code 671 = .ok (.invokevirtual 89, 3) := by decide +kernel
theorem dl_674 : decode code 674 = .ok (.aload_n 2, 1) := by decide +kernel
theorem dl_675 : decode code 675 = .ok (.aload_n 0, 1) := by decide +kernel
theorem dl_676 : decode code 676 = .ok (.iload_n 3, 1) := by decide +kernel
theorem dl_677 : decode code 677 = .ok (.iconst 1, 1) := by decide +kernel
theorem dl_678 : decode code 678 = .ok (.iadd, 1) := by decide +kernel
theorem dl_679 : decode code 679 = .ok (.iaload, 1) := by decide +kernel
theorem dl_680 : decode code 680 = .ok (.ifCond .eq 7, 3) := by decide +kernel
theorem dl_683 : decode code 683 = .ok (.iconst 1, 1) := by decide +kernel
theorem dl_684 : decode code 684 = .ok (.goto 4, 3) := by decide +kernel
theorem dl_687 : decode code 687 = .ok (.iconst 0, 1) := by decide +kernel
theorem dl_688 : decode code 688 = .ok (.invokevirtual 93, 3) := by decide +kernel
theorem dl_691 : decode code 691 = .ok (.if_icmp .eq 28, 3) := by decide +kernel
theorem dl_694 : decode code 694 = .ok (.iconst 0, 1) := by decide +kernel
theorem dl_695 : decode code 695 = .ok (.ireturn, 1) := by decide +kernel
theorem dl_696 : decode code 696 = .ok (.aload_n 1, 1) := by decide +kernel
theorem dl_697 : decode code 697 = .ok (.aload_n 0, 1) := by decide +kernel
theorem dl_698 : decode code 698 = .ok (.iload_n 3, 1) := by decide +kernel
theorem dl_699 : decode code 699 = .ok (.iconst 1, 1) := by decide +kernel
theorem dl_700 : decode code 700 = .ok (.iadd, 1) := by decide +kernel
theorem dl_701 : decode code 701 = .ok (.iaload, 1) := by decide +kernel
theorem dl_702 : decode code 702 = .ok (.invokevirtual 94, 3) := by decide +kernel
theorem dl_705 : decode code 705 = .ok (.aload_n 2, 1) := by decide +kernel
theorem dl_706 : decode code 706 = .ok (.aload_n 0, 1) := by decide +kernel
theorem dl_707 : decode code 707 = .ok (.iload_n 3, 1) := by decide +kernel
theorem dl_708 : decode code 708 = .ok (.iconst 1, 1) := by decide +kernel
theorem dl_709 : decode code 709 = .ok (.iadd, 1) := by decide +kernel
theorem dl_710 : decode code 710 = .ok (.iaload, 1) := by decide +kernel
theorem dl_711 : decode code 711 = .ok (.invokevirtual 97, 3) := by decide +kernel
theorem dl_714 : decode code 714 = .ok (.if_icmp .eq 5, 3) := by decide +kernel
theorem dl_717 : decode code 717 = .ok (.iconst 0, 1) := by decide +kernel
theorem dl_718 : decode code 718 = .ok (.ireturn, 1) := by decide +kernel
theorem dl_719 : decode code 719 = .ok (.iinc 3 6, 3) := by decide +kernel
theorem dl_722 : decode code 722 = .ok (.goto (-704), 3) := by decide +kernel
theorem dl_725 : decode code 725 = .ok (.iconst 1, 1) := by decide +kernel
theorem dl_726 : decode code 726 = .ok (.ireturn, 1) := by decide +kernel
