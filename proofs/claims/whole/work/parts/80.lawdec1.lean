theorem d_LW_law_452 : decode code 452 = .ok (.iadd, 1) := by decide +kernel
theorem d_LW_law_453 : decode code 453 = .ok (.iaload, 1) := by decide +kernel
theorem d_LW_law_454 : decode code 454 = .ok (.aload_n 3, 1) := by decide +kernel
theorem d_LW_law_455 : decode code 455 = .ok (.invokestatic 103, 3) := by decide +kernel
theorem d_LW_law_458 : decode code 458 = .ok (.istore 5, 2) := by decide +kernel
theorem d_LW_law_460 : decode code 460 = .ok (.aload_n 2, 1) := by decide +kernel
theorem d_LW_law_461 : decode code 461 = .ok (.aload_n 0, 1) := by decide +kernel
theorem d_LW_law_462 : decode code 462 = .ok (.iload 4, 2) := by decide +kernel
theorem d_LW_law_464 : decode code 464 = .ok (.iconst 1, 1) := by decide +kernel
theorem d_LW_law_465 : decode code 465 = .ok (.iadd, 1) := by decide +kernel
theorem d_LW_law_466 : decode code 466 = .ok (.iaload, 1) := by decide +kernel
theorem d_LW_law_467 : decode code 467 = .ok (.invokevirtual 106, 3) := by decide +kernel
theorem d_LW_law_470 : decode code 470 = .ok (.istore 6, 2) := by decide +kernel
theorem d_LW_law_472 : decode code 472 = .ok (.aload_n 2, 1) := by decide +kernel
theorem d_LW_law_473 : decode code 473 = .ok (.invokevirtual 88, 3) := by decide +kernel
theorem d_LW_law_476 : decode code 476 = .ok (.iload 5, 2) := by decide +kernel
theorem d_LW_law_478 : decode code 478 = .ok (.if_icmp .eq 5, 3) := by decide +kernel
theorem d_LW_law_481 : decode code 481 = .ok (.iconst 0, 1) := by decide +kernel
theorem d_LW_law_482 : decode code 482 = .ok (.ireturn, 1) := by decide +kernel
theorem d_LW_law_483 : decode code 483 = .ok (.iload 5, 2) := by decide +kernel
theorem d_LW_law_485 : decode code 485 = .ok (.ifCond .ne 22, 3) := by decide +kernel
theorem d_LW_law_488 : decode code 488 = .ok (.aload_n 3, 1) := by decide +kernel
theorem d_LW_law_489 : decode code 489 = .ok (.iconst 0, 1) := by decide +kernel
theorem d_LW_law_490 : decode code 490 = .ok (.laload, 1) := by decide +kernel
theorem d_LW_law_491 : decode code 491 = .ok (.iload 6, 2) := by decide +kernel
theorem d_LW_law_493 : decode code 493 = .ok (.ifCond .eq 7, 3) := by decide +kernel
theorem d_LW_law_496 : decode code 496 = .ok (.lconst 1, 1) := by decide +kernel
theorem d_LW_law_497 : decode code 497 = .ok (.goto 4, 3) := by decide +kernel
theorem d_LW_law_500 : decode code 500 = .ok (.lconst 0, 1) := by decide +kernel
theorem d_LW_law_501 : decode code 501 = .ok (.lcmp, 1) := by decide +kernel
theorem d_LW_law_502 : decode code 502 = .ok (.ifCond .eq 5, 3) := by decide +kernel
theorem d_LW_law_505 : decode code 505 = .ok (.iconst 0, 1) := by decide +kernel
theorem d_LW_law_506 : decode code 506 = .ok (.ireturn, 1) := by decide +kernel
theorem d_LW_law_507 : decode code 507 = .ok (.goto 977, 3) := by decide +kernel
theorem d_LW_law_510 : decode code 510 = .ok (.aload_n 1, 1) := by decide +kernel
theorem d_LW_law_511 : decode code 511 = .ok (.aload_n 0, 1) := by decide +kernel
theorem d_LW_law_512 : decode code 512 = .ok (.iload 4, 2) := by decide +kernel
theorem d_LW_law_514 : decode code 514 = .ok (.iconst 1, 1) := by decide +kernel
theorem d_LW_law_515 : decode code 515 = .ok (.iadd, 1) := by decide +kernel
theorem d_LW_law_516 : decode code 516 = .ok (.iaload, 1) := by decide +kernel
theorem d_LW_law_517 : decode code 517 = .ok (.aload_n 0, 1) := by decide +kernel
theorem d_LW_law_518 : decode code 518 = .ok (.iload 4, 2) := by decide +kernel
theorem d_LW_law_520 : decode code 520 = .ok (.iconst 2, 1) := by decide +kernel
theorem d_LW_law_521 : decode code 521 = .ok (.iadd, 1) := by decide +kernel
theorem d_LW_law_522 : decode code 522 = .ok (.iaload, 1) := by decide +kernel
theorem d_LW_law_523 : decode code 523 = .ok (.aload_n 0, 1) := by decide +kernel
theorem d_LW_law_524 : decode code 524 = .ok (.iload 4, 2) := by decide +kernel
theorem d_LW_law_526 : decode code 526 = .ok (.iconst 3, 1) := by decide +kernel
theorem d_LW_law_527 : decode code 527 = .ok (.iadd, 1) := by decide +kernel
theorem d_LW_law_528 : decode code 528 = .ok (.iaload, 1) := by decide +kernel
theorem d_LW_law_529 : decode code 529 = .ok (.aload_n 0, 1) := by decide +kernel
theorem d_LW_law_530 : decode code 530 = .ok (.iload 4, 2) := by decide +kernel
theorem d_LW_law_532 : decode code 532 = .ok (.iconst 4, 1) := by decide +kernel
theorem d_LW_law_533 : decode code 533 = .ok (.iadd, 1) := by decide +kernel
theorem d_LW_law_534 : decode code 534 = .ok (.iaload, 1) := by decide +kernel
theorem d_LW_law_535 : decode code 535 = .ok (.aload_n 0, 1) := by decide +kernel
theorem d_LW_law_536 : decode code 536 = .ok (.iload 4, 2) := by decide +kernel
theorem d_LW_law_538 : decode code 538 = .ok (.iconst 5, 1) := by decide +kernel
theorem d_LW_law_539 : decode code 539 = .ok (.iadd, 1) := by decide +kernel
theorem d_LW_law_540 : decode code 540 = .ok (.iaload, 1) := by decide +kernel
theorem d_LW_law_541 : decode code 541 = .ok (.aload_n 3, 1) := by decide +kernel
theorem d_LW_law_542 : decode code 542 = .ok (.invokestatic 107, 3) := by decide +kernel
theorem d_LW_law_545 : decode code 545 = .ok (.istore 5, 2) := by decide +kernel
theorem d_LW_law_547 : decode code 547 = .ok (.aload_n 2, 1) := by decide +kernel
theorem d_LW_law_548 : decode code 548 = .ok (.aload_n 0, 1) := by decide +kernel
theorem d_LW_law_549 : decode code 549 = .ok (.iload 4, 2) := by decide +kernel
theorem d_LW_law_551 : decode code 551 = .ok (.iconst 1, 1) := by decide +kernel
theorem d_LW_law_552 : decode code 552 = .ok (.iadd, 1) := by decide +kernel
theorem d_LW_law_553 : decode code 553 = .ok (.iaload, 1) := by decide +kernel
theorem d_LW_law_554 : decode code 554 = .ok (.aload_n 0, 1) := by decide +kernel
theorem d_LW_law_555 : decode code 555 = .ok (.iload 4, 2) := by decide +kernel
theorem d_LW_law_557 : decode code 557 = .ok (.iconst 2, 1) := by decide +kernel
theorem d_LW_law_558 : decode code 558 = .ok (.iadd, 1) := by decide +kernel
theorem d_LW_law_559 : decode code 559 = .ok (.iaload, 1) := by decide +kernel
theorem d_LW_law_560 : decode code 560 = .ok (.aload_n 0, 1) := by decide +kernel
theorem d_LW_law_561 : decode code 561 = .ok (.iload 4, 2) := by decide +kernel
theorem d_LW_law_563 : decode code 563 = .ok (.iconst 3, 1) := by decide +kernel
theorem d_LW_law_564 : decode code 564 = .ok (.iadd, 1) := by decide +kernel
theorem d_LW_law_565 : decode code 565 = .ok (.iaload, 1) := by decide +kernel
theorem d_LW_law_566 : decode code 566 = .ok (.aload_n 0, 1) := by decide +kernel
theorem d_LW_law_567 : decode code 567 = .ok (.iload 4, 2) := by decide +kernel
theorem d_LW_law_569 : decode code 569 = .ok (.iconst 4, 1) := by decide +kernel
theorem d_LW_law_570 : decode code 570 = .ok (.iadd, 1) := by decide +kernel
theorem d_LW_law_571 : decode code 571 = .ok (.iaload, 1) := by decide +kernel
theorem d_LW_law_572 : decode code 572 = .ok (.aload_n 0, 1) := by decide +kernel
theorem d_LW_law_573 : decode code 573 = .ok (.iload 4, 2) := by decide +kernel
theorem d_LW_law_575 : decode code 575 = .ok (.iconst 5, 1) := by decide +kernel
theorem d_LW_law_576 : decode code 576 = .ok (.iadd, 1) := by decide +kernel
theorem d_LW_law_577 : decode code 577 = .ok (.iaload, 1) := by decide +kernel
theorem d_LW_law_578 : decode code 578 = .ok (.invokevirtual 110, 3) := by decide +kernel
theorem d_LW_law_581 : decode code 581 = .ok (.istore 6, 2) := by decide +kernel
theorem d_LW_law_583 : decode code 583 = .ok (.aload_n 2, 1) := by decide +kernel
theorem d_LW_law_584 : decode code 584 = .ok (.invokevirtual 88, 3) := by decide +kernel
theorem d_LW_law_587 : decode code 587 = .ok (.iload 5, 2) := by decide +kernel
theorem d_LW_law_589 : decode code 589 = .ok (.if_icmp .eq 5, 3) := by decide +kernel
theorem d_LW_law_592 : decode code 592 = .ok (.iconst 0, 1) := by decide +kernel
theorem d_LW_law_593 : decode code 593 = .ok (.ireturn, 1) := by decide +kernel
theorem d_LW_law_594 : decode code 594 = .ok (.iload 5, 2) := by decide +kernel
theorem d_LW_law_596 : decode code 596 = .ok (.ifCond .ne 15, 3) := by decide +kernel
theorem d_LW_law_599 : decode code 599 = .ok (.aload_n 3, 1) := by decide +kernel
theorem d_LW_law_600 : decode code 600 = .ok (.iconst 0, 1) := by decide +kernel
theorem d_LW_law_601 : decode code 601 = .ok (.laload, 1) := by decide +kernel
theorem d_LW_law_602 : decode code 602 = .ok (.iload 6, 2) := by decide +kernel
theorem d_LW_law_604 : decode code 604 = .ok (.i2l, 1) := by decide +kernel
theorem d_LW_law_605 : decode code 605 = .ok (.lcmp, 1) := by decide +kernel
theorem d_LW_law_606 : decode code 606 = .ok (.ifCond .eq 5, 3) := by decide +kernel
theorem d_LW_law_609 : decode code 609 = .ok (.iconst 0, 1) := by decide +kernel
theorem d_LW_law_610 : decode code 610 = .ok (.ireturn, 1) := by decide +kernel
theorem d_LW_law_611 : decode code 611 = .ok (.goto 873, 3) := by decide +kernel
theorem d_LW_law_614 : decode code 614 = .ok (.aload_n 1, 1) := by decide +kernel
theorem d_LW_law_615 : decode code 615 = .ok (.aload_n 0, 1) := by decide +kernel
theorem d_LW_law_616 : decode code 616 = .ok (.iload 4, 2) := by decide +kernel
theorem d_LW_law_618 : decode code 618 = .ok (.iconst 1, 1) := by decide +kernel
theorem d_LW_law_619 : decode code 619 = .ok (.iadd, 1) := by decide +kernel
theorem d_LW_law_620 : decode code 620 = .ok (.iaload, 1) := by decide +kernel
theorem d_LW_law_621 : decode code 621 = .ok (.aload_n 0, 1) := by decide +kernel
theorem d_LW_law_622 : decode code 622 = .ok (.iload 4, 2) := by decide +kernel
theorem d_LW_law_624 : decode code 624 = .ok (.iconst 2, 1) := by decide +kernel
theorem d_LW_law_625 : decode code 625 = .ok (.iadd, 1) := by decide +kernel
theorem d_LW_law_626 : decode code 626 = .ok (.iaload, 1) := by decide +kernel
theorem d_LW_law_627 : decode code 627 = .ok (.aload_n 0, 1) := by decide +kernel
theorem d_LW_law_628 : decode code 628 = .ok (.iload 4, 2) := by decide +kernel
theorem d_LW_law_630 : decode code 630 = .ok (.iconst 3, 1) := by decide +kernel
theorem d_LW_law_631 : decode code 631 = .ok (.iadd, 1) := by decide +kernel
theorem d_LW_law_632 : decode code 632 = .ok (.iaload, 1) := by decide +kernel
theorem d_LW_law_633 : decode code 633 = .ok (.aload_n 3, 1) := by decide +kernel
theorem d_LW_law_634 : decode code 634 = .ok (.invokestatic 111, 3) := by decide +kernel
theorem d_LW_law_637 : decode code 637 = .ok (.istore 5, 2) := by decide +kernel
theorem d_LW_law_639 : decode code 639 = .ok (.aload_n 2, 1) := by decide +kernel
theorem d_LW_law_640 : decode code 640 = .ok (.aload_n 0, 1) := by decide +kernel
theorem d_LW_law_641 : decode code 641 = .ok (.iload 4, 2) := by decide +kernel
theorem d_LW_law_643 : decode code 643 = .ok (.iconst 1, 1) := by decide +kernel
theorem d_LW_law_644 : decode code 644 = .ok (.iadd, 1) := by decide +kernel
theorem d_LW_law_645 : decode code 645 = .ok (.iaload, 1) := by decide +kernel
theorem d_LW_law_646 : decode code 646 = .ok (.aload_n 0, 1) := by decide +kernel
theorem d_LW_law_647 : decode code 647 = .ok (.iload 4, 2) := by decide +kernel
theorem d_LW_law_649 : decode code 649 = .ok (.iconst 2, 1) := by decide +kernel
theorem d_LW_law_650 : decode code 650 = .ok (.iadd, 1) := by decide +kernel
theorem d_LW_law_651 : decode code 651 = .ok (.iaload, 1) := by decide +kernel
theorem d_LW_law_652 : decode code 652 = .ok (.aload_n 0, 1) := by decide +kernel
theorem d_LW_law_653 : decode code 653 = .ok (.iload 4, 2) := by decide +kernel
theorem d_LW_law_655 : decode code 655 = .ok (.iconst 3, 1) := by decide +kernel
theorem d_LW_law_656 : decode code 656 = .ok (.iadd, 1) := by decide +kernel
theorem d_LW_law_657 : decode code 657 = .ok (.iaload, 1) := by decide +kernel
theorem d_LW_law_658 : decode code 658 = .ok (.invokevirtual 114, 3) := by decide +kernel
theorem d_LW_law_661 : decode code 661 = .ok (.istore 6, 2) := by decide +kernel
theorem d_LW_law_663 : decode code 663 = .ok (.aload_n 2, 1) := by decide +kernel
theorem d_LW_law_664 : decode code 664 = .ok (.invokevirtual 88, 3) := by decide +kernel
theorem d_LW_law_667 : decode code 667 = .ok (.iload 5, 2) := by decide +kernel
theorem d_LW_law_669 : decode code 669 = .ok (.if_icmp .eq 5, 3) := by decide +kernel
theorem d_LW_law_672 : decode code 672 = .ok (.iconst 0, 1) := by decide +kernel
theorem d_LW_law_673 : decode code 673 = .ok (.ireturn, 1) := by decide +kernel
theorem d_LW_law_674 : decode code 674 = .ok (.iload 5, 2) := by decide +kernel
theorem d_LW_law_676 : decode code 676 = .ok (.ifCond .ne 15, 3) := by decide +kernel
theorem d_LW_law_679 : decode code 679 = .ok (.aload_n 3, 1) := by decide +kernel
theorem d_LW_law_680 : decode code 680 = .ok (.iconst 0, 1) := by decide +kernel
theorem d_LW_law_681 : decode code 681 = .ok (.laload, 1) := by decide +kernel
theorem d_LW_law_682 : decode code 682 = .ok (.iload 6, 2) := by decide +kernel
theorem d_LW_law_684 : decode code 684 = .ok (.i2l, 1) := by decide +kernel
theorem d_LW_law_685 : decode code 685 = .ok (.lcmp, 1) := by decide +kernel
theorem d_LW_law_686 : decode code 686 = .ok (.ifCond .eq 5, 3) := by decide +kernel
theorem d_LW_law_689 : decode code 689 = .ok (.iconst 0, 1) := by decide +kernel
theorem d_LW_law_690 : decode code 690 = .ok (.ireturn, 1) := by decide +kernel
theorem d_LW_law_691 : decode code 691 = .ok (.goto 793, 3) := by decide +kernel
theorem d_LW_law_694 : decode code 694 = .ok (.aload_n 1, 1) := by decide +kernel
theorem d_LW_law_695 : decode code 695 = .ok (.aload_n 0, 1) := by decide +kernel
theorem d_LW_law_696 : decode code 696 = .ok (.iload 4, 2) := by decide +kernel
theorem d_LW_law_698 : decode code 698 = .ok (.iconst 1, 1) := by decide +kernel
theorem d_LW_law_699 : decode code 699 = .ok (.iadd, 1) := by decide +kernel
theorem d_LW_law_700 : decode code 700 = .ok (.iaload, 1) := by decide +kernel
theorem d_LW_law_701 : decode code 701 = .ok (.aload_n 0, 1) := by decide +kernel
theorem d_LW_law_702 : decode code 702 = .ok (.iload 4, 2) := by decide +kernel
theorem d_LW_law_704 : decode code 704 = .ok (.iconst 2, 1) := by decide +kernel
theorem d_LW_law_705 : decode code 705 = .ok (.iadd, 1) := by decide +kernel
theorem d_LW_law_706 : decode code 706 = .ok (.iaload, 1) := by decide +kernel
theorem d_LW_law_707 : decode code 707 = .ok (.aload_n 3, 1) := by decide +kernel
theorem d_LW_law_708 : decode code 708 = .ok (.invokestatic 115, 3) := by decide +kernel
theorem d_LW_law_711 : decode code 711 = .ok (.istore 5, 2) := by decide +kernel
theorem d_LW_law_713 : decode code 713 = .ok (.aload_n 2, 1) := by decide +kernel
theorem d_LW_law_714 : decode code 714 = .ok (.aload_n 0, 1) := by decide +kernel
theorem d_LW_law_715 : decode code 715 = .ok (.iload 4, 2) := by decide +kernel
theorem d_LW_law_717 : decode code 717 = .ok (.iconst 1, 1) := by decide +kernel
theorem d_LW_law_718 : decode code 718 = .ok (.iadd, 1) := by decide +kernel
theorem d_LW_law_719 : decode code 719 = .ok (.iaload, 1) := by decide +kernel
theorem d_LW_law_720 : decode code 720 = .ok (.aload_n 0, 1) := by decide +kernel
theorem d_LW_law_721 : decode code 721 = .ok (.iload 4, 2) := by decide +kernel
theorem d_LW_law_723 : decode code 723 = .ok (.iconst 2, 1) := by decide +kernel
theorem d_LW_law_724 : decode code 724 = .ok (.iadd, 1) := by decide +kernel
theorem d_LW_law_725 : decode code 725 = .ok (.iaload, 1) := by decide +kernel
theorem d_LW_law_726 : decode code 726 = .ok (.invokevirtual 117, 3) := by decide +kernel
theorem d_LW_law_729 : decode code 729 = .ok (.istore 6, 2) := by decide +kernel
theorem d_LW_law_731 : decode code 731 = .ok (.aload_n 2, 1) := by decide +kernel
theorem d_LW_law_732 : decode code 732 = .ok (.invokevirtual 88, 3) := by decide +kernel
theorem d_LW_law_735 : decode code 735 = .ok (.iload 5, 2) := by decide +kernel
theorem d_LW_law_737 : decode code 737 = .ok (.if_icmp .eq 5, 3) := by decide +kernel
theorem d_LW_law_740 : decode code 740 = .ok (.iconst 0, 1) := by decide +kernel
theorem d_LW_law_741 : decode code 741 = .ok (.ireturn, 1) := by decide +kernel
theorem d_LW_law_742 : decode code 742 = .ok (.iload 5, 2) := by decide +kernel
theorem d_LW_law_744 : decode code 744 = .ok (.ifCond .ne 22, 3) := by decide +kernel
theorem d_LW_law_747 : decode code 747 = .ok (.aload_n 3, 1) := by decide +kernel
theorem d_LW_law_748 : decode code 748 = .ok (.iconst 0, 1) := by decide +kernel
theorem d_LW_law_749 : decode code 749 = .ok (.laload, 1) := by decide +kernel
theorem d_LW_law_750 : decode code 750 = .ok (.iload 6, 2) := by decide +kernel
theorem d_LW_law_752 : decode code 752 = .ok (.ifCond .eq 7, 3) := by decide +kernel
theorem d_LW_law_755 : decode code 755 = .ok (.lconst 1, 1) := by decide +kernel
theorem d_LW_law_756 : decode code 756 = .ok (.goto 4, 3) := by decide +kernel
theorem d_LW_law_759 : decode code 759 = .ok (.lconst 0, 1) := by decide +kernel
theorem d_LW_law_760 : decode code 760 = .ok (.lcmp, 1) := by decide +kernel
theorem d_LW_law_761 : decode code 761 = .ok (.ifCond .eq 5, 3) := by decide +kernel
theorem d_LW_law_764 : decode code 764 = .ok (.iconst 0, 1) := by decide +kernel
theorem d_LW_law_765 : decode code 765 = .ok (.ireturn, 1) := by decide +kernel
theorem d_LW_law_766 : decode code 766 = .ok (.goto 718, 3) := by decide +kernel
theorem d_LW_law_769 : decode code 769 = .ok (.aload_n 1, 1) := by decide +kernel
theorem d_LW_law_770 : decode code 770 = .ok (.aload_n 0, 1) := by decide +kernel
theorem d_LW_law_771 : decode code 771 = .ok (.iload 4, 2) := by decide +kernel
theorem d_LW_law_773 : decode code 773 = .ok (.iconst 1, 1) := by decide +kernel
theorem d_LW_law_774 : decode code 774 = .ok (.iadd, 1) := by decide +kernel
theorem d_LW_law_775 : decode code 775 = .ok (.iaload, 1) := by decide +kernel
theorem d_LW_law_776 : decode code 776 = .ok (.aload_n 0, 1) := by decide +kernel
theorem d_LW_law_777 : decode code 777 = .ok (.iload 4, 2) := by decide +kernel
theorem d_LW_law_779 : decode code 779 = .ok (.iconst 2, 1) := by decide +kernel
theorem d_LW_law_780 : decode code 780 = .ok (.iadd, 1) := by decide +kernel
theorem d_LW_law_781 : decode code 781 = .ok (.iaload, 1) := by decide +kernel
theorem d_LW_law_782 : decode code 782 = .ok (.aload_n 3, 1) := by decide +kernel
theorem d_LW_law_783 : decode code 783 = .ok (.invokestatic 118, 3) := by decide +kernel
theorem d_LW_law_786 : decode code 786 = .ok (.istore 5, 2) := by decide +kernel
theorem d_LW_law_788 : decode code 788 = .ok (.aload_n 2, 1) := by decide +kernel
theorem d_LW_law_789 : decode code 789 = .ok (.aload_n 0, 1) := by decide +kernel
theorem d_LW_law_790 : decode code 790 = .ok (.iload 4, 2) := by decide +kernel
theorem d_LW_law_792 : decode code 792 = .ok (.iconst 1, 1) := by decide +kernel
theorem d_LW_law_793 : decode code 793 = .ok (.iadd, 1) := by decide +kernel
theorem d_LW_law_794 : decode code 794 = .ok (.iaload, 1) := by decide +kernel
theorem d_LW_law_795 : decode code 795 = .ok (.aload_n 0, 1) := by decide +kernel
theorem d_LW_law_796 : decode code 796 = .ok (.iload 4, 2) := by decide +kernel
theorem d_LW_law_798 : decode code 798 = .ok (.iconst 2, 1) := by decide +kernel
theorem d_LW_law_799 : decode code 799 = .ok (.iadd, 1) := by decide +kernel
theorem d_LW_law_800 : decode code 800 = .ok (.iaload, 1) := by decide +kernel
theorem d_LW_law_801 : decode code 801 = .ok (.invokevirtual 120, 3) := by decide +kernel
theorem d_LW_law_804 : decode code 804 = .ok (.istore 6, 2) := by decide +kernel
theorem d_LW_law_806 : decode code 806 = .ok (.aload_n 2, 1) := by decide +kernel
