theorem dL_law_488 : decode cL_law 488 = .ok (.aload_n 1, 1) := by decide +kernel
theorem dL_law_489 : decode cL_law 489 = .ok (.aload_n 0, 1) := by decide +kernel
theorem dL_law_490 : decode cL_law 490 = .ok (.iload_n 3, 1) := by decide +kernel
theorem dL_law_491 : decode cL_law 491 = .ok (.iconst 1, 1) := by decide +kernel
theorem dL_law_492 : decode cL_law 492 = .ok (.iadd, 1) := by decide +kernel
theorem dL_law_493 : decode cL_law 493 = .ok (.iaload, 1) := by decide +kernel
theorem dL_law_494 : decode cL_law 494 = .ok (.aload_n 0, 1) := by decide +kernel
theorem dL_law_495 : decode cL_law 495 = .ok (.iload_n 3, 1) := by decide +kernel
theorem dL_law_496 : decode cL_law 496 = .ok (.iconst 2, 1) := by decide +kernel
theorem dL_law_497 : decode cL_law 497 = .ok (.iadd, 1) := by decide +kernel
theorem dL_law_498 : decode cL_law 498 = .ok (.iaload, 1) := by decide +kernel
theorem dL_law_499 : decode cL_law 499 = .ok (.aload_n 0, 1) := by decide +kernel
theorem dL_law_500 : decode cL_law 500 = .ok (.iload_n 3, 1) := by decide +kernel
theorem dL_law_501 : decode cL_law 501 = .ok (.iconst 3, 1) := by decide +kernel
theorem dL_law_502 : decode cL_law 502 = .ok (.iadd, 1) := by decide +kernel
theorem dL_law_503 : decode cL_law 503 = .ok (.iaload, 1) := by decide +kernel
theorem dL_law_504 : decode cL_law 504 = .ok (.invokevirtual 52, 3) := by decide +kernel
theorem dL_law_507 : decode cL_law 507 = .ok (.pop2, 1) := by decide +kernel
theorem dL_law_508 : decode cL_law 508 = .ok (.aload_n 2, 1) := by decide +kernel
theorem dL_law_509 : decode cL_law 509 = .ok (.aload_n 0, 1) := by decide +kernel
theorem dL_law_510 : decode cL_law 510 = .ok (.iload_n 3, 1) := by decide +kernel
theorem dL_law_511 : decode cL_law 511 = .ok (.iconst 1, 1) := by decide +kernel
theorem dL_law_512 : decode cL_law 512 = .ok (.iadd, 1) := by decide +kernel
theorem dL_law_513 : decode cL_law 513 = .ok (.iaload, 1) := by decide +kernel
theorem dL_law_514 : decode cL_law 514 = .ok (.aload_n 0, 1) := by decide +kernel
theorem dL_law_515 : decode cL_law 515 = .ok (.iload_n 3, 1) := by decide +kernel
theorem dL_law_516 : decode cL_law 516 = .ok (.iconst 2, 1) := by decide +kernel
theorem dL_law_517 : decode cL_law 517 = .ok (.iadd, 1) := by decide +kernel
theorem dL_law_518 : decode cL_law 518 = .ok (.iaload, 1) := by decide +kernel
theorem dL_law_519 : decode cL_law 519 = .ok (.aload_n 0, 1) := by decide +kernel
theorem dL_law_520 : decode cL_law 520 = .ok (.iload_n 3, 1) := by decide +kernel
theorem dL_law_521 : decode cL_law 521 = .ok (.iconst 3, 1) := by decide +kernel
theorem dL_law_522 : decode cL_law 522 = .ok (.iadd, 1) := by decide +kernel
theorem dL_law_523 : decode cL_law 523 = .ok (.iaload, 1) := by decide +kernel
theorem dL_law_524 : decode cL_law 524 = .ok (.invokevirtual 56, 3) := by decide +kernel
theorem dL_law_527 : decode cL_law 527 = .ok (.pop2, 1) := by decide +kernel
theorem dL_law_528 : decode cL_law 528 = .ok (.goto 745, 3) := by decide +kernel
theorem dL_law_531 : decode cL_law 531 = .ok (.aload_n 1, 1) := by decide +kernel
theorem dL_law_532 : decode cL_law 532 = .ok (.aload_n 0, 1) := by decide +kernel
theorem dL_law_533 : decode cL_law 533 = .ok (.iload_n 3, 1) := by decide +kernel
theorem dL_law_534 : decode cL_law 534 = .ok (.iconst 1, 1) := by decide +kernel
theorem dL_law_535 : decode cL_law 535 = .ok (.iadd, 1) := by decide +kernel
theorem dL_law_536 : decode cL_law 536 = .ok (.iaload, 1) := by decide +kernel
theorem dL_law_537 : decode cL_law 537 = .ok (.aload_n 0, 1) := by decide +kernel
theorem dL_law_538 : decode cL_law 538 = .ok (.iload_n 3, 1) := by decide +kernel
theorem dL_law_539 : decode cL_law 539 = .ok (.iconst 2, 1) := by decide +kernel
theorem dL_law_540 : decode cL_law 540 = .ok (.iadd, 1) := by decide +kernel
theorem dL_law_541 : decode cL_law 541 = .ok (.iaload, 1) := by decide +kernel
theorem dL_law_542 : decode cL_law 542 = .ok (.aload_n 0, 1) := by decide +kernel
theorem dL_law_543 : decode cL_law 543 = .ok (.iload_n 3, 1) := by decide +kernel
theorem dL_law_544 : decode cL_law 544 = .ok (.iconst 3, 1) := by decide +kernel
theorem dL_law_545 : decode cL_law 545 = .ok (.iadd, 1) := by decide +kernel
theorem dL_law_546 : decode cL_law 546 = .ok (.iaload, 1) := by decide +kernel
theorem dL_law_547 : decode cL_law 547 = .ok (.ifCond .eq 7, 3) := by decide +kernel
theorem dL_law_554 : decode cL_law 554 = .ok (.iconst 0, 1) := by decide +kernel
theorem dL_law_555 : decode cL_law 555 = .ok (.invokevirtual 57, 3) := by decide +kernel
theorem dL_law_558 : decode cL_law 558 = .ok (.pop2, 1) := by decide +kernel
theorem dL_law_559 : decode cL_law 559 = .ok (.aload_n 2, 1) := by decide +kernel
theorem dL_law_560 : decode cL_law 560 = .ok (.aload_n 0, 1) := by decide +kernel
theorem dL_law_561 : decode cL_law 561 = .ok (.iload_n 3, 1) := by decide +kernel
theorem dL_law_562 : decode cL_law 562 = .ok (.iconst 1, 1) := by decide +kernel
theorem dL_law_563 : decode cL_law 563 = .ok (.iadd, 1) := by decide +kernel
theorem dL_law_564 : decode cL_law 564 = .ok (.iaload, 1) := by decide +kernel
theorem dL_law_565 : decode cL_law 565 = .ok (.aload_n 0, 1) := by decide +kernel
theorem dL_law_566 : decode cL_law 566 = .ok (.iload_n 3, 1) := by decide +kernel
theorem dL_law_567 : decode cL_law 567 = .ok (.iconst 2, 1) := by decide +kernel
theorem dL_law_568 : decode cL_law 568 = .ok (.iadd, 1) := by decide +kernel
theorem dL_law_569 : decode cL_law 569 = .ok (.iaload, 1) := by decide +kernel
theorem dL_law_570 : decode cL_law 570 = .ok (.aload_n 0, 1) := by decide +kernel
theorem dL_law_571 : decode cL_law 571 = .ok (.iload_n 3, 1) := by decide +kernel
theorem dL_law_572 : decode cL_law 572 = .ok (.iconst 3, 1) := by decide +kernel
theorem dL_law_573 : decode cL_law 573 = .ok (.iadd, 1) := by decide +kernel
theorem dL_law_574 : decode cL_law 574 = .ok (.iaload, 1) := by decide +kernel
theorem dL_law_575 : decode cL_law 575 = .ok (.ifCond .eq 7, 3) := by decide +kernel
theorem dL_law_582 : decode cL_law 582 = .ok (.iconst 0, 1) := by decide +kernel
theorem dL_law_583 : decode cL_law 583 = .ok (.invokevirtual 61, 3) := by decide +kernel
theorem dL_law_586 : decode cL_law 586 = .ok (.pop2, 1) := by decide +kernel
theorem dL_law_587 : decode cL_law 587 = .ok (.goto 686, 3) := by decide +kernel
theorem dL_law_578 : decode cL_law 578 = .ok (.iconst 1, 1) := by decide +kernel
theorem dL_law_579 : decode cL_law 579 = .ok (.goto 4, 3) := by decide +kernel
theorem dL_law_550 : decode cL_law 550 = .ok (.iconst 1, 1) := by decide +kernel
theorem dL_law_551 : decode cL_law 551 = .ok (.goto 4, 3) := by decide +kernel
theorem dL_law_590 : decode cL_law 590 = .ok (.aload_n 1, 1) := by decide +kernel
theorem dL_law_591 : decode cL_law 591 = .ok (.aload_n 0, 1) := by decide +kernel
theorem dL_law_592 : decode cL_law 592 = .ok (.iload_n 3, 1) := by decide +kernel
theorem dL_law_593 : decode cL_law 593 = .ok (.iconst 1, 1) := by decide +kernel
theorem dL_law_594 : decode cL_law 594 = .ok (.iadd, 1) := by decide +kernel
theorem dL_law_595 : decode cL_law 595 = .ok (.iaload, 1) := by decide +kernel
theorem dL_law_596 : decode cL_law 596 = .ok (.aload_n 0, 1) := by decide +kernel
theorem dL_law_597 : decode cL_law 597 = .ok (.iload_n 3, 1) := by decide +kernel
theorem dL_law_598 : decode cL_law 598 = .ok (.iconst 2, 1) := by decide +kernel
theorem dL_law_599 : decode cL_law 599 = .ok (.iadd, 1) := by decide +kernel
theorem dL_law_600 : decode cL_law 600 = .ok (.iaload, 1) := by decide +kernel
theorem dL_law_601 : decode cL_law 601 = .ok (.invokevirtual 62, 3) := by decide +kernel
theorem dL_law_604 : decode cL_law 604 = .ok (.pop2, 1) := by decide +kernel
theorem dL_law_605 : decode cL_law 605 = .ok (.aload_n 2, 1) := by decide +kernel
theorem dL_law_606 : decode cL_law 606 = .ok (.aload_n 0, 1) := by decide +kernel
theorem dL_law_607 : decode cL_law 607 = .ok (.iload_n 3, 1) := by decide +kernel
theorem dL_law_608 : decode cL_law 608 = .ok (.iconst 1, 1) := by decide +kernel
theorem dL_law_609 : decode cL_law 609 = .ok (.iadd, 1) := by decide +kernel
theorem dL_law_610 : decode cL_law 610 = .ok (.iaload, 1) := by decide +kernel
theorem dL_law_611 : decode cL_law 611 = .ok (.aload_n 0, 1) := by decide +kernel
theorem dL_law_612 : decode cL_law 612 = .ok (.iload_n 3, 1) := by decide +kernel
theorem dL_law_613 : decode cL_law 613 = .ok (.iconst 2, 1) := by decide +kernel
theorem dL_law_614 : decode cL_law 614 = .ok (.iadd, 1) := by decide +kernel
theorem dL_law_615 : decode cL_law 615 = .ok (.iaload, 1) := by decide +kernel
theorem dL_law_616 : decode cL_law 616 = .ok (.invokevirtual 66, 3) := by decide +kernel
theorem dL_law_619 : decode cL_law 619 = .ok (.pop2, 1) := by decide +kernel
theorem dL_law_620 : decode cL_law 620 = .ok (.goto 653, 3) := by decide +kernel
theorem dL_law_623 : decode cL_law 623 = .ok (.aload_n 1, 1) := by decide +kernel
theorem dL_law_624 : decode cL_law 624 = .ok (.aload_n 0, 1) := by decide +kernel
theorem dL_law_625 : decode cL_law 625 = .ok (.iload_n 3, 1) := by decide +kernel
theorem dL_law_626 : decode cL_law 626 = .ok (.iconst 1, 1) := by decide +kernel
theorem dL_law_627 : decode cL_law 627 = .ok (.iadd, 1) := by decide +kernel
theorem dL_law_628 : decode cL_law 628 = .ok (.iaload, 1) := by decide +kernel
theorem dL_law_629 : decode cL_law 629 = .ok (.invokevirtual 67, 3) := by decide +kernel
theorem dL_law_632 : decode cL_law 632 = .ok (.pop, 1) := by decide +kernel
theorem dL_law_633 : decode cL_law 633 = .ok (.aload_n 2, 1) := by decide +kernel
theorem dL_law_634 : decode cL_law 634 = .ok (.aload_n 0, 1) := by decide +kernel
theorem dL_law_635 : decode cL_law 635 = .ok (.iload_n 3, 1) := by decide +kernel
theorem dL_law_636 : decode cL_law 636 = .ok (.iconst 1, 1) := by decide +kernel
theorem dL_law_637 : decode cL_law 637 = .ok (.iadd, 1) := by decide +kernel
theorem dL_law_638 : decode cL_law 638 = .ok (.iaload, 1) := by decide +kernel
theorem dL_law_639 : decode cL_law 639 = .ok (.invokevirtual 70, 3) := by decide +kernel
theorem dL_law_642 : decode cL_law 642 = .ok (.pop, 1) := by decide +kernel
theorem dL_law_643 : decode cL_law 643 = .ok (.goto 630, 3) := by decide +kernel
theorem dL_law_646 : decode cL_law 646 = .ok (.aload_n 1, 1) := by decide +kernel
theorem dL_law_647 : decode cL_law 647 = .ok (.aload_n 0, 1) := by decide +kernel
theorem dL_law_648 : decode cL_law 648 = .ok (.iload_n 3, 1) := by decide +kernel
theorem dL_law_649 : decode cL_law 649 = .ok (.iconst 1, 1) := by decide +kernel
theorem dL_law_650 : decode cL_law 650 = .ok (.iadd, 1) := by decide +kernel
theorem dL_law_651 : decode cL_law 651 = .ok (.iaload, 1) := by decide +kernel
theorem dL_law_652 : decode cL_law 652 = .ok (.aload_n 0, 1) := by decide +kernel
theorem dL_law_653 : decode cL_law 653 = .ok (.iload_n 3, 1) := by decide +kernel
theorem dL_law_654 : decode cL_law 654 = .ok (.iconst 2, 1) := by decide +kernel
theorem dL_law_655 : decode cL_law 655 = .ok (.iadd, 1) := by decide +kernel
theorem dL_law_656 : decode cL_law 656 = .ok (.iaload, 1) := by decide +kernel
theorem dL_law_657 : decode cL_law 657 = .ok (.invokevirtual 71, 3) := by decide +kernel
theorem dL_law_660 : decode cL_law 660 = .ok (.pop2, 1) := by decide +kernel
theorem dL_law_661 : decode cL_law 661 = .ok (.aload_n 2, 1) := by decide +kernel
theorem dL_law_662 : decode cL_law 662 = .ok (.aload_n 0, 1) := by decide +kernel
theorem dL_law_663 : decode cL_law 663 = .ok (.iload_n 3, 1) := by decide +kernel
theorem dL_law_664 : decode cL_law 664 = .ok (.iconst 1, 1) := by decide +kernel
theorem dL_law_665 : decode cL_law 665 = .ok (.iadd, 1) := by decide +kernel
theorem dL_law_666 : decode cL_law 666 = .ok (.iaload, 1) := by decide +kernel
theorem dL_law_667 : decode cL_law 667 = .ok (.aload_n 0, 1) := by decide +kernel
theorem dL_law_668 : decode cL_law 668 = .ok (.iload_n 3, 1) := by decide +kernel
theorem dL_law_669 : decode cL_law 669 = .ok (.iconst 2, 1) := by decide +kernel
theorem dL_law_670 : decode cL_law 670 = .ok (.iadd, 1) := by decide +kernel
theorem dL_law_671 : decode cL_law 671 = .ok (.iaload, 1) := by decide +kernel
theorem dL_law_672 : decode cL_law 672 = .ok (.invokevirtual 74, 3) := by decide +kernel
theorem dL_law_675 : decode cL_law 675 = .ok (.pop2, 1) := by decide +kernel
theorem dL_law_676 : decode cL_law 676 = .ok (.goto 597, 3) := by decide +kernel
theorem dL_law_679 : decode cL_law 679 = .ok (.aload_n 1, 1) := by decide +kernel
theorem dL_law_680 : decode cL_law 680 = .ok (.aload_n 0, 1) := by decide +kernel
theorem dL_law_681 : decode cL_law 681 = .ok (.iload_n 3, 1) := by decide +kernel
theorem dL_law_682 : decode cL_law 682 = .ok (.iconst 1, 1) := by decide +kernel
theorem dL_law_683 : decode cL_law 683 = .ok (.iadd, 1) := by decide +kernel
theorem dL_law_684 : decode cL_law 684 = .ok (.iaload, 1) := by decide +kernel
theorem dL_law_685 : decode cL_law 685 = .ok (.aload_n 0, 1) := by decide +kernel
theorem dL_law_686 : decode cL_law 686 = .ok (.iload_n 3, 1) := by decide +kernel
theorem dL_law_687 : decode cL_law 687 = .ok (.iconst 2, 1) := by decide +kernel
theorem dL_law_688 : decode cL_law 688 = .ok (.iadd, 1) := by decide +kernel
theorem dL_law_689 : decode cL_law 689 = .ok (.iaload, 1) := by decide +kernel
theorem dL_law_690 : decode cL_law 690 = .ok (.invokevirtual 75, 3) := by decide +kernel
theorem dL_law_693 : decode cL_law 693 = .ok (.pop, 1) := by decide +kernel
theorem dL_law_694 : decode cL_law 694 = .ok (.aload_n 2, 1) := by decide +kernel
theorem dL_law_695 : decode cL_law 695 = .ok (.aload_n 0, 1) := by decide +kernel
theorem dL_law_696 : decode cL_law 696 = .ok (.iload_n 3, 1) := by decide +kernel
theorem dL_law_697 : decode cL_law 697 = .ok (.iconst 1, 1) := by decide +kernel
theorem dL_law_698 : decode cL_law 698 = .ok (.iadd, 1) := by decide +kernel
theorem dL_law_699 : decode cL_law 699 = .ok (.iaload, 1) := by decide +kernel
theorem dL_law_700 : decode cL_law 700 = .ok (.aload_n 0, 1) := by decide +kernel
theorem dL_law_701 : decode cL_law 701 = .ok (.iload_n 3, 1) := by decide +kernel
theorem dL_law_702 : decode cL_law 702 = .ok (.iconst 2, 1) := by decide +kernel
theorem dL_law_703 : decode cL_law 703 = .ok (.iadd, 1) := by decide +kernel
theorem dL_law_704 : decode cL_law 704 = .ok (.iaload, 1) := by decide +kernel
theorem dL_law_705 : decode cL_law 705 = .ok (.invokevirtual 79, 3) := by decide +kernel
theorem dL_law_708 : decode cL_law 708 = .ok (.pop, 1) := by decide +kernel
theorem dL_law_709 : decode cL_law 709 = .ok (.goto 564, 3) := by decide +kernel
theorem dL_law_712 : decode cL_law 712 = .ok (.aload_n 1, 1) := by decide +kernel
theorem dL_law_713 : decode cL_law 713 = .ok (.aload_n 0, 1) := by decide +kernel
theorem dL_law_714 : decode cL_law 714 = .ok (.iload_n 3, 1) := by decide +kernel
theorem dL_law_715 : decode cL_law 715 = .ok (.iconst 1, 1) := by decide +kernel
theorem dL_law_716 : decode cL_law 716 = .ok (.iadd, 1) := by decide +kernel
theorem dL_law_717 : decode cL_law 717 = .ok (.iaload, 1) := by decide +kernel
theorem dL_law_718 : decode cL_law 718 = .ok (.aload_n 0, 1) := by decide +kernel
theorem dL_law_719 : decode cL_law 719 = .ok (.iload_n 3, 1) := by decide +kernel
theorem dL_law_720 : decode cL_law 720 = .ok (.iconst 2, 1) := by decide +kernel
theorem dL_law_721 : decode cL_law 721 = .ok (.iadd, 1) := by decide +kernel
theorem dL_law_722 : decode cL_law 722 = .ok (.iaload, 1) := by decide +kernel
theorem dL_law_723 : decode cL_law 723 = .ok (.aload_n 0, 1) := by decide +kernel
theorem dL_law_724 : decode cL_law 724 = .ok (.iload_n 3, 1) := by decide +kernel
theorem dL_law_725 : decode cL_law 725 = .ok (.iconst 3, 1) := by decide +kernel
theorem dL_law_726 : decode cL_law 726 = .ok (.iadd, 1) := by decide +kernel
theorem dL_law_727 : decode cL_law 727 = .ok (.iaload, 1) := by decide +kernel
theorem dL_law_728 : decode cL_law 728 = .ok (.invokevirtual 80, 3) := by decide +kernel
theorem dL_law_731 : decode cL_law 731 = .ok (.pop2, 1) := by decide +kernel
theorem dL_law_732 : decode cL_law 732 = .ok (.aload_n 2, 1) := by decide +kernel
theorem dL_law_733 : decode cL_law 733 = .ok (.aload_n 0, 1) := by decide +kernel
theorem dL_law_734 : decode cL_law 734 = .ok (.iload_n 3, 1) := by decide +kernel
theorem dL_law_735 : decode cL_law 735 = .ok (.iconst 1, 1) := by decide +kernel
theorem dL_law_736 : decode cL_law 736 = .ok (.iadd, 1) := by decide +kernel
theorem dL_law_737 : decode cL_law 737 = .ok (.iaload, 1) := by decide +kernel
theorem dL_law_738 : decode cL_law 738 = .ok (.aload_n 0, 1) := by decide +kernel
theorem dL_law_739 : decode cL_law 739 = .ok (.iload_n 3, 1) := by decide +kernel
theorem dL_law_740 : decode cL_law 740 = .ok (.iconst 2, 1) := by decide +kernel
theorem dL_law_741 : decode cL_law 741 = .ok (.iadd, 1) := by decide +kernel
theorem dL_law_742 : decode cL_law 742 = .ok (.iaload, 1) := by decide +kernel
theorem dL_law_743 : decode cL_law 743 = .ok (.aload_n 0, 1) := by decide +kernel
theorem dL_law_744 : decode cL_law 744 = .ok (.iload_n 3, 1) := by decide +kernel
theorem dL_law_745 : decode cL_law 745 = .ok (.iconst 3, 1) := by decide +kernel
theorem dL_law_746 : decode cL_law 746 = .ok (.iadd, 1) := by decide +kernel
theorem dL_law_747 : decode cL_law 747 = .ok (.iaload, 1) := by decide +kernel
theorem dL_law_748 : decode cL_law 748 = .ok (.invokevirtual 83, 3) := by decide +kernel
theorem dL_law_751 : decode cL_law 751 = .ok (.pop2, 1) := by decide +kernel
theorem dL_law_752 : decode cL_law 752 = .ok (.goto 521, 3) := by decide +kernel
theorem dL_law_755 : decode cL_law 755 = .ok (.aload_n 1, 1) := by decide +kernel
theorem dL_law_756 : decode cL_law 756 = .ok (.aload_n 0, 1) := by decide +kernel
theorem dL_law_757 : decode cL_law 757 = .ok (.iload_n 3, 1) := by decide +kernel
theorem dL_law_758 : decode cL_law 758 = .ok (.iconst 1, 1) := by decide +kernel
theorem dL_law_759 : decode cL_law 759 = .ok (.iadd, 1) := by decide +kernel
theorem dL_law_760 : decode cL_law 760 = .ok (.iaload, 1) := by decide +kernel
theorem dL_law_761 : decode cL_law 761 = .ok (.invokevirtual 84, 3) := by decide +kernel
theorem dL_law_764 : decode cL_law 764 = .ok (.pop, 1) := by decide +kernel
theorem dL_law_765 : decode cL_law 765 = .ok (.aload_n 2, 1) := by decide +kernel
theorem dL_law_766 : decode cL_law 766 = .ok (.aload_n 0, 1) := by decide +kernel
theorem dL_law_767 : decode cL_law 767 = .ok (.iload_n 3, 1) := by decide +kernel
theorem dL_law_768 : decode cL_law 768 = .ok (.iconst 1, 1) := by decide +kernel
theorem dL_law_769 : decode cL_law 769 = .ok (.iadd, 1) := by decide +kernel
theorem dL_law_770 : decode cL_law 770 = .ok (.iaload, 1) := by decide +kernel
theorem dL_law_771 : decode cL_law 771 = .ok (.invokevirtual 87, 3) := by decide +kernel
theorem dL_law_774 : decode cL_law 774 = .ok (.pop, 1) := by decide +kernel
theorem dL_law_775 : decode cL_law 775 = .ok (.goto 498, 3) := by decide +kernel
set_option maxHeartbeats 4000000 in
set_option maxRecDepth 100000 in
theorem law_8 {p : Program} {l : Launch} {e : Env} {s : State} {m : MethodId} {below : List Frame} {meth : Method} {c : Code} {b L : Nat} {xs : Nat → Int32} (C0 : lw_At p s m meth c b L xs) (hE : Ey s) {A : Nat → Prop} (hAe : A = fun q : Nat => s.heap.size ≤ q) {dC : Nat → ClassId} {dI : Nat → Nat → Nat} {adK adV : Nat → Nat} (hZ : Zs adK adV A s s.heap) (hR : Rs adK s) {κ : CE} {φ ψ σ : MS} {h : Nat} {ad : Nat → Nat} {cl : Nat → ClassId} {μ : MS} {H : Heap} {locs : List Loc} {cells slots : Nat} {i : Int32} {ls : Array Slot} (hi : 0 ≤ i.toInt ∧ i.toInt + 5 < (L : Int) ∧ L ≤ 3072) (hc : cells + 1011 ≤ 600000 ∧ slots + 43534 ≤ 7302250) (G : LG dC dI A s κ φ ψ σ h ad cl μ H locs) (hl : lv_has ls 4 [(3, .int i), (1, .ref (kA κ 0)), (2, .ref h), (0, .ref b)]) {Q : State → Prop}
    (kk : ∀ (κ' : CE) (φ' ψ' σ' μ' : MS) (H' : Heap) (locs' : List Loc) (c' t' : Nat), LG dC dI A s κ' φ' ψ' σ' h ad cl μ' H' locs' → kA κ' 0 = kA κ 0 → c' + 3 * bc κ ≤ cells + 1008 + 3 * bc κ' → t' + 32489 * bc κ ≤ slots + 11045 + 32489 * bc κ' → W p l e room_1 s m #[Value.ref b] below meth c H' locs' c' t' Q (F0 m 1273 ls [])) : W p l e room_1 s m #[Value.ref b] below meth c H locs cells slots Q (F0 m 488 ls []) := by
  obtain ⟨hx, hb, hr, hml, hown, hts, hX, hbl, hlocks, hgv⟩ := id C0
  have hA : ∀ q : Nat, s.heap.size ≤ q → A q := fun q h => by rw [hAe]; exact h
  have hbA : ¬ A b := by rw [hAe]; exact Nat.not_le.mpr hbl
  obtain ⟨hP, hD, hS, hKm, hKx, hk, hI, hF, hM, hRI⟩ := G
  have hKc : va_K (dC, dI) vwCl (cT κ) s := hKx.sub [0, 1, 2, 3, 4, 5, 6, 7, 8, 9, 10, 11, 12, 13, 14, 15, 16, 17, 18, 19, 20] rfl
  refine lv_aload_n hx hb dL_law_488 rfl (lv_at hl 1 rfl) ?_
  refine lv_aload_n hx hb dL_law_489 rfl (lv_at hl 3 rfl) ?_
  refine lv_iload_n hx hb dL_law_490 rfl (lv_at hl 0 rfl) ?_
  refine lv_iconst (v := 1) hx hb dL_law_491 (by decide) ?_
  refine lv_iadd hx hb dL_law_492 ?_
  refine lv_topi (fun z1_ ez1_ => ?_)
  have tz1_ : z1_.toInt = i.toInt + 1 := ti_add ez1_ rfl (by decide) (by omega) (by omega)
  refine va_sld hx hb hX hbl hbA hS (sx_in tz1_ hi.1 (by decide) (by omega)) dL_law_493 ?_
  refine lv_topi (fun y2_ ey2_ => ?_)
  refine lv_aload_n hx hb dL_law_494 rfl (lv_at hl 3 rfl) ?_
  refine lv_iload_n hx hb dL_law_495 rfl (lv_at hl 0 rfl) ?_
  refine lv_iconst (v := 2) hx hb dL_law_496 (by decide) ?_
  refine lv_iadd hx hb dL_law_497 ?_
  refine lv_topi (fun z3_ ez3_ => ?_)
  have tz3_ : z3_.toInt = i.toInt + 2 := ti_add ez3_ rfl (by decide) (by omega) (by omega)
  refine va_sld hx hb hX hbl hbA hS (sx_in tz3_ hi.1 (by decide) (by omega)) dL_law_498 ?_
  refine lv_topi (fun y4_ ey4_ => ?_)
  refine lv_aload_n hx hb dL_law_499 rfl (lv_at hl 3 rfl) ?_
  refine lv_iload_n hx hb dL_law_500 rfl (lv_at hl 0 rfl) ?_
  refine lv_iconst (v := 3) hx hb dL_law_501 (by decide) ?_
  refine lv_iadd hx hb dL_law_502 ?_
  refine lv_topi (fun z5_ ez5_ => ?_)
  have tz5_ : z5_.toInt = i.toInt + 3 := ti_add ez5_ rfl (by decide) (by omega) (by omega)
  refine va_sld hx hb hX hbl hbA hS (sx_in tz5_ hi.1 (by decide) (by omega)) dL_law_503 ?_
  refine lv_topi (fun y6_ ey6_ => ?_)
  have hP := lxP hP
  have hD := lxD hD
  refine zc_l (wr := (mW h ad cl μ)) (wc := cW (ky κ (xX κ φ ψ)) σ) (va_runV (As := [.int y2_, .int y4_, .int y6_]) (rest := []) ⟨hx, hb, hml, hown, hts⟩ (k_value l dC dI (ky κ (xX κ φ ψ)) H.size σ y2_ y4_ y6_ hk hI ) (cwV 3 hts gl_k_value rfl rfl rfl dd_k_value ⟨Nat.le_of_ble_eq_true rfl, Nat.le_of_ble_eq_true rfl⟩) (preVy (rP hP) hKc (rD hD) hE (ci := 11) (q0 := 0) rfl rfl) rfl rfl hl.1 rfl (lv_room (Nat.le_of_ble_eq_true rfl)) dL_law_504 ⟨(show cells + 0 ≤ 600000 by omega), (show slots + 0 ≤ 7302250 by omega)⟩) hP hD hS hA (fun j8_ τ9_ H locs hq _ hP hD hS => ?_)
  obtain ⟨hτ9_, qτ9_⟩ := hq
  have hP := xlP hP
  have hD := xlD hD
  refine W.widen (k := cells) (n := slots) (Nat.le_refl _) (Nat.le_refl _) ?_
  refine lv_pop2_2 hx hb dL_law_507 rfl ?_
  refine lv_aload_n hx hb dL_law_508 rfl (lv_at hl 2 rfl) ?_
  refine lv_aload_n hx hb dL_law_509 rfl (lv_at hl 3 rfl) ?_
  refine lv_iload_n hx hb dL_law_510 rfl (lv_at hl 0 rfl) ?_
  refine lv_iconst (v := 1) hx hb dL_law_511 (by decide) ?_
  refine lv_iadd hx hb dL_law_512 ?_
  refine lv_topi (fun z10_ ez10_ => ?_)
  have tz10_ : z10_.toInt = i.toInt + 1 := ti_add ez10_ rfl (by decide) (by omega) (by omega)
  refine va_sld hx hb hX hbl hbA hS (sx_in tz10_ hi.1 (by decide) (by omega)) dL_law_513 ?_
  refine lv_topi (fun y11_ ey11_ => ?_)
  have qy11_ : y11_ = y2_ := by rw [ey11_, ey2_, show z10_ = z1_ from Int32.toInt_inj.mp (by omega)]
  refine lv_aload_n hx hb dL_law_514 rfl (lv_at hl 3 rfl) ?_
  refine lv_iload_n hx hb dL_law_515 rfl (lv_at hl 0 rfl) ?_
  refine lv_iconst (v := 2) hx hb dL_law_516 (by decide) ?_
  refine lv_iadd hx hb dL_law_517 ?_
  refine lv_topi (fun z12_ ez12_ => ?_)
  have tz12_ : z12_.toInt = i.toInt + 2 := ti_add ez12_ rfl (by decide) (by omega) (by omega)
  refine va_sld hx hb hX hbl hbA hS (sx_in tz12_ hi.1 (by decide) (by omega)) dL_law_518 ?_
  refine lv_topi (fun y13_ ey13_ => ?_)
  have qy13_ : y13_ = y4_ := by rw [ey13_, ey4_, show z12_ = z3_ from Int32.toInt_inj.mp (by omega)]
  refine lv_aload_n hx hb dL_law_519 rfl (lv_at hl 3 rfl) ?_
  refine lv_iload_n hx hb dL_law_520 rfl (lv_at hl 0 rfl) ?_
  refine lv_iconst (v := 3) hx hb dL_law_521 (by decide) ?_
  refine lv_iadd hx hb dL_law_522 ?_
  refine lv_topi (fun z14_ ez14_ => ?_)
  have tz14_ : z14_.toInt = i.toInt + 3 := ti_add ez14_ rfl (by decide) (by omega) (by omega)
  refine va_sld hx hb hX hbl hbA hS (sx_in tz14_ hi.1 (by decide) (by omega)) dL_law_523 ?_
  refine lv_topi (fun y15_ ey15_ => ?_)
  have qy15_ : y15_ = y6_ := by rw [ey15_, ey6_, show z14_ = z5_ from Int32.toInt_inj.mp (by omega)]
  refine zp_l (wc := (mW h ad cl μ)) (wr := (xW κ (xX κ φ ψ) τ9_)) (va_runV (As := [.int y11_, .int y13_, .int y15_]) (rest := []) ⟨hx, hb, hml, hown, hts⟩ (n_value l dC dI h ad cl H.size μ y11_ y13_ y15_ hM hRI.1 hRI.2.2.1) (cwV 3 hts gl_n_value rfl rfl rfl dd_n_value ⟨Nat.le_of_ble_eq_true rfl, Nat.le_of_ble_eq_true rfl⟩) (preV (lP hP) hKm (lD hD) hE.x (ci := 12) (q0 := 0) rfl rfl) rfl rfl hl.1 rfl (lv_room (Nat.le_of_ble_eq_true rfl)) dL_law_524 ⟨(show cells + 0 ≤ 600000 by omega), (show slots + 0 ≤ 7302250 by omega)⟩) hP hD hS hA (fun j16_ μ17_ H locs hq hP hD hS => ?_)
  obtain ⟨hμ17_, xμ17_⟩ := hq
  have iμ17_ : RI μ17_ := RI_scr hM hRI xμ17_
  refine W.widen (k := cells) (n := slots) (Nat.le_refl _) (Nat.le_refl _) ?_
  refine lv_pop2_2 hx hb dL_law_527 rfl ?_
  refine lv_goto (tgt := 1273) hx hb dL_law_528 (by decide) ?_
  have hG9_ : LG dC dI A s κ φ ψ τ9_ h ad cl μ17_ H locs := ⟨hP, hD, hS, hKm, hKx, hk, hτ9_, hF, hμ17_, iμ17_⟩
  exact kk _ _ _ _ _ _ _ cells slots hG9_ rfl (by omega) (by omega)
set_option maxHeartbeats 4000000 in
set_option maxRecDepth 100000 in
theorem law_9 {p : Program} {l : Launch} {e : Env} {s : State} {m : MethodId} {below : List Frame} {meth : Method} {c : Code} {b L : Nat} {xs : Nat → Int32} (C0 : lw_At p s m meth c b L xs) (hE : Ey s) {A : Nat → Prop} (hAe : A = fun q : Nat => s.heap.size ≤ q) {dC : Nat → ClassId} {dI : Nat → Nat → Nat} {adK adV : Nat → Nat} (hZ : Zs adK adV A s s.heap) (hR : Rs adK s) {κ : CE} {φ ψ σ : MS} {h : Nat} {ad : Nat → Nat} {cl : Nat → ClassId} {μ : MS} {H : Heap} {locs : List Loc} {cells slots : Nat} {i : Int32} {ls : Array Slot} (hi : 0 ≤ i.toInt ∧ i.toInt + 5 < (L : Int) ∧ L ≤ 3072) (hc : cells + 1011 ≤ 600000 ∧ slots + 43534 ≤ 7302250) (G : LG dC dI A s κ φ ψ σ h ad cl μ H locs) (hl : lv_has ls 4 [(3, .int i), (1, .ref (kA κ 0)), (2, .ref h), (0, .ref b)]) {Q : State → Prop}
    (kk : ∀ (κ' : CE) (φ' ψ' σ' μ' : MS) (H' : Heap) (locs' : List Loc) (c' t' : Nat), LG dC dI A s κ' φ' ψ' σ' h ad cl μ' H' locs' → kA κ' 0 = kA κ 0 → c' + 3 * bc κ ≤ cells + 1008 + 3 * bc κ' → t' + 32489 * bc κ ≤ slots + 11045 + 32489 * bc κ' → W p l e room_1 s m #[Value.ref b] below meth c H' locs' c' t' Q (F0 m 1273 ls [])) : W p l e room_1 s m #[Value.ref b] below meth c H locs cells slots Q (F0 m 531 ls []) := by
  obtain ⟨hx, hb, hr, hml, hown, hts, hX, hbl, hlocks, hgv⟩ := id C0
  have hA : ∀ q : Nat, s.heap.size ≤ q → A q := fun q h => by rw [hAe]; exact h
  have hbA : ¬ A b := by rw [hAe]; exact Nat.not_le.mpr hbl
  obtain ⟨hP, hD, hS, hKm, hKx, hk, hI, hF, hM, hRI⟩ := G
  have hKc : va_K (dC, dI) vwCl (cT κ) s := hKx.sub [0, 1, 2, 3, 4, 5, 6, 7, 8, 9, 10, 11, 12, 13, 14, 15, 16, 17, 18, 19, 20] rfl
  refine lv_aload_n hx hb dL_law_531 rfl (lv_at hl 1 rfl) ?_
  refine lv_aload_n hx hb dL_law_532 rfl (lv_at hl 3 rfl) ?_
  refine lv_iload_n hx hb dL_law_533 rfl (lv_at hl 0 rfl) ?_
  refine lv_iconst (v := 1) hx hb dL_law_534 (by decide) ?_
  refine lv_iadd hx hb dL_law_535 ?_
  refine lv_topi (fun z1_ ez1_ => ?_)
  have tz1_ : z1_.toInt = i.toInt + 1 := ti_add ez1_ rfl (by decide) (by omega) (by omega)
  refine va_sld hx hb hX hbl hbA hS (sx_in tz1_ hi.1 (by decide) (by omega)) dL_law_536 ?_
  refine lv_topi (fun y2_ ey2_ => ?_)
  refine lv_aload_n hx hb dL_law_537 rfl (lv_at hl 3 rfl) ?_
  refine lv_iload_n hx hb dL_law_538 rfl (lv_at hl 0 rfl) ?_
  refine lv_iconst (v := 2) hx hb dL_law_539 (by decide) ?_
  refine lv_iadd hx hb dL_law_540 ?_
  refine lv_topi (fun z3_ ez3_ => ?_)
  have tz3_ : z3_.toInt = i.toInt + 2 := ti_add ez3_ rfl (by decide) (by omega) (by omega)
  refine va_sld hx hb hX hbl hbA hS (sx_in tz3_ hi.1 (by decide) (by omega)) dL_law_541 ?_
  refine lv_topi (fun y4_ ey4_ => ?_)
  refine lv_aload_n hx hb dL_law_542 rfl (lv_at hl 3 rfl) ?_
  refine lv_iload_n hx hb dL_law_543 rfl (lv_at hl 0 rfl) ?_
  refine lv_iconst (v := 3) hx hb dL_law_544 (by decide) ?_
  refine lv_iadd hx hb dL_law_545 ?_
  refine lv_topi (fun z5_ ez5_ => ?_)
  have tz5_ : z5_.toInt = i.toInt + 3 := ti_add ez5_ rfl (by decide) (by omega) (by omega)
  refine va_sld hx hb hX hbl hbA hS (sx_in tz5_ hi.1 (by decide) (by omega)) dL_law_546 ?_
  refine lv_topi (fun y6_ ey6_ => ?_)
  refine lv_if_eq (tgt := 554) hx hb dL_law_547 rfl (fun _ => ?_) (fun _ => ?_)
  · refine lv_iconst (v := 0) hx hb dL_law_554 (by decide) ?_
    have hP := lxP hP
    have hD := lxD hD
    refine zc_l (wr := (mW h ad cl μ)) (wc := cW (ky κ (xX κ φ ψ)) σ) (va_runV (As := [.int y2_, .int y4_, .int 0]) (rest := []) ⟨hx, hb, hml, hown, hts⟩ (k_error l dC dI (ky κ (xX κ φ ψ)) H.size σ y2_ y4_ (0) hk hI ) (cwV 3 hts gl_k_error rfl rfl rfl dd_k_error ⟨Nat.le_of_ble_eq_true rfl, Nat.le_of_ble_eq_true rfl⟩) (preVy (rP hP) hKc (rD hD) hE (ci := 11) (q0 := 0) rfl rfl) rfl rfl hl.1 rfl (lv_room (Nat.le_of_ble_eq_true rfl)) dL_law_555 ⟨(show cells + 0 ≤ 600000 by omega), (show slots + 0 ≤ 7302250 by omega)⟩) hP hD hS hA (fun j8_ τ9_ H locs hq _ hP hD hS => ?_)
    obtain ⟨hτ9_, qτ9_⟩ := hq
    have hP := xlP hP
    have hD := xlD hD
    refine W.widen (k := cells) (n := slots) (Nat.le_refl _) (Nat.le_refl _) ?_
    refine lv_pop2_2 hx hb dL_law_558 rfl ?_
    refine lv_aload_n hx hb dL_law_559 rfl (lv_at hl 2 rfl) ?_
    refine lv_aload_n hx hb dL_law_560 rfl (lv_at hl 3 rfl) ?_
    refine lv_iload_n hx hb dL_law_561 rfl (lv_at hl 0 rfl) ?_
    refine lv_iconst (v := 1) hx hb dL_law_562 (by decide) ?_
    refine lv_iadd hx hb dL_law_563 ?_
    refine lv_topi (fun z10_ ez10_ => ?_)
    have tz10_ : z10_.toInt = i.toInt + 1 := ti_add ez10_ rfl (by decide) (by omega) (by omega)
    refine va_sld hx hb hX hbl hbA hS (sx_in tz10_ hi.1 (by decide) (by omega)) dL_law_564 ?_
    refine lv_topi (fun y11_ ey11_ => ?_)
    have qy11_ : y11_ = y2_ := by rw [ey11_, ey2_, show z10_ = z1_ from Int32.toInt_inj.mp (by omega)]
    refine lv_aload_n hx hb dL_law_565 rfl (lv_at hl 3 rfl) ?_
    refine lv_iload_n hx hb dL_law_566 rfl (lv_at hl 0 rfl) ?_
    refine lv_iconst (v := 2) hx hb dL_law_567 (by decide) ?_
    refine lv_iadd hx hb dL_law_568 ?_
    refine lv_topi (fun z12_ ez12_ => ?_)
    have tz12_ : z12_.toInt = i.toInt + 2 := ti_add ez12_ rfl (by decide) (by omega) (by omega)
    refine va_sld hx hb hX hbl hbA hS (sx_in tz12_ hi.1 (by decide) (by omega)) dL_law_569 ?_
    refine lv_topi (fun y13_ ey13_ => ?_)
    have qy13_ : y13_ = y4_ := by rw [ey13_, ey4_, show z12_ = z3_ from Int32.toInt_inj.mp (by omega)]
    refine lv_aload_n hx hb dL_law_570 rfl (lv_at hl 3 rfl) ?_
    refine lv_iload_n hx hb dL_law_571 rfl (lv_at hl 0 rfl) ?_
    refine lv_iconst (v := 3) hx hb dL_law_572 (by decide) ?_
    refine lv_iadd hx hb dL_law_573 ?_
    refine lv_topi (fun z14_ ez14_ => ?_)
    have tz14_ : z14_.toInt = i.toInt + 3 := ti_add ez14_ rfl (by decide) (by omega) (by omega)
    refine va_sld hx hb hX hbl hbA hS (sx_in tz14_ hi.1 (by decide) (by omega)) dL_law_574 ?_
    refine lv_topi (fun y15_ ey15_ => ?_)
    have qy15_ : y15_ = y6_ := by rw [ey15_, ey6_, show z14_ = z5_ from Int32.toInt_inj.mp (by omega)]
    refine lv_if_eq (tgt := 582) hx hb dL_law_575 rfl (fun _ => ?_) (fun _ => ?_)
    · refine lv_iconst (v := 0) hx hb dL_law_582 (by decide) ?_
      refine zp_l (wc := (mW h ad cl μ)) (wr := (xW κ (xX κ φ ψ) τ9_)) (va_runV (As := [.int y11_, .int y13_, .int 0]) (rest := []) ⟨hx, hb, hml, hown, hts⟩ (n_error l dC dI h ad cl H.size μ y11_ y13_ (0) hM hRI.1 hRI.2.2.1) (cwV 3 hts gl_n_error rfl rfl rfl dd_n_error ⟨Nat.le_of_ble_eq_true rfl, Nat.le_of_ble_eq_true rfl⟩) (preV (lP hP) hKm (lD hD) hE.x (ci := 12) (q0 := 0) rfl rfl) rfl rfl hl.1 rfl (lv_room (Nat.le_of_ble_eq_true rfl)) dL_law_583 ⟨(show cells + 0 ≤ 600000 by omega), (show slots + 0 ≤ 7302250 by omega)⟩) hP hD hS hA (fun j16_ μ17_ H locs hq hP hD hS => ?_)
      obtain ⟨hμ17_, xμ17_⟩ := hq
      have iμ17_ : RI μ17_ := RI_scr hM hRI xμ17_
      refine W.widen (k := cells) (n := slots) (Nat.le_refl _) (Nat.le_refl _) ?_
      refine lv_pop2_2 hx hb dL_law_586 rfl ?_
      refine lv_goto (tgt := 1273) hx hb dL_law_587 (by decide) ?_
      have hG9_ : LG dC dI A s κ φ ψ τ9_ h ad cl μ17_ H locs := ⟨hP, hD, hS, hKm, hKx, hk, hτ9_, hF, hμ17_, iμ17_⟩
      exact kk _ _ _ _ _ _ _ cells slots hG9_ rfl (by omega) (by omega)
    · refine lv_iconst (v := 1) hx hb dL_law_578 (by decide) ?_
      refine lv_goto (tgt := 583) hx hb dL_law_579 (by decide) ?_
      refine zp_l (wc := (mW h ad cl μ)) (wr := (xW κ (xX κ φ ψ) τ9_)) (va_runV (As := [.int y11_, .int y13_, .int 1]) (rest := []) ⟨hx, hb, hml, hown, hts⟩ (n_error l dC dI h ad cl H.size μ y11_ y13_ (1) hM hRI.1 hRI.2.2.1) (cwV 3 hts gl_n_error rfl rfl rfl dd_n_error ⟨Nat.le_of_ble_eq_true rfl, Nat.le_of_ble_eq_true rfl⟩) (preV (lP hP) hKm (lD hD) hE.x (ci := 12) (q0 := 0) rfl rfl) rfl rfl hl.1 rfl (lv_room (Nat.le_of_ble_eq_true rfl)) dL_law_583 ⟨(show cells + 0 ≤ 600000 by omega), (show slots + 0 ≤ 7302250 by omega)⟩) hP hD hS hA (fun j19_ μ20_ H locs hq hP hD hS => ?_)
      obtain ⟨hμ20_, xμ20_⟩ := hq
      have iμ20_ : RI μ20_ := RI_scr hM hRI xμ20_
      refine W.widen (k := cells) (n := slots) (Nat.le_refl _) (Nat.le_refl _) ?_
      refine lv_pop2_2 hx hb dL_law_586 rfl ?_
      refine lv_goto (tgt := 1273) hx hb dL_law_587 (by decide) ?_
      have hG9_ : LG dC dI A s κ φ ψ τ9_ h ad cl μ20_ H locs := ⟨hP, hD, hS, hKm, hKx, hk, hτ9_, hF, hμ20_, iμ20_⟩
      exact kk _ _ _ _ _ _ _ cells slots hG9_ rfl (by omega) (by omega)
  · refine lv_iconst (v := 1) hx hb dL_law_550 (by decide) ?_
    refine lv_goto (tgt := 555) hx hb dL_law_551 (by decide) ?_
    have hP := lxP hP
    have hD := lxD hD
    refine zc_l (wr := (mW h ad cl μ)) (wc := cW (ky κ (xX κ φ ψ)) σ) (va_runV (As := [.int y2_, .int y4_, .int 1]) (rest := []) ⟨hx, hb, hml, hown, hts⟩ (k_error l dC dI (ky κ (xX κ φ ψ)) H.size σ y2_ y4_ (1) hk hI ) (cwV 3 hts gl_k_error rfl rfl rfl dd_k_error ⟨Nat.le_of_ble_eq_true rfl, Nat.le_of_ble_eq_true rfl⟩) (preVy (rP hP) hKc (rD hD) hE (ci := 11) (q0 := 0) rfl rfl) rfl rfl hl.1 rfl (lv_room (Nat.le_of_ble_eq_true rfl)) dL_law_555 ⟨(show cells + 0 ≤ 600000 by omega), (show slots + 0 ≤ 7302250 by omega)⟩) hP hD hS hA (fun j23_ τ24_ H locs hq _ hP hD hS => ?_)
    obtain ⟨hτ24_, qτ24_⟩ := hq
    have hP := xlP hP
    have hD := xlD hD
    refine W.widen (k := cells) (n := slots) (Nat.le_refl _) (Nat.le_refl _) ?_
    refine lv_pop2_2 hx hb dL_law_558 rfl ?_
    refine lv_aload_n hx hb dL_law_559 rfl (lv_at hl 2 rfl) ?_
    refine lv_aload_n hx hb dL_law_560 rfl (lv_at hl 3 rfl) ?_
    refine lv_iload_n hx hb dL_law_561 rfl (lv_at hl 0 rfl) ?_
    refine lv_iconst (v := 1) hx hb dL_law_562 (by decide) ?_
    refine lv_iadd hx hb dL_law_563 ?_
    refine lv_topi (fun z25_ ez25_ => ?_)
    have tz25_ : z25_.toInt = i.toInt + 1 := ti_add ez25_ rfl (by decide) (by omega) (by omega)
    refine va_sld hx hb hX hbl hbA hS (sx_in tz25_ hi.1 (by decide) (by omega)) dL_law_564 ?_
    refine lv_topi (fun y26_ ey26_ => ?_)
    have qy26_ : y26_ = y2_ := by rw [ey26_, ey2_, show z25_ = z1_ from Int32.toInt_inj.mp (by omega)]
    refine lv_aload_n hx hb dL_law_565 rfl (lv_at hl 3 rfl) ?_
    refine lv_iload_n hx hb dL_law_566 rfl (lv_at hl 0 rfl) ?_
    refine lv_iconst (v := 2) hx hb dL_law_567 (by decide) ?_
    refine lv_iadd hx hb dL_law_568 ?_
    refine lv_topi (fun z27_ ez27_ => ?_)
    have tz27_ : z27_.toInt = i.toInt + 2 := ti_add ez27_ rfl (by decide) (by omega) (by omega)
    refine va_sld hx hb hX hbl hbA hS (sx_in tz27_ hi.1 (by decide) (by omega)) dL_law_569 ?_
    refine lv_topi (fun y28_ ey28_ => ?_)
    have qy28_ : y28_ = y4_ := by rw [ey28_, ey4_, show z27_ = z3_ from Int32.toInt_inj.mp (by omega)]
    refine lv_aload_n hx hb dL_law_570 rfl (lv_at hl 3 rfl) ?_
    refine lv_iload_n hx hb dL_law_571 rfl (lv_at hl 0 rfl) ?_
    refine lv_iconst (v := 3) hx hb dL_law_572 (by decide) ?_
    refine lv_iadd hx hb dL_law_573 ?_
    refine lv_topi (fun z29_ ez29_ => ?_)
    have tz29_ : z29_.toInt = i.toInt + 3 := ti_add ez29_ rfl (by decide) (by omega) (by omega)
    refine va_sld hx hb hX hbl hbA hS (sx_in tz29_ hi.1 (by decide) (by omega)) dL_law_574 ?_
    refine lv_topi (fun y30_ ey30_ => ?_)
    have qy30_ : y30_ = y6_ := by rw [ey30_, ey6_, show z29_ = z5_ from Int32.toInt_inj.mp (by omega)]
    refine lv_if_eq (tgt := 582) hx hb dL_law_575 rfl (fun _ => ?_) (fun _ => ?_)
    · refine lv_iconst (v := 0) hx hb dL_law_582 (by decide) ?_
      refine zp_l (wc := (mW h ad cl μ)) (wr := (xW κ (xX κ φ ψ) τ24_)) (va_runV (As := [.int y26_, .int y28_, .int 0]) (rest := []) ⟨hx, hb, hml, hown, hts⟩ (n_error l dC dI h ad cl H.size μ y26_ y28_ (0) hM hRI.1 hRI.2.2.1) (cwV 3 hts gl_n_error rfl rfl rfl dd_n_error ⟨Nat.le_of_ble_eq_true rfl, Nat.le_of_ble_eq_true rfl⟩) (preV (lP hP) hKm (lD hD) hE.x (ci := 12) (q0 := 0) rfl rfl) rfl rfl hl.1 rfl (lv_room (Nat.le_of_ble_eq_true rfl)) dL_law_583 ⟨(show cells + 0 ≤ 600000 by omega), (show slots + 0 ≤ 7302250 by omega)⟩) hP hD hS hA (fun j31_ μ32_ H locs hq hP hD hS => ?_)
      obtain ⟨hμ32_, xμ32_⟩ := hq
      have iμ32_ : RI μ32_ := RI_scr hM hRI xμ32_
      refine W.widen (k := cells) (n := slots) (Nat.le_refl _) (Nat.le_refl _) ?_
      refine lv_pop2_2 hx hb dL_law_586 rfl ?_
      refine lv_goto (tgt := 1273) hx hb dL_law_587 (by decide) ?_
      have hG9_ : LG dC dI A s κ φ ψ τ24_ h ad cl μ32_ H locs := ⟨hP, hD, hS, hKm, hKx, hk, hτ24_, hF, hμ32_, iμ32_⟩
      exact kk _ _ _ _ _ _ _ cells slots hG9_ rfl (by omega) (by omega)
    · refine lv_iconst (v := 1) hx hb dL_law_578 (by decide) ?_
      refine lv_goto (tgt := 583) hx hb dL_law_579 (by decide) ?_
      refine zp_l (wc := (mW h ad cl μ)) (wr := (xW κ (xX κ φ ψ) τ24_)) (va_runV (As := [.int y26_, .int y28_, .int 1]) (rest := []) ⟨hx, hb, hml, hown, hts⟩ (n_error l dC dI h ad cl H.size μ y26_ y28_ (1) hM hRI.1 hRI.2.2.1) (cwV 3 hts gl_n_error rfl rfl rfl dd_n_error ⟨Nat.le_of_ble_eq_true rfl, Nat.le_of_ble_eq_true rfl⟩) (preV (lP hP) hKm (lD hD) hE.x (ci := 12) (q0 := 0) rfl rfl) rfl rfl hl.1 rfl (lv_room (Nat.le_of_ble_eq_true rfl)) dL_law_583 ⟨(show cells + 0 ≤ 600000 by omega), (show slots + 0 ≤ 7302250 by omega)⟩) hP hD hS hA (fun j34_ μ35_ H locs hq hP hD hS => ?_)
      obtain ⟨hμ35_, xμ35_⟩ := hq
      have iμ35_ : RI μ35_ := RI_scr hM hRI xμ35_
      refine W.widen (k := cells) (n := slots) (Nat.le_refl _) (Nat.le_refl _) ?_
      refine lv_pop2_2 hx hb dL_law_586 rfl ?_
      refine lv_goto (tgt := 1273) hx hb dL_law_587 (by decide) ?_
      have hG9_ : LG dC dI A s κ φ ψ τ24_ h ad cl μ35_ H locs := ⟨hP, hD, hS, hKm, hKx, hk, hτ24_, hF, hμ35_, iμ35_⟩
      exact kk _ _ _ _ _ _ _ cells slots hG9_ rfl (by omega) (by omega)
set_option maxHeartbeats 4000000 in
set_option maxRecDepth 100000 in
theorem law_10 {p : Program} {l : Launch} {e : Env} {s : State} {m : MethodId} {below : List Frame} {meth : Method} {c : Code} {b L : Nat} {xs : Nat → Int32} (C0 : lw_At p s m meth c b L xs) (hE : Ey s) {A : Nat → Prop} (hAe : A = fun q : Nat => s.heap.size ≤ q) {dC : Nat → ClassId} {dI : Nat → Nat → Nat} {adK adV : Nat → Nat} (hZ : Zs adK adV A s s.heap) (hR : Rs adK s) {κ : CE} {φ ψ σ : MS} {h : Nat} {ad : Nat → Nat} {cl : Nat → ClassId} {μ : MS} {H : Heap} {locs : List Loc} {cells slots : Nat} {i : Int32} {ls : Array Slot} (hi : 0 ≤ i.toInt ∧ i.toInt + 5 < (L : Int) ∧ L ≤ 3072) (hc : cells + 1011 ≤ 600000 ∧ slots + 43534 ≤ 7302250) (G : LG dC dI A s κ φ ψ σ h ad cl μ H locs) (hl : lv_has ls 4 [(3, .int i), (1, .ref (kA κ 0)), (2, .ref h), (0, .ref b)]) {Q : State → Prop}
    (kk : ∀ (κ' : CE) (φ' ψ' σ' μ' : MS) (H' : Heap) (locs' : List Loc) (c' t' : Nat), LG dC dI A s κ' φ' ψ' σ' h ad cl μ' H' locs' → kA κ' 0 = kA κ 0 → c' + 3 * bc κ ≤ cells + 1008 + 3 * bc κ' → t' + 32489 * bc κ ≤ slots + 11045 + 32489 * bc κ' → W p l e room_1 s m #[Value.ref b] below meth c H' locs' c' t' Q (F0 m 1273 ls [])) : W p l e room_1 s m #[Value.ref b] below meth c H locs cells slots Q (F0 m 590 ls []) := by
  obtain ⟨hx, hb, hr, hml, hown, hts, hX, hbl, hlocks, hgv⟩ := id C0
  have hA : ∀ q : Nat, s.heap.size ≤ q → A q := fun q h => by rw [hAe]; exact h
  have hbA : ¬ A b := by rw [hAe]; exact Nat.not_le.mpr hbl
  obtain ⟨hP, hD, hS, hKm, hKx, hk, hI, hF, hM, hRI⟩ := G
  have hKc : va_K (dC, dI) vwCl (cT κ) s := hKx.sub [0, 1, 2, 3, 4, 5, 6, 7, 8, 9, 10, 11, 12, 13, 14, 15, 16, 17, 18, 19, 20] rfl
  refine lv_aload_n hx hb dL_law_590 rfl (lv_at hl 1 rfl) ?_
  refine lv_aload_n hx hb dL_law_591 rfl (lv_at hl 3 rfl) ?_
  refine lv_iload_n hx hb dL_law_592 rfl (lv_at hl 0 rfl) ?_
  refine lv_iconst (v := 1) hx hb dL_law_593 (by decide) ?_
  refine lv_iadd hx hb dL_law_594 ?_
  refine lv_topi (fun z1_ ez1_ => ?_)
  have tz1_ : z1_.toInt = i.toInt + 1 := ti_add ez1_ rfl (by decide) (by omega) (by omega)
  refine va_sld hx hb hX hbl hbA hS (sx_in tz1_ hi.1 (by decide) (by omega)) dL_law_595 ?_
  refine lv_topi (fun y2_ ey2_ => ?_)
  refine lv_aload_n hx hb dL_law_596 rfl (lv_at hl 3 rfl) ?_
  refine lv_iload_n hx hb dL_law_597 rfl (lv_at hl 0 rfl) ?_
  refine lv_iconst (v := 2) hx hb dL_law_598 (by decide) ?_
  refine lv_iadd hx hb dL_law_599 ?_
  refine lv_topi (fun z3_ ez3_ => ?_)
  have tz3_ : z3_.toInt = i.toInt + 2 := ti_add ez3_ rfl (by decide) (by omega) (by omega)
  refine va_sld hx hb hX hbl hbA hS (sx_in tz3_ hi.1 (by decide) (by omega)) dL_law_600 ?_
  refine lv_topi (fun y4_ ey4_ => ?_)
  have hP := lxP hP
  have hD := lxD hD
  refine zc_l (wr := (mW h ad cl μ)) (wc := cW (ky κ (xX κ φ ψ)) σ) (va_runV (As := [.int y2_, .int y4_]) (rest := []) ⟨hx, hb, hml, hown, hts⟩ (k_off l dC dI (ky κ (xX κ φ ψ)) H.size σ y2_ y4_ hk hI ) (cwV 2 hts gl_k_off rfl rfl rfl dd_k_off ⟨Nat.le_of_ble_eq_true rfl, Nat.le_of_ble_eq_true rfl⟩) (preVy (rP hP) hKc (rD hD) hE (ci := 11) (q0 := 0) rfl rfl) rfl rfl hl.1 rfl (lv_room (Nat.le_of_ble_eq_true rfl)) dL_law_601 ⟨(show cells + 0 ≤ 600000 by omega), (show slots + 0 ≤ 7302250 by omega)⟩) hP hD hS hA (fun j6_ τ7_ H locs hq _ hP hD hS => ?_)
  obtain ⟨hτ7_, qτ7_⟩ := hq
  have hP := xlP hP
  have hD := xlD hD
  refine W.widen (k := cells) (n := slots) (Nat.le_refl _) (Nat.le_refl _) ?_
  refine lv_pop2_2 hx hb dL_law_604 rfl ?_
  refine lv_aload_n hx hb dL_law_605 rfl (lv_at hl 2 rfl) ?_
  refine lv_aload_n hx hb dL_law_606 rfl (lv_at hl 3 rfl) ?_
  refine lv_iload_n hx hb dL_law_607 rfl (lv_at hl 0 rfl) ?_
  refine lv_iconst (v := 1) hx hb dL_law_608 (by decide) ?_
  refine lv_iadd hx hb dL_law_609 ?_
  refine lv_topi (fun z8_ ez8_ => ?_)
  have tz8_ : z8_.toInt = i.toInt + 1 := ti_add ez8_ rfl (by decide) (by omega) (by omega)
  refine va_sld hx hb hX hbl hbA hS (sx_in tz8_ hi.1 (by decide) (by omega)) dL_law_610 ?_
  refine lv_topi (fun y9_ ey9_ => ?_)
  have qy9_ : y9_ = y2_ := by rw [ey9_, ey2_, show z8_ = z1_ from Int32.toInt_inj.mp (by omega)]
  refine lv_aload_n hx hb dL_law_611 rfl (lv_at hl 3 rfl) ?_
  refine lv_iload_n hx hb dL_law_612 rfl (lv_at hl 0 rfl) ?_
  refine lv_iconst (v := 2) hx hb dL_law_613 (by decide) ?_
  refine lv_iadd hx hb dL_law_614 ?_
  refine lv_topi (fun z10_ ez10_ => ?_)
  have tz10_ : z10_.toInt = i.toInt + 2 := ti_add ez10_ rfl (by decide) (by omega) (by omega)
  refine va_sld hx hb hX hbl hbA hS (sx_in tz10_ hi.1 (by decide) (by omega)) dL_law_615 ?_
  refine lv_topi (fun y11_ ey11_ => ?_)
  have qy11_ : y11_ = y4_ := by rw [ey11_, ey4_, show z10_ = z3_ from Int32.toInt_inj.mp (by omega)]
  refine zp_l (wc := (mW h ad cl μ)) (wr := (xW κ (xX κ φ ψ) τ7_)) (va_runV (As := [.int y9_, .int y11_]) (rest := []) ⟨hx, hb, hml, hown, hts⟩ (n_off l dC dI h ad cl H.size μ y9_ y11_ hM hRI.1 hRI.2.2.1) (cwV 2 hts gl_n_off rfl rfl rfl dd_n_off ⟨Nat.le_of_ble_eq_true rfl, Nat.le_of_ble_eq_true rfl⟩) (preV (lP hP) hKm (lD hD) hE.x (ci := 12) (q0 := 0) rfl rfl) rfl rfl hl.1 rfl (lv_room (Nat.le_of_ble_eq_true rfl)) dL_law_616 ⟨(show cells + 0 ≤ 600000 by omega), (show slots + 0 ≤ 7302250 by omega)⟩) hP hD hS hA (fun j12_ μ13_ H locs hq hP hD hS => ?_)
  obtain ⟨hμ13_, xμ13_⟩ := hq
  have iμ13_ : RI μ13_ := RI_scr hM hRI xμ13_
  refine W.widen (k := cells) (n := slots) (Nat.le_refl _) (Nat.le_refl _) ?_
  refine lv_pop2_2 hx hb dL_law_619 rfl ?_
  refine lv_goto (tgt := 1273) hx hb dL_law_620 (by decide) ?_
  have hG9_ : LG dC dI A s κ φ ψ τ7_ h ad cl μ13_ H locs := ⟨hP, hD, hS, hKm, hKx, hk, hτ7_, hF, hμ13_, iμ13_⟩
  exact kk _ _ _ _ _ _ _ cells slots hG9_ rfl (by omega) (by omega)
set_option maxHeartbeats 4000000 in
set_option maxRecDepth 100000 in
theorem law_11 {p : Program} {l : Launch} {e : Env} {s : State} {m : MethodId} {below : List Frame} {meth : Method} {c : Code} {b L : Nat} {xs : Nat → Int32} (C0 : lw_At p s m meth c b L xs) (hE : Ey s) {A : Nat → Prop} (hAe : A = fun q : Nat => s.heap.size ≤ q) {dC : Nat → ClassId} {dI : Nat → Nat → Nat} {adK adV : Nat → Nat} (hZ : Zs adK adV A s s.heap) (hR : Rs adK s) {κ : CE} {φ ψ σ : MS} {h : Nat} {ad : Nat → Nat} {cl : Nat → ClassId} {μ : MS} {H : Heap} {locs : List Loc} {cells slots : Nat} {i : Int32} {ls : Array Slot} (hi : 0 ≤ i.toInt ∧ i.toInt + 5 < (L : Int) ∧ L ≤ 3072) (hc : cells + 1011 ≤ 600000 ∧ slots + 43534 ≤ 7302250) (G : LG dC dI A s κ φ ψ σ h ad cl μ H locs) (hl : lv_has ls 4 [(3, .int i), (1, .ref (kA κ 0)), (2, .ref h), (0, .ref b)]) {Q : State → Prop}
    (kk : ∀ (κ' : CE) (φ' ψ' σ' μ' : MS) (H' : Heap) (locs' : List Loc) (c' t' : Nat), LG dC dI A s κ' φ' ψ' σ' h ad cl μ' H' locs' → kA κ' 0 = kA κ 0 → c' + 3 * bc κ ≤ cells + 1008 + 3 * bc κ' → t' + 32489 * bc κ ≤ slots + 11045 + 32489 * bc κ' → W p l e room_1 s m #[Value.ref b] below meth c H' locs' c' t' Q (F0 m 1273 ls [])) : W p l e room_1 s m #[Value.ref b] below meth c H locs cells slots Q (F0 m 623 ls []) := by
  obtain ⟨hx, hb, hr, hml, hown, hts, hX, hbl, hlocks, hgv⟩ := id C0
  have hA : ∀ q : Nat, s.heap.size ≤ q → A q := fun q h => by rw [hAe]; exact h
  have hbA : ¬ A b := by rw [hAe]; exact Nat.not_le.mpr hbl
  obtain ⟨hP, hD, hS, hKm, hKx, hk, hI, hF, hM, hRI⟩ := G
  have hKc : va_K (dC, dI) vwCl (cT κ) s := hKx.sub [0, 1, 2, 3, 4, 5, 6, 7, 8, 9, 10, 11, 12, 13, 14, 15, 16, 17, 18, 19, 20] rfl
  refine lv_aload_n hx hb dL_law_623 rfl (lv_at hl 1 rfl) ?_
  refine lv_aload_n hx hb dL_law_624 rfl (lv_at hl 3 rfl) ?_
  refine lv_iload_n hx hb dL_law_625 rfl (lv_at hl 0 rfl) ?_
  refine lv_iconst (v := 1) hx hb dL_law_626 (by decide) ?_
  refine lv_iadd hx hb dL_law_627 ?_
  refine lv_topi (fun z1_ ez1_ => ?_)
  have tz1_ : z1_.toInt = i.toInt + 1 := ti_add ez1_ rfl (by decide) (by omega) (by omega)
  refine va_sld hx hb hX hbl hbA hS (sx_in tz1_ hi.1 (by decide) (by omega)) dL_law_628 ?_
  refine lv_topi (fun y2_ ey2_ => ?_)
  have hP := lxP hP
  have hD := lxD hD
  refine zc_i (wr := (mW h ad cl μ)) (wc := cW (ky κ (xX κ φ ψ)) σ) (va_runV (As := [.int y2_]) (rest := []) ⟨hx, hb, hml, hown, hts⟩ (k_barred l dC dI (ky κ (xX κ φ ψ)) H.size σ y2_ hk hI ) (cwV 1 hts gl_k_barred rfl rfl rfl dd_k_barred ⟨Nat.le_of_ble_eq_true rfl, Nat.le_of_ble_eq_true rfl⟩) (preVy (rP hP) hKc (rD hD) hE (ci := 11) (q0 := 0) rfl rfl) rfl rfl hl.1 rfl (lv_room (Nat.le_of_ble_eq_true rfl)) dL_law_629 ⟨(show cells + 0 ≤ 600000 by omega), (show slots + 0 ≤ 7302250 by omega)⟩) hP hD hS hA (fun r4_ τ5_ H locs hq _ hP hD hS => ?_)
  obtain ⟨hτ5_, qτ5_⟩ := hq
  have hP := xlP hP
  have hD := xlD hD
  refine W.widen (k := cells) (n := slots) (Nat.le_refl _) (Nat.le_refl _) ?_
  refine lv_pop hx hb dL_law_632 rfl ?_
  refine lv_aload_n hx hb dL_law_633 rfl (lv_at hl 2 rfl) ?_
  refine lv_aload_n hx hb dL_law_634 rfl (lv_at hl 3 rfl) ?_
  refine lv_iload_n hx hb dL_law_635 rfl (lv_at hl 0 rfl) ?_
  refine lv_iconst (v := 1) hx hb dL_law_636 (by decide) ?_
  refine lv_iadd hx hb dL_law_637 ?_
  refine lv_topi (fun z6_ ez6_ => ?_)
  have tz6_ : z6_.toInt = i.toInt + 1 := ti_add ez6_ rfl (by decide) (by omega) (by omega)
  refine va_sld hx hb hX hbl hbA hS (sx_in tz6_ hi.1 (by decide) (by omega)) dL_law_638 ?_
  refine lv_topi (fun y7_ ey7_ => ?_)
  have qy7_ : y7_ = y2_ := by rw [ey7_, ey2_, show z6_ = z1_ from Int32.toInt_inj.mp (by omega)]
  refine zp_i (wc := (mW h ad cl μ)) (wr := (xW κ (xX κ φ ψ) τ5_)) (va_runV (As := [.int y7_]) (rest := []) ⟨hx, hb, hml, hown, hts⟩ (n_barred l dC dI h ad cl H.size μ y7_ hM hRI.1 hRI.2.2.1) (cwV 1 hts gl_n_barred rfl rfl rfl dd_n_barred ⟨Nat.le_of_ble_eq_true rfl, Nat.le_of_ble_eq_true rfl⟩) (preV (lP hP) hKm (lD hD) hE.x (ci := 12) (q0 := 0) rfl rfl) rfl rfl hl.1 rfl (lv_room (Nat.le_of_ble_eq_true rfl)) dL_law_639 ⟨(show cells + 0 ≤ 600000 by omega), (show slots + 0 ≤ 7302250 by omega)⟩) hP hD hS hA (fun r8_ μ9_ H locs hq hP hD hS => ?_)
  obtain ⟨hμ9_, xμ9_⟩ := hq
  have iμ9_ : RI μ9_ := RI_scr hM hRI xμ9_
  refine W.widen (k := cells) (n := slots) (Nat.le_refl _) (Nat.le_refl _) ?_
  refine lv_pop hx hb dL_law_642 rfl ?_
  refine lv_goto (tgt := 1273) hx hb dL_law_643 (by decide) ?_
  have hG9_ : LG dC dI A s κ φ ψ τ5_ h ad cl μ9_ H locs := ⟨hP, hD, hS, hKm, hKx, hk, hτ5_, hF, hμ9_, iμ9_⟩
  exact kk _ _ _ _ _ _ _ cells slots hG9_ rfl (by omega) (by omega)
set_option maxHeartbeats 4000000 in
set_option maxRecDepth 100000 in
theorem law_12 {p : Program} {l : Launch} {e : Env} {s : State} {m : MethodId} {below : List Frame} {meth : Method} {c : Code} {b L : Nat} {xs : Nat → Int32} (C0 : lw_At p s m meth c b L xs) (hE : Ey s) {A : Nat → Prop} (hAe : A = fun q : Nat => s.heap.size ≤ q) {dC : Nat → ClassId} {dI : Nat → Nat → Nat} {adK adV : Nat → Nat} (hZ : Zs adK adV A s s.heap) (hR : Rs adK s) {κ : CE} {φ ψ σ : MS} {h : Nat} {ad : Nat → Nat} {cl : Nat → ClassId} {μ : MS} {H : Heap} {locs : List Loc} {cells slots : Nat} {i : Int32} {ls : Array Slot} (hi : 0 ≤ i.toInt ∧ i.toInt + 5 < (L : Int) ∧ L ≤ 3072) (hc : cells + 1011 ≤ 600000 ∧ slots + 43534 ≤ 7302250) (G : LG dC dI A s κ φ ψ σ h ad cl μ H locs) (hl : lv_has ls 4 [(3, .int i), (1, .ref (kA κ 0)), (2, .ref h), (0, .ref b)]) {Q : State → Prop}
    (kk : ∀ (κ' : CE) (φ' ψ' σ' μ' : MS) (H' : Heap) (locs' : List Loc) (c' t' : Nat), LG dC dI A s κ' φ' ψ' σ' h ad cl μ' H' locs' → kA κ' 0 = kA κ 0 → c' + 3 * bc κ ≤ cells + 1008 + 3 * bc κ' → t' + 32489 * bc κ ≤ slots + 11045 + 32489 * bc κ' → W p l e room_1 s m #[Value.ref b] below meth c H' locs' c' t' Q (F0 m 1273 ls [])) : W p l e room_1 s m #[Value.ref b] below meth c H locs cells slots Q (F0 m 646 ls []) := by
  obtain ⟨hx, hb, hr, hml, hown, hts, hX, hbl, hlocks, hgv⟩ := id C0
  have hA : ∀ q : Nat, s.heap.size ≤ q → A q := fun q h => by rw [hAe]; exact h
  have hbA : ¬ A b := by rw [hAe]; exact Nat.not_le.mpr hbl
  obtain ⟨hP, hD, hS, hKm, hKx, hk, hI, hF, hM, hRI⟩ := G
  have hKc : va_K (dC, dI) vwCl (cT κ) s := hKx.sub [0, 1, 2, 3, 4, 5, 6, 7, 8, 9, 10, 11, 12, 13, 14, 15, 16, 17, 18, 19, 20] rfl
  refine lv_aload_n hx hb dL_law_646 rfl (lv_at hl 1 rfl) ?_
  refine lv_aload_n hx hb dL_law_647 rfl (lv_at hl 3 rfl) ?_
  refine lv_iload_n hx hb dL_law_648 rfl (lv_at hl 0 rfl) ?_
  refine lv_iconst (v := 1) hx hb dL_law_649 (by decide) ?_
  refine lv_iadd hx hb dL_law_650 ?_
  refine lv_topi (fun z1_ ez1_ => ?_)
  have tz1_ : z1_.toInt = i.toInt + 1 := ti_add ez1_ rfl (by decide) (by omega) (by omega)
  refine va_sld hx hb hX hbl hbA hS (sx_in tz1_ hi.1 (by decide) (by omega)) dL_law_651 ?_
  refine lv_topi (fun y2_ ey2_ => ?_)
  refine lv_aload_n hx hb dL_law_652 rfl (lv_at hl 3 rfl) ?_
  refine lv_iload_n hx hb dL_law_653 rfl (lv_at hl 0 rfl) ?_
  refine lv_iconst (v := 2) hx hb dL_law_654 (by decide) ?_
  refine lv_iadd hx hb dL_law_655 ?_
  refine lv_topi (fun z3_ ez3_ => ?_)
  have tz3_ : z3_.toInt = i.toInt + 2 := ti_add ez3_ rfl (by decide) (by omega) (by omega)
  refine va_sld hx hb hX hbl hbA hS (sx_in tz3_ hi.1 (by decide) (by omega)) dL_law_656 ?_
  refine lv_topi (fun y4_ ey4_ => ?_)
  have hP := lxP hP
  have hD := lxD hD
  refine zc_l (wr := (mW h ad cl μ)) (wc := cW (ky κ (xX κ φ ψ)) σ) (va_runV (As := [.int y2_, .int y4_]) (rest := []) ⟨hx, hb, hml, hown, hts⟩ (k_measured l dC dI (ky κ (xX κ φ ψ)) H.size σ y2_ y4_ hk hI ) (cwV 2 hts gl_k_measured rfl rfl rfl dd_k_measured ⟨Nat.le_of_ble_eq_true rfl, Nat.le_of_ble_eq_true rfl⟩) (preVy (rP hP) hKc (rD hD) hE (ci := 11) (q0 := 0) rfl rfl) rfl rfl hl.1 rfl (lv_room (Nat.le_of_ble_eq_true rfl)) dL_law_657 ⟨(show cells + 0 ≤ 600000 by omega), (show slots + 0 ≤ 7302250 by omega)⟩) hP hD hS hA (fun j6_ τ7_ H locs hq _ hP hD hS => ?_)
  obtain ⟨hτ7_, qτ7_⟩ := hq
  have hP := xlP hP
  have hD := xlD hD
  refine W.widen (k := cells) (n := slots) (Nat.le_refl _) (Nat.le_refl _) ?_
  refine lv_pop2_2 hx hb dL_law_660 rfl ?_
  refine lv_aload_n hx hb dL_law_661 rfl (lv_at hl 2 rfl) ?_
  refine lv_aload_n hx hb dL_law_662 rfl (lv_at hl 3 rfl) ?_
  refine lv_iload_n hx hb dL_law_663 rfl (lv_at hl 0 rfl) ?_
  refine lv_iconst (v := 1) hx hb dL_law_664 (by decide) ?_
  refine lv_iadd hx hb dL_law_665 ?_
  refine lv_topi (fun z8_ ez8_ => ?_)
  have tz8_ : z8_.toInt = i.toInt + 1 := ti_add ez8_ rfl (by decide) (by omega) (by omega)
  refine va_sld hx hb hX hbl hbA hS (sx_in tz8_ hi.1 (by decide) (by omega)) dL_law_666 ?_
  refine lv_topi (fun y9_ ey9_ => ?_)
  have qy9_ : y9_ = y2_ := by rw [ey9_, ey2_, show z8_ = z1_ from Int32.toInt_inj.mp (by omega)]
  refine lv_aload_n hx hb dL_law_667 rfl (lv_at hl 3 rfl) ?_
  refine lv_iload_n hx hb dL_law_668 rfl (lv_at hl 0 rfl) ?_
  refine lv_iconst (v := 2) hx hb dL_law_669 (by decide) ?_
  refine lv_iadd hx hb dL_law_670 ?_
  refine lv_topi (fun z10_ ez10_ => ?_)
  have tz10_ : z10_.toInt = i.toInt + 2 := ti_add ez10_ rfl (by decide) (by omega) (by omega)
  refine va_sld hx hb hX hbl hbA hS (sx_in tz10_ hi.1 (by decide) (by omega)) dL_law_671 ?_
  refine lv_topi (fun y11_ ey11_ => ?_)
  have qy11_ : y11_ = y4_ := by rw [ey11_, ey4_, show z10_ = z3_ from Int32.toInt_inj.mp (by omega)]
  refine zp_l (wc := (mW h ad cl μ)) (wr := (xW κ (xX κ φ ψ) τ7_)) (va_runV (As := [.int y9_, .int y11_]) (rest := []) ⟨hx, hb, hml, hown, hts⟩ (n_measured l dC dI h ad cl H.size μ y9_ y11_ hM hRI.1 hRI.2.2.1) (cwV 2 hts gl_n_measured rfl rfl rfl dd_n_measured ⟨Nat.le_of_ble_eq_true rfl, Nat.le_of_ble_eq_true rfl⟩) (preV (lP hP) hKm (lD hD) hE.x (ci := 12) (q0 := 0) rfl rfl) rfl rfl hl.1 rfl (lv_room (Nat.le_of_ble_eq_true rfl)) dL_law_672 ⟨(show cells + 0 ≤ 600000 by omega), (show slots + 0 ≤ 7302250 by omega)⟩) hP hD hS hA (fun j12_ μ13_ H locs hq hP hD hS => ?_)
  obtain ⟨hμ13_, xμ13_⟩ := hq
  have iμ13_ : RI μ13_ := RI_scr hM hRI xμ13_
  refine W.widen (k := cells) (n := slots) (Nat.le_refl _) (Nat.le_refl _) ?_
  refine lv_pop2_2 hx hb dL_law_675 rfl ?_
  refine lv_goto (tgt := 1273) hx hb dL_law_676 (by decide) ?_
  have hG9_ : LG dC dI A s κ φ ψ τ7_ h ad cl μ13_ H locs := ⟨hP, hD, hS, hKm, hKx, hk, hτ7_, hF, hμ13_, iμ13_⟩
  exact kk _ _ _ _ _ _ _ cells slots hG9_ rfl (by omega) (by omega)
set_option maxHeartbeats 4000000 in
set_option maxRecDepth 100000 in
theorem law_13 {p : Program} {l : Launch} {e : Env} {s : State} {m : MethodId} {below : List Frame} {meth : Method} {c : Code} {b L : Nat} {xs : Nat → Int32} (C0 : lw_At p s m meth c b L xs) (hE : Ey s) {A : Nat → Prop} (hAe : A = fun q : Nat => s.heap.size ≤ q) {dC : Nat → ClassId} {dI : Nat → Nat → Nat} {adK adV : Nat → Nat} (hZ : Zs adK adV A s s.heap) (hR : Rs adK s) {κ : CE} {φ ψ σ : MS} {h : Nat} {ad : Nat → Nat} {cl : Nat → ClassId} {μ : MS} {H : Heap} {locs : List Loc} {cells slots : Nat} {i : Int32} {ls : Array Slot} (hi : 0 ≤ i.toInt ∧ i.toInt + 5 < (L : Int) ∧ L ≤ 3072) (hc : cells + 1011 ≤ 600000 ∧ slots + 43534 ≤ 7302250) (G : LG dC dI A s κ φ ψ σ h ad cl μ H locs) (hl : lv_has ls 4 [(3, .int i), (1, .ref (kA κ 0)), (2, .ref h), (0, .ref b)]) {Q : State → Prop}
    (kk : ∀ (κ' : CE) (φ' ψ' σ' μ' : MS) (H' : Heap) (locs' : List Loc) (c' t' : Nat), LG dC dI A s κ' φ' ψ' σ' h ad cl μ' H' locs' → kA κ' 0 = kA κ 0 → c' + 3 * bc κ ≤ cells + 1008 + 3 * bc κ' → t' + 32489 * bc κ ≤ slots + 11045 + 32489 * bc κ' → W p l e room_1 s m #[Value.ref b] below meth c H' locs' c' t' Q (F0 m 1273 ls [])) : W p l e room_1 s m #[Value.ref b] below meth c H locs cells slots Q (F0 m 679 ls []) := by
  obtain ⟨hx, hb, hr, hml, hown, hts, hX, hbl, hlocks, hgv⟩ := id C0
  have hA : ∀ q : Nat, s.heap.size ≤ q → A q := fun q h => by rw [hAe]; exact h
  have hbA : ¬ A b := by rw [hAe]; exact Nat.not_le.mpr hbl
  obtain ⟨hP, hD, hS, hKm, hKx, hk, hI, hF, hM, hRI⟩ := G
  have hKc : va_K (dC, dI) vwCl (cT κ) s := hKx.sub [0, 1, 2, 3, 4, 5, 6, 7, 8, 9, 10, 11, 12, 13, 14, 15, 16, 17, 18, 19, 20] rfl
  refine lv_aload_n hx hb dL_law_679 rfl (lv_at hl 1 rfl) ?_
  refine lv_aload_n hx hb dL_law_680 rfl (lv_at hl 3 rfl) ?_
  refine lv_iload_n hx hb dL_law_681 rfl (lv_at hl 0 rfl) ?_
  refine lv_iconst (v := 1) hx hb dL_law_682 (by decide) ?_
  refine lv_iadd hx hb dL_law_683 ?_
  refine lv_topi (fun z1_ ez1_ => ?_)
  have tz1_ : z1_.toInt = i.toInt + 1 := ti_add ez1_ rfl (by decide) (by omega) (by omega)
  refine va_sld hx hb hX hbl hbA hS (sx_in tz1_ hi.1 (by decide) (by omega)) dL_law_684 ?_
  refine lv_topi (fun y2_ ey2_ => ?_)
  refine lv_aload_n hx hb dL_law_685 rfl (lv_at hl 3 rfl) ?_
  refine lv_iload_n hx hb dL_law_686 rfl (lv_at hl 0 rfl) ?_
  refine lv_iconst (v := 2) hx hb dL_law_687 (by decide) ?_
  refine lv_iadd hx hb dL_law_688 ?_
  refine lv_topi (fun z3_ ez3_ => ?_)
  have tz3_ : z3_.toInt = i.toInt + 2 := ti_add ez3_ rfl (by decide) (by omega) (by omega)
  refine va_sld hx hb hX hbl hbA hS (sx_in tz3_ hi.1 (by decide) (by omega)) dL_law_689 ?_
  refine lv_topi (fun y4_ ey4_ => ?_)
  have hP := lxP hP
  have hD := lxD hD
  refine zc_i (wr := (mW h ad cl μ)) (wc := cW (ky κ (xX κ φ ψ)) σ) (va_runV (As := [.int y2_, .int y4_]) (rest := []) ⟨hx, hb, hml, hown, hts⟩ (k_passed l dC dI (ky κ (xX κ φ ψ)) H.size σ y2_ y4_ hk hI ) (cwV 2 hts gl_k_passed rfl rfl rfl dd_k_passed ⟨Nat.le_of_ble_eq_true rfl, Nat.le_of_ble_eq_true rfl⟩) (preVy (rP hP) hKc (rD hD) hE (ci := 11) (q0 := 0) rfl rfl) rfl rfl hl.1 rfl (lv_room (Nat.le_of_ble_eq_true rfl)) dL_law_690 ⟨(show cells + 0 ≤ 600000 by omega), (show slots + 0 ≤ 7302250 by omega)⟩) hP hD hS hA (fun r6_ τ7_ H locs hq _ hP hD hS => ?_)
  obtain ⟨hτ7_, qτ7_⟩ := hq
  have hP := xlP hP
  have hD := xlD hD
  refine W.widen (k := cells) (n := slots) (Nat.le_refl _) (Nat.le_refl _) ?_
  refine lv_pop hx hb dL_law_693 rfl ?_
  refine lv_aload_n hx hb dL_law_694 rfl (lv_at hl 2 rfl) ?_
  refine lv_aload_n hx hb dL_law_695 rfl (lv_at hl 3 rfl) ?_
  refine lv_iload_n hx hb dL_law_696 rfl (lv_at hl 0 rfl) ?_
  refine lv_iconst (v := 1) hx hb dL_law_697 (by decide) ?_
  refine lv_iadd hx hb dL_law_698 ?_
  refine lv_topi (fun z8_ ez8_ => ?_)
  have tz8_ : z8_.toInt = i.toInt + 1 := ti_add ez8_ rfl (by decide) (by omega) (by omega)
  refine va_sld hx hb hX hbl hbA hS (sx_in tz8_ hi.1 (by decide) (by omega)) dL_law_699 ?_
  refine lv_topi (fun y9_ ey9_ => ?_)
  have qy9_ : y9_ = y2_ := by rw [ey9_, ey2_, show z8_ = z1_ from Int32.toInt_inj.mp (by omega)]
  refine lv_aload_n hx hb dL_law_700 rfl (lv_at hl 3 rfl) ?_
  refine lv_iload_n hx hb dL_law_701 rfl (lv_at hl 0 rfl) ?_
  refine lv_iconst (v := 2) hx hb dL_law_702 (by decide) ?_
  refine lv_iadd hx hb dL_law_703 ?_
  refine lv_topi (fun z10_ ez10_ => ?_)
  have tz10_ : z10_.toInt = i.toInt + 2 := ti_add ez10_ rfl (by decide) (by omega) (by omega)
  refine va_sld hx hb hX hbl hbA hS (sx_in tz10_ hi.1 (by decide) (by omega)) dL_law_704 ?_
  refine lv_topi (fun y11_ ey11_ => ?_)
  have qy11_ : y11_ = y4_ := by rw [ey11_, ey4_, show z10_ = z3_ from Int32.toInt_inj.mp (by omega)]
  refine zp_i (wc := (mW h ad cl μ)) (wr := (xW κ (xX κ φ ψ) τ7_)) (va_runV (As := [.int y9_, .int y11_]) (rest := []) ⟨hx, hb, hml, hown, hts⟩ (n_passed l dC dI h ad cl H.size μ y9_ y11_ hM hRI.1 hRI.2.2.1) (cwV 2 hts gl_n_passed rfl rfl rfl dd_n_passed ⟨Nat.le_of_ble_eq_true rfl, Nat.le_of_ble_eq_true rfl⟩) (preV (lP hP) hKm (lD hD) hE.x (ci := 12) (q0 := 0) rfl rfl) rfl rfl hl.1 rfl (lv_room (Nat.le_of_ble_eq_true rfl)) dL_law_705 ⟨(show cells + 0 ≤ 600000 by omega), (show slots + 0 ≤ 7302250 by omega)⟩) hP hD hS hA (fun r12_ μ13_ H locs hq hP hD hS => ?_)
  obtain ⟨hμ13_, xμ13_⟩ := hq
  have iμ13_ : RI μ13_ := RI_scr hM hRI xμ13_
  refine W.widen (k := cells) (n := slots) (Nat.le_refl _) (Nat.le_refl _) ?_
  refine lv_pop hx hb dL_law_708 rfl ?_
  refine lv_goto (tgt := 1273) hx hb dL_law_709 (by decide) ?_
  have hG9_ : LG dC dI A s κ φ ψ τ7_ h ad cl μ13_ H locs := ⟨hP, hD, hS, hKm, hKx, hk, hτ7_, hF, hμ13_, iμ13_⟩
  exact kk _ _ _ _ _ _ _ cells slots hG9_ rfl (by omega) (by omega)
set_option maxHeartbeats 4000000 in
set_option maxRecDepth 100000 in
theorem law_14 {p : Program} {l : Launch} {e : Env} {s : State} {m : MethodId} {below : List Frame} {meth : Method} {c : Code} {b L : Nat} {xs : Nat → Int32} (C0 : lw_At p s m meth c b L xs) (hE : Ey s) {A : Nat → Prop} (hAe : A = fun q : Nat => s.heap.size ≤ q) {dC : Nat → ClassId} {dI : Nat → Nat → Nat} {adK adV : Nat → Nat} (hZ : Zs adK adV A s s.heap) (hR : Rs adK s) {κ : CE} {φ ψ σ : MS} {h : Nat} {ad : Nat → Nat} {cl : Nat → ClassId} {μ : MS} {H : Heap} {locs : List Loc} {cells slots : Nat} {i : Int32} {ls : Array Slot} (hi : 0 ≤ i.toInt ∧ i.toInt + 5 < (L : Int) ∧ L ≤ 3072) (hc : cells + 1011 ≤ 600000 ∧ slots + 43534 ≤ 7302250) (G : LG dC dI A s κ φ ψ σ h ad cl μ H locs) (hl : lv_has ls 4 [(3, .int i), (1, .ref (kA κ 0)), (2, .ref h), (0, .ref b)]) {Q : State → Prop}
    (kk : ∀ (κ' : CE) (φ' ψ' σ' μ' : MS) (H' : Heap) (locs' : List Loc) (c' t' : Nat), LG dC dI A s κ' φ' ψ' σ' h ad cl μ' H' locs' → kA κ' 0 = kA κ 0 → c' + 3 * bc κ ≤ cells + 1008 + 3 * bc κ' → t' + 32489 * bc κ ≤ slots + 11045 + 32489 * bc κ' → W p l e room_1 s m #[Value.ref b] below meth c H' locs' c' t' Q (F0 m 1273 ls [])) : W p l e room_1 s m #[Value.ref b] below meth c H locs cells slots Q (F0 m 712 ls []) := by
  obtain ⟨hx, hb, hr, hml, hown, hts, hX, hbl, hlocks, hgv⟩ := id C0
  have hA : ∀ q : Nat, s.heap.size ≤ q → A q := fun q h => by rw [hAe]; exact h
  have hbA : ¬ A b := by rw [hAe]; exact Nat.not_le.mpr hbl
  obtain ⟨hP, hD, hS, hKm, hKx, hk, hI, hF, hM, hRI⟩ := G
  have hKc : va_K (dC, dI) vwCl (cT κ) s := hKx.sub [0, 1, 2, 3, 4, 5, 6, 7, 8, 9, 10, 11, 12, 13, 14, 15, 16, 17, 18, 19, 20] rfl
  refine lv_aload_n hx hb dL_law_712 rfl (lv_at hl 1 rfl) ?_
  refine lv_aload_n hx hb dL_law_713 rfl (lv_at hl 3 rfl) ?_
  refine lv_iload_n hx hb dL_law_714 rfl (lv_at hl 0 rfl) ?_
  refine lv_iconst (v := 1) hx hb dL_law_715 (by decide) ?_
  refine lv_iadd hx hb dL_law_716 ?_
  refine lv_topi (fun z1_ ez1_ => ?_)
  have tz1_ : z1_.toInt = i.toInt + 1 := ti_add ez1_ rfl (by decide) (by omega) (by omega)
  refine va_sld hx hb hX hbl hbA hS (sx_in tz1_ hi.1 (by decide) (by omega)) dL_law_717 ?_
  refine lv_topi (fun y2_ ey2_ => ?_)
  refine lv_aload_n hx hb dL_law_718 rfl (lv_at hl 3 rfl) ?_
  refine lv_iload_n hx hb dL_law_719 rfl (lv_at hl 0 rfl) ?_
  refine lv_iconst (v := 2) hx hb dL_law_720 (by decide) ?_
  refine lv_iadd hx hb dL_law_721 ?_
  refine lv_topi (fun z3_ ez3_ => ?_)
  have tz3_ : z3_.toInt = i.toInt + 2 := ti_add ez3_ rfl (by decide) (by omega) (by omega)
  refine va_sld hx hb hX hbl hbA hS (sx_in tz3_ hi.1 (by decide) (by omega)) dL_law_722 ?_
  refine lv_topi (fun y4_ ey4_ => ?_)
  refine lv_aload_n hx hb dL_law_723 rfl (lv_at hl 3 rfl) ?_
  refine lv_iload_n hx hb dL_law_724 rfl (lv_at hl 0 rfl) ?_
  refine lv_iconst (v := 3) hx hb dL_law_725 (by decide) ?_
  refine lv_iadd hx hb dL_law_726 ?_
  refine lv_topi (fun z5_ ez5_ => ?_)
  have tz5_ : z5_.toInt = i.toInt + 3 := ti_add ez5_ rfl (by decide) (by omega) (by omega)
  refine va_sld hx hb hX hbl hbA hS (sx_in tz5_ hi.1 (by decide) (by omega)) dL_law_727 ?_
  refine lv_topi (fun y6_ ey6_ => ?_)
  have hP := lxP hP
  have hD := lxD hD
  refine zc_l (wr := (mW h ad cl μ)) (wc := cW (ky κ (xX κ φ ψ)) σ) (va_runV (As := [.int y2_, .int y4_, .int y6_]) (rest := []) ⟨hx, hb, hml, hown, hts⟩ (k_mean l dC dI (ky κ (xX κ φ ψ)) H.size σ y2_ y4_ y6_ hk hI ) (cwV 3 hts gl_k_mean rfl rfl rfl dd_k_mean ⟨Nat.le_of_ble_eq_true rfl, Nat.le_of_ble_eq_true rfl⟩) (preVy (rP hP) hKc (rD hD) hE (ci := 11) (q0 := 0) rfl rfl) rfl rfl hl.1 rfl (lv_room (Nat.le_of_ble_eq_true rfl)) dL_law_728 ⟨(show cells + 0 ≤ 600000 by omega), (show slots + 0 ≤ 7302250 by omega)⟩) hP hD hS hA (fun j8_ τ9_ H locs hq _ hP hD hS => ?_)
  obtain ⟨hτ9_, qτ9_⟩ := hq
  have hP := xlP hP
  have hD := xlD hD
  refine W.widen (k := cells) (n := slots) (Nat.le_refl _) (Nat.le_refl _) ?_
  refine lv_pop2_2 hx hb dL_law_731 rfl ?_
  refine lv_aload_n hx hb dL_law_732 rfl (lv_at hl 2 rfl) ?_
  refine lv_aload_n hx hb dL_law_733 rfl (lv_at hl 3 rfl) ?_
  refine lv_iload_n hx hb dL_law_734 rfl (lv_at hl 0 rfl) ?_
  refine lv_iconst (v := 1) hx hb dL_law_735 (by decide) ?_
  refine lv_iadd hx hb dL_law_736 ?_
  refine lv_topi (fun z10_ ez10_ => ?_)
  have tz10_ : z10_.toInt = i.toInt + 1 := ti_add ez10_ rfl (by decide) (by omega) (by omega)
  refine va_sld hx hb hX hbl hbA hS (sx_in tz10_ hi.1 (by decide) (by omega)) dL_law_737 ?_
  refine lv_topi (fun y11_ ey11_ => ?_)
  have qy11_ : y11_ = y2_ := by rw [ey11_, ey2_, show z10_ = z1_ from Int32.toInt_inj.mp (by omega)]
  refine lv_aload_n hx hb dL_law_738 rfl (lv_at hl 3 rfl) ?_
  refine lv_iload_n hx hb dL_law_739 rfl (lv_at hl 0 rfl) ?_
  refine lv_iconst (v := 2) hx hb dL_law_740 (by decide) ?_
  refine lv_iadd hx hb dL_law_741 ?_
  refine lv_topi (fun z12_ ez12_ => ?_)
  have tz12_ : z12_.toInt = i.toInt + 2 := ti_add ez12_ rfl (by decide) (by omega) (by omega)
  refine va_sld hx hb hX hbl hbA hS (sx_in tz12_ hi.1 (by decide) (by omega)) dL_law_742 ?_
  refine lv_topi (fun y13_ ey13_ => ?_)
  have qy13_ : y13_ = y4_ := by rw [ey13_, ey4_, show z12_ = z3_ from Int32.toInt_inj.mp (by omega)]
  refine lv_aload_n hx hb dL_law_743 rfl (lv_at hl 3 rfl) ?_
  refine lv_iload_n hx hb dL_law_744 rfl (lv_at hl 0 rfl) ?_
  refine lv_iconst (v := 3) hx hb dL_law_745 (by decide) ?_
  refine lv_iadd hx hb dL_law_746 ?_
  refine lv_topi (fun z14_ ez14_ => ?_)
  have tz14_ : z14_.toInt = i.toInt + 3 := ti_add ez14_ rfl (by decide) (by omega) (by omega)
  refine va_sld hx hb hX hbl hbA hS (sx_in tz14_ hi.1 (by decide) (by omega)) dL_law_747 ?_
  refine lv_topi (fun y15_ ey15_ => ?_)
  have qy15_ : y15_ = y6_ := by rw [ey15_, ey6_, show z14_ = z5_ from Int32.toInt_inj.mp (by omega)]
  refine zp_l (wc := (mW h ad cl μ)) (wr := (xW κ (xX κ φ ψ) τ9_)) (va_runV (As := [.int y11_, .int y13_, .int y15_]) (rest := []) ⟨hx, hb, hml, hown, hts⟩ (n_mean l dC dI h ad cl H.size μ y11_ y13_ y15_ hM hRI.1 hRI.2.2.1) (cwV 3 hts gl_n_mean rfl rfl rfl dd_n_mean ⟨Nat.le_of_ble_eq_true rfl, Nat.le_of_ble_eq_true rfl⟩) (preV (lP hP) hKm (lD hD) hE.x (ci := 12) (q0 := 0) rfl rfl) rfl rfl hl.1 rfl (lv_room (Nat.le_of_ble_eq_true rfl)) dL_law_748 ⟨(show cells + 0 ≤ 600000 by omega), (show slots + 0 ≤ 7302250 by omega)⟩) hP hD hS hA (fun j16_ μ17_ H locs hq hP hD hS => ?_)
  obtain ⟨hμ17_, xμ17_⟩ := hq
  have iμ17_ : RI μ17_ := RI_scr hM hRI xμ17_
  refine W.widen (k := cells) (n := slots) (Nat.le_refl _) (Nat.le_refl _) ?_
  refine lv_pop2_2 hx hb dL_law_751 rfl ?_
  refine lv_goto (tgt := 1273) hx hb dL_law_752 (by decide) ?_
  have hG9_ : LG dC dI A s κ φ ψ τ9_ h ad cl μ17_ H locs := ⟨hP, hD, hS, hKm, hKx, hk, hτ9_, hF, hμ17_, iμ17_⟩
  exact kk _ _ _ _ _ _ _ cells slots hG9_ rfl (by omega) (by omega)
set_option maxHeartbeats 4000000 in
set_option maxRecDepth 100000 in
theorem law_15 {p : Program} {l : Launch} {e : Env} {s : State} {m : MethodId} {below : List Frame} {meth : Method} {c : Code} {b L : Nat} {xs : Nat → Int32} (C0 : lw_At p s m meth c b L xs) (hE : Ey s) {A : Nat → Prop} (hAe : A = fun q : Nat => s.heap.size ≤ q) {dC : Nat → ClassId} {dI : Nat → Nat → Nat} {adK adV : Nat → Nat} (hZ : Zs adK adV A s s.heap) (hR : Rs adK s) {κ : CE} {φ ψ σ : MS} {h : Nat} {ad : Nat → Nat} {cl : Nat → ClassId} {μ : MS} {H : Heap} {locs : List Loc} {cells slots : Nat} {i : Int32} {ls : Array Slot} (hi : 0 ≤ i.toInt ∧ i.toInt + 5 < (L : Int) ∧ L ≤ 3072) (hc : cells + 1011 ≤ 600000 ∧ slots + 43534 ≤ 7302250) (G : LG dC dI A s κ φ ψ σ h ad cl μ H locs) (hl : lv_has ls 4 [(3, .int i), (1, .ref (kA κ 0)), (2, .ref h), (0, .ref b)]) {Q : State → Prop}
    (kk : ∀ (κ' : CE) (φ' ψ' σ' μ' : MS) (H' : Heap) (locs' : List Loc) (c' t' : Nat), LG dC dI A s κ' φ' ψ' σ' h ad cl μ' H' locs' → kA κ' 0 = kA κ 0 → c' + 3 * bc κ ≤ cells + 1008 + 3 * bc κ' → t' + 32489 * bc κ ≤ slots + 11045 + 32489 * bc κ' → W p l e room_1 s m #[Value.ref b] below meth c H' locs' c' t' Q (F0 m 1273 ls [])) : W p l e room_1 s m #[Value.ref b] below meth c H locs cells slots Q (F0 m 755 ls []) := by
  obtain ⟨hx, hb, hr, hml, hown, hts, hX, hbl, hlocks, hgv⟩ := id C0
  have hA : ∀ q : Nat, s.heap.size ≤ q → A q := fun q h => by rw [hAe]; exact h
  have hbA : ¬ A b := by rw [hAe]; exact Nat.not_le.mpr hbl
  obtain ⟨hP, hD, hS, hKm, hKx, hk, hI, hF, hM, hRI⟩ := G
  have hKc : va_K (dC, dI) vwCl (cT κ) s := hKx.sub [0, 1, 2, 3, 4, 5, 6, 7, 8, 9, 10, 11, 12, 13, 14, 15, 16, 17, 18, 19, 20] rfl
  refine lv_aload_n hx hb dL_law_755 rfl (lv_at hl 1 rfl) ?_
  refine lv_aload_n hx hb dL_law_756 rfl (lv_at hl 3 rfl) ?_
  refine lv_iload_n hx hb dL_law_757 rfl (lv_at hl 0 rfl) ?_
  refine lv_iconst (v := 1) hx hb dL_law_758 (by decide) ?_
  refine lv_iadd hx hb dL_law_759 ?_
  refine lv_topi (fun z1_ ez1_ => ?_)
  have tz1_ : z1_.toInt = i.toInt + 1 := ti_add ez1_ rfl (by decide) (by omega) (by omega)
  refine va_sld hx hb hX hbl hbA hS (sx_in tz1_ hi.1 (by decide) (by omega)) dL_law_760 ?_
  refine lv_topi (fun y2_ ey2_ => ?_)
  have hP := lxP hP
  have hD := lxD hD
  refine zc_i (wr := (mW h ad cl μ)) (wc := cW (ky κ (xX κ φ ψ)) σ) (va_runV (As := [.int y2_]) (rest := []) ⟨hx, hb, hml, hown, hts⟩ (k_saved l dC dI (ky κ (xX κ φ ψ)) H.size σ y2_ hk hI ) (cwV 1 hts gl_k_saved rfl rfl rfl dd_k_saved ⟨Nat.le_of_ble_eq_true rfl, Nat.le_of_ble_eq_true rfl⟩) (preVy (rP hP) hKc (rD hD) hE (ci := 11) (q0 := 0) rfl rfl) rfl rfl hl.1 rfl (lv_room (Nat.le_of_ble_eq_true rfl)) dL_law_761 ⟨(show cells + 0 ≤ 600000 by omega), (show slots + 0 ≤ 7302250 by omega)⟩) hP hD hS hA (fun r4_ τ5_ H locs hq _ hP hD hS => ?_)
  obtain ⟨hτ5_, qτ5_⟩ := hq
  have hP := xlP hP
  have hD := xlD hD
  refine W.widen (k := cells) (n := slots) (Nat.le_refl _) (Nat.le_refl _) ?_
  refine lv_pop hx hb dL_law_764 rfl ?_
  refine lv_aload_n hx hb dL_law_765 rfl (lv_at hl 2 rfl) ?_
  refine lv_aload_n hx hb dL_law_766 rfl (lv_at hl 3 rfl) ?_
  refine lv_iload_n hx hb dL_law_767 rfl (lv_at hl 0 rfl) ?_
  refine lv_iconst (v := 1) hx hb dL_law_768 (by decide) ?_
  refine lv_iadd hx hb dL_law_769 ?_
  refine lv_topi (fun z6_ ez6_ => ?_)
  have tz6_ : z6_.toInt = i.toInt + 1 := ti_add ez6_ rfl (by decide) (by omega) (by omega)
  refine va_sld hx hb hX hbl hbA hS (sx_in tz6_ hi.1 (by decide) (by omega)) dL_law_770 ?_
  refine lv_topi (fun y7_ ey7_ => ?_)
  have qy7_ : y7_ = y2_ := by rw [ey7_, ey2_, show z6_ = z1_ from Int32.toInt_inj.mp (by omega)]
  refine zp_i (wc := (mW h ad cl μ)) (wr := (xW κ (xX κ φ ψ) τ5_)) (va_runV (As := [.int y7_]) (rest := []) ⟨hx, hb, hml, hown, hts⟩ (n_saved l dC dI h ad cl H.size μ y7_ hM) (cwV 1 hts gl_n_saved rfl rfl rfl dd_n_saved ⟨Nat.le_of_ble_eq_true rfl, Nat.le_of_ble_eq_true rfl⟩) (preV (lP hP) hKm (lD hD) hE.x (ci := 12) (q0 := 0) rfl rfl) rfl rfl hl.1 rfl (lv_room (Nat.le_of_ble_eq_true rfl)) dL_law_771 ⟨(show cells + 0 ≤ 600000 by omega), (show slots + 0 ≤ 7302250 by omega)⟩) hP hD hS hA (fun r8_ μ9_ H locs hq hP hD hS => ?_)
  obtain ⟨hμ9_, xμ9_⟩ := hq
  have iμ9_ : RI μ9_ := RI_scr hM hRI xμ9_
  refine W.widen (k := cells) (n := slots) (Nat.le_refl _) (Nat.le_refl _) ?_
  refine lv_pop hx hb dL_law_774 rfl ?_
  refine lv_goto (tgt := 1273) hx hb dL_law_775 (by decide) ?_
  have hG9_ : LG dC dI A s κ φ ψ τ5_ h ad cl μ9_ H locs := ⟨hP, hD, hS, hKm, hKx, hk, hτ5_, hF, hμ9_, iμ9_⟩
  exact kk _ _ _ _ _ _ _ cells slots hG9_ rfl (by omega) (by omega)
