theorem dL_law_496 : decode cL_law 496 = .ok (.iaload, 1) := by decide +kernel
theorem dL_law_497 : decode cL_law 497 = .ok (.iconst 1, 1) := by decide +kernel
theorem dL_law_498 : decode cL_law 498 = .ok (.iadd, 1) := by decide +kernel
theorem dL_law_499 : decode cL_law 499 = .ok (.iastore, 1) := by decide +kernel
theorem dL_law_500 : decode cL_law 500 = .ok (.goto 2055, 3) := by decide +kernel
theorem dL_law_503 : decode cL_law 503 = .ok (.iload 19, 2) := by decide +kernel
theorem dL_law_505 : decode cL_law 505 = .ok (.bipush 9, 2) := by decide +kernel
theorem dL_law_507 : decode cL_law 507 = .ok (.if_icmp .ge 215, 3) := by decide +kernel
theorem dL_law_510 : decode cL_law 510 = .ok (.aload_n 2, 1) := by decide +kernel
theorem dL_law_511 : decode cL_law 511 = .ok (.iconst 0, 1) := by decide +kernel
theorem dL_law_512 : decode cL_law 512 = .ok (.iaload, 1) := by decide +kernel
theorem dL_law_513 : decode cL_law 513 = .ok (.bipush 60, 2) := by decide +kernel
theorem dL_law_515 : decode cL_law 515 = .ok (.if_icmp .ge 207, 3) := by decide +kernel
theorem dL_law_518 : decode cL_law 518 = .ok (.iload 20, 2) := by decide +kernel
theorem dL_law_520 : decode cL_law 520 = .ok (.bipush 24, 2) := by decide +kernel
theorem dL_law_522 : decode cL_law 522 = .ok (.idiv, 1) := by decide +kernel
theorem dL_law_523 : decode cL_law 523 = .ok (.iconst 2, 1) := by decide +kernel
theorem dL_law_524 : decode cL_law 524 = .ok (.irem, 1) := by decide +kernel
theorem dL_law_525 : decode cL_law 525 = .ok (.ifCond .ne 7, 3) := by decide +kernel
theorem dL_law_528 : decode cL_law 528 = .ok (.iconst 1, 1) := by decide +kernel
theorem dL_law_529 : decode cL_law 529 = .ok (.goto 4, 3) := by decide +kernel
theorem dL_law_532 : decode cL_law 532 = .ok (.iconst 0, 1) := by decide +kernel
theorem dL_law_533 : decode cL_law 533 = .ok (.istore 26, 2) := by decide +kernel
theorem dL_law_535 : decode cL_law 535 = .ok (.aload 4, 2) := by decide +kernel
theorem dL_law_537 : decode cL_law 537 = .ok (.iload 24, 2) := by decide +kernel
theorem dL_law_539 : decode cL_law 539 = .ok (.iaload, 1) := by decide +kernel
theorem dL_law_540 : decode cL_law 540 = .ok (.aload_n 2, 1) := by decide +kernel
theorem dL_law_541 : decode cL_law 541 = .ok (.iconst 2, 1) := by decide +kernel
theorem dL_law_542 : decode cL_law 542 = .ok (.iaload, 1) := by decide +kernel
theorem dL_law_543 : decode cL_law 543 = .ok (.if_icmp .lt 58, 3) := by decide +kernel
theorem dL_law_546 : decode cL_law 546 = .ok (.iload 26, 2) := by decide +kernel
theorem dL_law_548 : decode cL_law 548 = .ok (.ifCond .eq 35, 3) := by decide +kernel
theorem dL_law_551 : decode cL_law 551 = .ok (.aload_n 2, 1) := by decide +kernel
theorem dL_law_552 : decode cL_law 552 = .ok (.aload 5, 2) := by decide +kernel
theorem dL_law_554 : decode cL_law 554 = .ok (.aload 6, 2) := by decide +kernel
theorem dL_law_556 : decode cL_law 556 = .ok (.iload 24, 2) := by decide +kernel
theorem dL_law_558 : decode cL_law 558 = .ok (.iconst 2, 1) := by decide +kernel
theorem dL_law_559 : decode cL_law 559 = .ok (.invokestatic 131, 3) := by decide +kernel
theorem dL_law_562 : decode cL_law 562 = .ok (.ifCond .le 39, 3) := by decide +kernel
theorem dL_law_565 : decode cL_law 565 = .ok (.aload_n 2, 1) := by decide +kernel
theorem dL_law_566 : decode cL_law 566 = .ok (.aload 5, 2) := by decide +kernel
theorem dL_law_568 : decode cL_law 568 = .ok (.aload 6, 2) := by decide +kernel
theorem dL_law_570 : decode cL_law 570 = .ok (.iload 24, 2) := by decide +kernel
theorem dL_law_572 : decode cL_law 572 = .ok (.iconst 3, 1) := by decide +kernel
theorem dL_law_573 : decode cL_law 573 = .ok (.invokestatic 131, 3) := by decide +kernel
theorem dL_law_576 : decode cL_law 576 = .ok (.iconst 2, 1) := by decide +kernel
theorem dL_law_577 : decode cL_law 577 = .ok (.if_icmp .ge 24, 3) := by decide +kernel
theorem dL_law_580 : decode cL_law 580 = .ok (.goto 17, 3) := by decide +kernel
theorem dL_law_583 : decode cL_law 583 = .ok (.aload_n 2, 1) := by decide +kernel
theorem dL_law_584 : decode cL_law 584 = .ok (.aload 5, 2) := by decide +kernel
theorem dL_law_586 : decode cL_law 586 = .ok (.aload 6, 2) := by decide +kernel
theorem dL_law_588 : decode cL_law 588 = .ok (.iload 24, 2) := by decide +kernel
theorem dL_law_590 : decode cL_law 590 = .ok (.iconst 2, 1) := by decide +kernel
theorem dL_law_591 : decode cL_law 591 = .ok (.invokestatic 131, 3) := by decide +kernel
theorem dL_law_594 : decode cL_law 594 = .ok (.ifCond .ne 7, 3) := by decide +kernel
theorem dL_law_597 : decode cL_law 597 = .ok (.iconst 1, 1) := by decide +kernel
theorem dL_law_598 : decode cL_law 598 = .ok (.goto 4, 3) := by decide +kernel
theorem dL_law_601 : decode cL_law 601 = .ok (.iconst 0, 1) := by decide +kernel
theorem dL_law_602 : decode cL_law 602 = .ok (.istore 27, 2) := by decide +kernel
theorem dL_law_604 : decode cL_law 604 = .ok (.aload_n 1, 1) := by decide +kernel
theorem dL_law_605 : decode cL_law 605 = .ok (.iconst 1, 1) := by decide +kernel
theorem dL_law_606 : decode cL_law 606 = .ok (.iload 24, 2) := by decide +kernel
theorem dL_law_608 : decode cL_law 608 = .ok (.iload 26, 2) := by decide +kernel
theorem dL_law_610 : decode cL_law 610 = .ok (.ifCond .eq 7, 3) := by decide +kernel
theorem dL_law_613 : decode cL_law 613 = .ok (.iconst 1, 1) := by decide +kernel
theorem dL_law_614 : decode cL_law 614 = .ok (.goto 4, 3) := by decide +kernel
theorem dL_law_617 : decode cL_law 617 = .ok (.iconst 0, 1) := by decide +kernel
theorem dL_law_618 : decode cL_law 618 = .ok (.iconst 0, 1) := by decide +kernel
theorem dL_law_619 : decode cL_law 619 = .ok (.invokestatic 127, 3) := by decide +kernel
theorem dL_law_622 : decode cL_law 622 = .ok (.iload 27, 2) := by decide +kernel
theorem dL_law_624 : decode cL_law 624 = .ok (.ifCond .eq 9, 3) := by decide +kernel
theorem dL_law_627 : decode cL_law 627 = .ok (.aload_n 2, 1) := by decide +kernel
theorem dL_law_628 : decode cL_law 628 = .ok (.iconst 0, 1) := by decide +kernel
theorem dL_law_629 : decode cL_law 629 = .ok (.iaload, 1) := by decide +kernel
theorem dL_law_630 : decode cL_law 630 = .ok (.goto 5, 3) := by decide +kernel
theorem dL_law_633 : decode cL_law 633 = .ok (.bipush (-13), 2) := by decide +kernel
theorem dL_law_635 : decode cL_law 635 = .ok (.if_icmp .ne 7, 3) := by decide +kernel
theorem dL_law_638 : decode cL_law 638 = .ok (.iconst 1, 1) := by decide +kernel
theorem dL_law_639 : decode cL_law 639 = .ok (.goto 4, 3) := by decide +kernel
theorem dL_law_642 : decode cL_law 642 = .ok (.iconst 0, 1) := by decide +kernel
theorem dL_law_643 : decode cL_law 643 = .ok (.istore 16, 2) := by decide +kernel
theorem dL_law_645 : decode cL_law 645 = .ok (.iload 27, 2) := by decide +kernel
theorem dL_law_647 : decode cL_law 647 = .ok (.ifCond .eq 72, 3) := by decide +kernel
theorem dL_law_650 : decode cL_law 650 = .ok (.aload 5, 2) := by decide +kernel
theorem dL_law_652 : decode cL_law 652 = .ok (.aload_n 2, 1) := by decide +kernel
theorem dL_law_653 : decode cL_law 653 = .ok (.iconst 0, 1) := by decide +kernel
theorem dL_law_654 : decode cL_law 654 = .ok (.iaload, 1) := by decide +kernel
theorem dL_law_655 : decode cL_law 655 = .ok (.iload 26, 2) := by decide +kernel
theorem dL_law_657 : decode cL_law 657 = .ok (.ifCond .eq 7, 3) := by decide +kernel
theorem dL_law_660 : decode cL_law 660 = .ok (.iconst 3, 1) := by decide +kernel
theorem dL_law_661 : decode cL_law 661 = .ok (.goto 4, 3) := by decide +kernel
theorem dL_law_664 : decode cL_law 664 = .ok (.iconst 2, 1) := by decide +kernel
theorem dL_law_665 : decode cL_law 665 = .ok (.bipush 16, 2) := by decide +kernel
theorem dL_law_667 : decode cL_law 667 = .ok (.iload 24, 2) := by decide +kernel
theorem dL_law_669 : decode cL_law 669 = .ok (.imul, 1) := by decide +kernel
theorem dL_law_670 : decode cL_law 670 = .ok (.iadd, 1) := by decide +kernel
theorem dL_law_671 : decode cL_law 671 = .ok (.sipush 128, 3) := by decide +kernel
theorem dL_law_674 : decode cL_law 674 = .ok (.aload_n 2, 1) := by decide +kernel
theorem dL_law_675 : decode cL_law 675 = .ok (.iconst 2, 1) := by decide +kernel
theorem dL_law_676 : decode cL_law 676 = .ok (.iaload, 1) := by decide +kernel
theorem dL_law_677 : decode cL_law 677 = .ok (.imul, 1) := by decide +kernel
theorem dL_law_678 : decode cL_law 678 = .ok (.iadd, 1) := by decide +kernel
theorem dL_law_679 : decode cL_law 679 = .ok (.iastore, 1) := by decide +kernel
theorem dL_law_680 : decode cL_law 680 = .ok (.aload 6, 2) := by decide +kernel
theorem dL_law_682 : decode cL_law 682 = .ok (.aload_n 2, 1) := by decide +kernel
theorem dL_law_683 : decode cL_law 683 = .ok (.iconst 0, 1) := by decide +kernel
theorem dL_law_684 : decode cL_law 684 = .ok (.iaload, 1) := by decide +kernel
theorem dL_law_685 : decode cL_law 685 = .ok (.iload 26, 2) := by decide +kernel
theorem dL_law_687 : decode cL_law 687 = .ok (.ifCond .eq 11, 3) := by decide +kernel
theorem dL_law_690 : decode cL_law 690 = .ok (.aload_n 2, 1) := by decide +kernel
theorem dL_law_691 : decode cL_law 691 = .ok (.iconst 3, 1) := by decide +kernel
theorem dL_law_692 : decode cL_law 692 = .ok (.iaload, 1) := by decide +kernel
theorem dL_law_693 : decode cL_law 693 = .ok (.iconst 2, 1) := by decide +kernel
theorem dL_law_694 : decode cL_law 694 = .ok (.idiv, 1) := by decide +kernel
theorem dL_law_695 : decode cL_law 695 = .ok (.goto 4, 3) := by decide +kernel
theorem dL_law_698 : decode cL_law 698 = .ok (.iconst 0, 1) := by decide +kernel
theorem dL_law_699 : decode cL_law 699 = .ok (.iastore, 1) := by decide +kernel
theorem dL_law_700 : decode cL_law 700 = .ok (.aload_n 2, 1) := by decide +kernel
theorem dL_law_701 : decode cL_law 701 = .ok (.iconst 5, 1) := by decide +kernel
theorem dL_law_702 : decode cL_law 702 = .ok (.dup2, 1) := by decide +kernel
theorem dL_law_703 : decode cL_law 703 = .ok (.iaload, 1) := by decide +kernel
theorem dL_law_704 : decode cL_law 704 = .ok (.aload 6, 2) := by decide +kernel
theorem dL_law_706 : decode cL_law 706 = .ok (.aload_n 2, 1) := by decide +kernel
theorem dL_law_707 : decode cL_law 707 = .ok (.iconst 0, 1) := by decide +kernel
theorem dL_law_708 : decode cL_law 708 = .ok (.iaload, 1) := by decide +kernel
theorem dL_law_709 : decode cL_law 709 = .ok (.iaload, 1) := by decide +kernel
theorem dL_law_710 : decode cL_law 710 = .ok (.iadd, 1) := by decide +kernel
theorem dL_law_711 : decode cL_law 711 = .ok (.iastore, 1) := by decide +kernel
theorem dL_law_712 : decode cL_law 712 = .ok (.aload_n 2, 1) := by decide +kernel
theorem dL_law_713 : decode cL_law 713 = .ok (.iconst 0, 1) := by decide +kernel
theorem dL_law_714 : decode cL_law 714 = .ok (.dup2, 1) := by decide +kernel
theorem dL_law_715 : decode cL_law 715 = .ok (.iaload, 1) := by decide +kernel
theorem dL_law_716 : decode cL_law 716 = .ok (.iconst 1, 1) := by decide +kernel
theorem dL_law_717 : decode cL_law 717 = .ok (.iadd, 1) := by decide +kernel
theorem dL_law_718 : decode cL_law 718 = .ok (.iastore, 1) := by decide +kernel
theorem dL_law_719 : decode cL_law 719 = .ok (.goto 1836, 3) := by decide +kernel
theorem dL_law_722 : decode cL_law 722 = .ok (.iload 19, 2) := by decide +kernel
theorem dL_law_724 : decode cL_law 724 = .ok (.bipush 9, 2) := by decide +kernel
theorem dL_law_726 : decode cL_law 726 = .ok (.if_icmp .ne 120, 3) := by decide +kernel
theorem dL_law_729 : decode cL_law 729 = .ok (.aload_n 2, 1) := by decide +kernel
theorem dL_law_730 : decode cL_law 730 = .ok (.iconst 0, 1) := by decide +kernel
theorem dL_law_731 : decode cL_law 731 = .ok (.iaload, 1) := by decide +kernel
theorem dL_law_732 : decode cL_law 732 = .ok (.ifCond .le 24, 3) := by decide +kernel
theorem dL_law_735 : decode cL_law 735 = .ok (.aload_n 2, 1) := by decide +kernel
theorem dL_law_736 : decode cL_law 736 = .ok (.aload 5, 2) := by decide +kernel
theorem dL_law_738 : decode cL_law 738 = .ok (.aload 6, 2) := by decide +kernel
theorem dL_law_740 : decode cL_law 740 = .ok (.aload 7, 2) := by decide +kernel
theorem dL_law_742 : decode cL_law 742 = .ok (.aload 8, 2) := by decide +kernel
theorem dL_law_744 : decode cL_law 744 = .ok (.iload 21, 2) := by decide +kernel
theorem dL_law_746 : decode cL_law 746 = .ok (.invokestatic 135, 3) := by decide +kernel
theorem dL_law_749 : decode cL_law 749 = .ok (.ifCond .eq 7, 3) := by decide +kernel
theorem dL_law_752 : decode cL_law 752 = .ok (.iconst 1, 1) := by decide +kernel
theorem dL_law_753 : decode cL_law 753 = .ok (.goto 4, 3) := by decide +kernel
theorem dL_law_756 : decode cL_law 756 = .ok (.iconst 0, 1) := by decide +kernel
theorem dL_law_757 : decode cL_law 757 = .ok (.istore 26, 2) := by decide +kernel
theorem dL_law_759 : decode cL_law 759 = .ok (.aload_n 1, 1) := by decide +kernel
theorem dL_law_760 : decode cL_law 760 = .ok (.iconst 2, 1) := by decide +kernel
theorem dL_law_761 : decode cL_law 761 = .ok (.iload 21, 2) := by decide +kernel
theorem dL_law_763 : decode cL_law 763 = .ok (.iconst 0, 1) := by decide +kernel
theorem dL_law_764 : decode cL_law 764 = .ok (.iconst 0, 1) := by decide +kernel
theorem dL_law_765 : decode cL_law 765 = .ok (.invokestatic 127, 3) := by decide +kernel
theorem dL_law_768 : decode cL_law 768 = .ok (.aload_n 2, 1) := by decide +kernel
theorem dL_law_769 : decode cL_law 769 = .ok (.iconst 0, 1) := by decide +kernel
theorem dL_law_770 : decode cL_law 770 = .ok (.iaload, 1) := by decide +kernel
theorem dL_law_771 : decode cL_law 771 = .ok (.ifCond .ne 8, 3) := by decide +kernel
theorem dL_law_774 : decode cL_law 774 = .ok (.bipush (-11), 2) := by decide +kernel
theorem dL_law_776 : decode cL_law 776 = .ok (.goto 18, 3) := by decide +kernel
theorem dL_law_779 : decode cL_law 779 = .ok (.iload 26, 2) := by decide +kernel
theorem dL_law_781 : decode cL_law 781 = .ok (.ifCond .eq 11, 3) := by decide +kernel
theorem dL_law_784 : decode cL_law 784 = .ok (.aload 6, 2) := by decide +kernel
theorem dL_law_786 : decode cL_law 786 = .ok (.iload 21, 2) := by decide +kernel
theorem dL_law_788 : decode cL_law 788 = .ok (.iaload, 1) := by decide +kernel
theorem dL_law_789 : decode cL_law 789 = .ok (.goto 5, 3) := by decide +kernel
theorem dL_law_792 : decode cL_law 792 = .ok (.bipush (-13), 2) := by decide +kernel
theorem dL_law_794 : decode cL_law 794 = .ok (.if_icmp .ne 7, 3) := by decide +kernel
theorem dL_law_797 : decode cL_law 797 = .ok (.iconst 1, 1) := by decide +kernel
theorem dL_law_798 : decode cL_law 798 = .ok (.goto 4, 3) := by decide +kernel
theorem dL_law_801 : decode cL_law 801 = .ok (.iconst 0, 1) := by decide +kernel
theorem dL_law_802 : decode cL_law 802 = .ok (.istore 16, 2) := by decide +kernel
theorem dL_law_804 : decode cL_law 804 = .ok (.aload_n 2, 1) := by decide +kernel
theorem dL_law_805 : decode cL_law 805 = .ok (.iconst 5, 1) := by decide +kernel
theorem dL_law_806 : decode cL_law 806 = .ok (.dup2, 1) := by decide +kernel
theorem dL_law_807 : decode cL_law 807 = .ok (.iaload, 1) := by decide +kernel
theorem dL_law_808 : decode cL_law 808 = .ok (.iload 26, 2) := by decide +kernel
theorem dL_law_810 : decode cL_law 810 = .ok (.ifCond .eq 11, 3) := by decide +kernel
theorem dL_law_813 : decode cL_law 813 = .ok (.aload 6, 2) := by decide +kernel
theorem dL_law_815 : decode cL_law 815 = .ok (.iload 21, 2) := by decide +kernel
theorem dL_law_817 : decode cL_law 817 = .ok (.iaload, 1) := by decide +kernel
theorem dL_law_818 : decode cL_law 818 = .ok (.goto 4, 3) := by decide +kernel
theorem dL_law_821 : decode cL_law 821 = .ok (.iconst 0, 1) := by decide +kernel
theorem dL_law_822 : decode cL_law 822 = .ok (.isub, 1) := by decide +kernel
theorem dL_law_823 : decode cL_law 823 = .ok (.iastore, 1) := by decide +kernel
theorem dL_law_824 : decode cL_law 824 = .ok (.aload 6, 2) := by decide +kernel
theorem dL_law_826 : decode cL_law 826 = .ok (.iload 21, 2) := by decide +kernel
theorem dL_law_828 : decode cL_law 828 = .ok (.iload 26, 2) := by decide +kernel
theorem dL_law_830 : decode cL_law 830 = .ok (.ifCond .eq 7, 3) := by decide +kernel
theorem dL_law_833 : decode cL_law 833 = .ok (.iconst (-1), 1) := by decide +kernel
theorem dL_law_834 : decode cL_law 834 = .ok (.goto 8, 3) := by decide +kernel
theorem dL_law_837 : decode cL_law 837 = .ok (.aload 6, 2) := by decide +kernel
theorem dL_law_839 : decode cL_law 839 = .ok (.iload 21, 2) := by decide +kernel
theorem dL_law_841 : decode cL_law 841 = .ok (.iaload, 1) := by decide +kernel
theorem dL_law_842 : decode cL_law 842 = .ok (.iastore, 1) := by decide +kernel
theorem dL_law_843 : decode cL_law 843 = .ok (.goto 1712, 3) := by decide +kernel
theorem dL_law_846 : decode cL_law 846 = .ok (.iload 19, 2) := by decide +kernel
theorem dL_law_848 : decode cL_law 848 = .ok (.bipush 10, 2) := by decide +kernel
theorem dL_law_850 : decode cL_law 850 = .ok (.if_icmp .ne 101, 3) := by decide +kernel
theorem dL_law_853 : decode cL_law 853 = .ok (.aload 4, 2) := by decide +kernel
theorem dL_law_855 : decode cL_law 855 = .ok (.iload 24, 2) := by decide +kernel
theorem dL_law_857 : decode cL_law 857 = .ok (.iaload, 1) := by decide +kernel
theorem dL_law_858 : decode cL_law 858 = .ok (.aload_n 2, 1) := by decide +kernel
theorem dL_law_859 : decode cL_law 859 = .ok (.iconst 2, 1) := by decide +kernel
theorem dL_law_860 : decode cL_law 860 = .ok (.iaload, 1) := by decide +kernel
theorem dL_law_861 : decode cL_law 861 = .ok (.if_icmp .ge 7, 3) := by decide +kernel
theorem dL_law_864 : decode cL_law 864 = .ok (.iconst 1, 1) := by decide +kernel
theorem dL_law_865 : decode cL_law 865 = .ok (.goto 4, 3) := by decide +kernel
theorem dL_law_868 : decode cL_law 868 = .ok (.iconst 0, 1) := by decide +kernel
theorem dL_law_869 : decode cL_law 869 = .ok (.istore 26, 2) := by decide +kernel
theorem dL_law_871 : decode cL_law 871 = .ok (.aload 4, 2) := by decide +kernel
theorem dL_law_873 : decode cL_law 873 = .ok (.iload 24, 2) := by decide +kernel
theorem dL_law_875 : decode cL_law 875 = .ok (.iload 26, 2) := by decide +kernel
theorem dL_law_877 : decode cL_law 877 = .ok (.ifCond .eq 12, 3) := by decide +kernel
theorem dL_law_880 : decode cL_law 880 = .ok (.aload_n 2, 1) := by decide +kernel
theorem dL_law_881 : decode cL_law 881 = .ok (.iconst 2, 1) := by decide +kernel
theorem dL_law_882 : decode cL_law 882 = .ok (.iaload, 1) := by decide +kernel
theorem dL_law_883 : decode cL_law 883 = .ok (.bipush 29, 2) := by decide +kernel
theorem dL_law_885 : decode cL_law 885 = .ok (.iadd, 1) := by decide +kernel
theorem dL_law_886 : decode cL_law 886 = .ok (.goto 8, 3) := by decide +kernel
theorem dL_law_889 : decode cL_law 889 = .ok (.aload 4, 2) := by decide +kernel
theorem dL_law_891 : decode cL_law 891 = .ok (.iload 24, 2) := by decide +kernel
theorem dL_law_893 : decode cL_law 893 = .ok (.iaload, 1) := by decide +kernel
theorem dL_law_894 : decode cL_law 894 = .ok (.iastore, 1) := by decide +kernel
theorem dL_law_895 : decode cL_law 895 = .ok (.aload_n 2, 1) := by decide +kernel
theorem dL_law_896 : decode cL_law 896 = .ok (.iconst 5, 1) := by decide +kernel
theorem dL_law_897 : decode cL_law 897 = .ok (.dup2, 1) := by decide +kernel
theorem dL_law_898 : decode cL_law 898 = .ok (.iaload, 1) := by decide +kernel
theorem dL_law_899 : decode cL_law 899 = .ok (.iload 26, 2) := by decide +kernel
theorem dL_law_901 : decode cL_law 901 = .ok (.ifCond .eq 9, 3) := by decide +kernel
theorem dL_law_904 : decode cL_law 904 = .ok (.sipush 6000, 3) := by decide +kernel
theorem dL_law_907 : decode cL_law 907 = .ok (.goto 4, 3) := by decide +kernel
theorem dL_law_910 : decode cL_law 910 = .ok (.iconst 0, 1) := by decide +kernel
theorem dL_law_911 : decode cL_law 911 = .ok (.iadd, 1) := by decide +kernel
theorem dL_law_912 : decode cL_law 912 = .ok (.iastore, 1) := by decide +kernel
theorem dL_law_913 : decode cL_law 913 = .ok (.aload_n 1, 1) := by decide +kernel
theorem dL_law_914 : decode cL_law 914 = .ok (.iconst 3, 1) := by decide +kernel
theorem dL_law_915 : decode cL_law 915 = .ok (.iload 24, 2) := by decide +kernel
theorem dL_law_917 : decode cL_law 917 = .ok (.iconst 0, 1) := by decide +kernel
theorem dL_law_918 : decode cL_law 918 = .ok (.iconst 0, 1) := by decide +kernel
theorem dL_law_919 : decode cL_law 919 = .ok (.invokestatic 127, 3) := by decide +kernel
theorem dL_law_922 : decode cL_law 922 = .ok (.iload 26, 2) := by decide +kernel
theorem dL_law_924 : decode cL_law 924 = .ok (.ifCond .eq 12, 3) := by decide +kernel
theorem dL_law_927 : decode cL_law 927 = .ok (.aload_n 2, 1) := by decide +kernel
theorem dL_law_928 : decode cL_law 928 = .ok (.iconst 2, 1) := by decide +kernel
theorem dL_law_929 : decode cL_law 929 = .ok (.iaload, 1) := by decide +kernel
theorem dL_law_930 : decode cL_law 930 = .ok (.bipush 29, 2) := by decide +kernel
theorem dL_law_932 : decode cL_law 932 = .ok (.iadd, 1) := by decide +kernel
theorem dL_law_933 : decode cL_law 933 = .ok (.goto 5, 3) := by decide +kernel
theorem dL_law_936 : decode cL_law 936 = .ok (.bipush (-13), 2) := by decide +kernel
theorem dL_law_938 : decode cL_law 938 = .ok (.if_icmp .ne 7, 3) := by decide +kernel
theorem dL_law_941 : decode cL_law 941 = .ok (.iconst 1, 1) := by decide +kernel
theorem dL_law_942 : decode cL_law 942 = .ok (.goto 4, 3) := by decide +kernel
theorem dL_law_945 : decode cL_law 945 = .ok (.iconst 0, 1) := by decide +kernel
theorem dL_law_946 : decode cL_law 946 = .ok (.istore 16, 2) := by decide +kernel
theorem dL_law_948 : decode cL_law 948 = .ok (.goto 1607, 3) := by decide +kernel
theorem dL_law_951 : decode cL_law 951 = .ok (.iload 19, 2) := by decide +kernel
theorem dL_law_953 : decode cL_law 953 = .ok (.bipush 11, 2) := by decide +kernel
theorem dL_law_955 : decode cL_law 955 = .ok (.if_icmp .ne 72, 3) := by decide +kernel
theorem dL_law_958 : decode cL_law 958 = .ok (.iload 20, 2) := by decide +kernel
theorem dL_law_960 : decode cL_law 960 = .ok (.bipush 20, 2) := by decide +kernel
theorem dL_law_962 : decode cL_law 962 = .ok (.idiv, 1) := by decide +kernel
theorem dL_law_963 : decode cL_law 963 = .ok (.iconst 5, 1) := by decide +kernel
theorem dL_law_964 : decode cL_law 964 = .ok (.irem, 1) := by decide +kernel
theorem dL_law_965 : decode cL_law 965 = .ok (.istore 26, 2) := by decide +kernel
theorem dL_law_967 : decode cL_law 967 = .ok (.aload 10, 2) := by decide +kernel
theorem dL_law_969 : decode cL_law 969 = .ok (.iload 22, 2) := by decide +kernel
theorem dL_law_971 : decode cL_law 971 = .ok (.iload 26, 2) := by decide +kernel
theorem dL_law_973 : decode cL_law 973 = .ok (.iastore, 1) := by decide +kernel
theorem dL_law_974 : decode cL_law 974 = .ok (.aload_n 2, 1) := by decide +kernel
theorem dL_law_975 : decode cL_law 975 = .ok (.aload 5, 2) := by decide +kernel
theorem dL_law_977 : decode cL_law 977 = .ok (.aload 7, 2) := by decide +kernel
theorem dL_law_979 : decode cL_law 979 = .ok (.aload 8, 2) := by decide +kernel
theorem dL_law_981 : decode cL_law 981 = .ok (.aload 9, 2) := by decide +kernel
theorem dL_law_983 : decode cL_law 983 = .ok (.aload 10, 2) := by decide +kernel
theorem dL_law_985 : decode cL_law 985 = .ok (.aload 11, 2) := by decide +kernel
theorem dL_law_987 : decode cL_law 987 = .ok (.aload 12, 2) := by decide +kernel
theorem dL_law_989 : decode cL_law 989 = .ok (.aload 14, 2) := by decide +kernel
theorem dL_law_991 : decode cL_law 991 = .ok (.aload 15, 2) := by decide +kernel
theorem dL_law_993 : decode cL_law 993 = .ok (.iload 22, 2) := by decide +kernel
theorem dL_law_995 : decode cL_law 995 = .ok (.invokestatic 139, 3) := by decide +kernel
theorem dL_law_998 : decode cL_law 998 = .ok (.aload_n 1, 1) := by decide +kernel
theorem dL_law_999 : decode cL_law 999 = .ok (.iload 22, 2) := by decide +kernel
theorem dL_law_1001 : decode cL_law 1001 = .ok (.iload 26, 2) := by decide +kernel
theorem dL_law_1003 : decode cL_law 1003 = .ok (.invokevirtual 143, 3) := by decide +kernel
theorem dL_law_1006 : decode cL_law 1006 = .ok (.aload_n 2, 1) := by decide +kernel
theorem dL_law_1007 : decode cL_law 1007 = .ok (.aload 8, 2) := by decide +kernel
theorem dL_law_1009 : decode cL_law 1009 = .ok (.iload 22, 2) := by decide +kernel
theorem dL_law_1011 : decode cL_law 1011 = .ok (.invokestatic 16, 3) := by decide +kernel
theorem dL_law_1014 : decode cL_law 1014 = .ok (.if_icmp .ne 7, 3) := by decide +kernel
theorem dL_law_1017 : decode cL_law 1017 = .ok (.iconst 1, 1) := by decide +kernel
theorem dL_law_1018 : decode cL_law 1018 = .ok (.goto 4, 3) := by decide +kernel
theorem dL_law_1021 : decode cL_law 1021 = .ok (.iconst 0, 1) := by decide +kernel
