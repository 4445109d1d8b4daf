theorem d_L_law_521 : decode code 521 = .ok (.invokestatic 98, 3) := by decide +kernel
theorem d_L_law_524 : decode code 524 = .ok (.istore 5, 2) := by decide +kernel
theorem d_L_law_526 : decode code 526 = .ok (.aload_n 2, 1) := by decide +kernel
theorem d_L_law_527 : decode code 527 = .ok (.aload_n 0, 1) := by decide +kernel
theorem d_L_law_528 : decode code 528 = .ok (.iload 4, 2) := by decide +kernel
theorem d_L_law_530 : decode code 530 = .ok (.iconst 1, 1) := by decide +kernel
theorem d_L_law_531 : decode code 531 = .ok (.iadd, 1) := by decide +kernel
theorem d_L_law_532 : decode code 532 = .ok (.iaload, 1) := by decide +kernel
theorem d_L_law_533 : decode code 533 = .ok (.invokevirtual 100, 3) := by decide +kernel
theorem d_L_law_536 : decode code 536 = .ok (.istore 6, 2) := by decide +kernel
theorem d_L_law_538 : decode code 538 = .ok (.aload_n 2, 1) := by decide +kernel
theorem d_L_law_539 : decode code 539 = .ok (.invokevirtual 80, 3) := by decide +kernel
theorem d_L_law_542 : decode code 542 = .ok (.iload 5, 2) := by decide +kernel
theorem d_L_law_544 : decode code 544 = .ok (.if_icmp .eq 5, 3) := by decide +kernel
theorem d_L_law_547 : decode code 547 = .ok (.iconst 0, 1) := by decide +kernel
theorem d_L_law_548 : decode code 548 = .ok (.ireturn, 1) := by decide +kernel
theorem d_L_law_549 : decode code 549 = .ok (.iload 5, 2) := by decide +kernel
theorem d_L_law_551 : decode code 551 = .ok (.ifCond .ne 22, 3) := by decide +kernel
theorem d_L_law_554 : decode code 554 = .ok (.aload_n 3, 1) := by decide +kernel
theorem d_L_law_555 : decode code 555 = .ok (.iconst 0, 1) := by decide +kernel
theorem d_L_law_556 : decode code 556 = .ok (.laload, 1) := by decide +kernel
theorem d_L_law_557 : decode code 557 = .ok (.iload 6, 2) := by decide +kernel
theorem d_L_law_559 : decode code 559 = .ok (.ifCond .eq 7, 3) := by decide +kernel
theorem d_L_law_562 : decode code 562 = .ok (.lconst 1, 1) := by decide +kernel
theorem d_L_law_563 : decode code 563 = .ok (.goto 4, 3) := by decide +kernel
theorem d_L_law_566 : decode code 566 = .ok (.lconst 0, 1) := by decide +kernel
theorem d_L_law_567 : decode code 567 = .ok (.lcmp, 1) := by decide +kernel
theorem d_L_law_568 : decode code 568 = .ok (.ifCond .eq 5, 3) := by decide +kernel
theorem d_L_law_571 : decode code 571 = .ok (.iconst 0, 1) := by decide +kernel
theorem d_L_law_572 : decode code 572 = .ok (.ireturn, 1) := by decide +kernel
theorem d_L_law_573 : decode code 573 = .ok (.goto 746, 3) := by decide +kernel
theorem d_L_law_576 : decode code 576 = .ok (.aload_n 1, 1) := by decide +kernel
theorem d_L_law_577 : decode code 577 = .ok (.invokevirtual 101, 3) := by decide +kernel
theorem d_L_law_580 : decode code 580 = .ok (.aload_n 2, 1) := by decide +kernel
theorem d_L_law_581 : decode code 581 = .ok (.invokevirtual 104, 3) := by decide +kernel
theorem d_L_law_584 : decode code 584 = .ok (.if_icmp .eq 735, 3) := by decide +kernel
theorem d_L_law_587 : decode code 587 = .ok (.iconst 0, 1) := by decide +kernel
theorem d_L_law_588 : decode code 588 = .ok (.ireturn, 1) := by decide +kernel
theorem d_L_law_589 : decode code 589 = .ok (.aload_n 1, 1) := by decide +kernel
theorem d_L_law_590 : decode code 590 = .ok (.aload_n 0, 1) := by decide +kernel
theorem d_L_law_591 : decode code 591 = .ok (.iload 4, 2) := by decide +kernel
theorem d_L_law_593 : decode code 593 = .ok (.iconst 1, 1) := by decide +kernel
theorem d_L_law_594 : decode code 594 = .ok (.iadd, 1) := by decide +kernel
theorem d_L_law_595 : decode code 595 = .ok (.iaload, 1) := by decide +kernel
theorem d_L_law_596 : decode code 596 = .ok (.aload_n 3, 1) := by decide +kernel
theorem d_L_law_597 : decode code 597 = .ok (.invokestatic 105, 3) := by decide +kernel
theorem d_L_law_600 : decode code 600 = .ok (.istore 5, 2) := by decide +kernel
theorem d_L_law_602 : decode code 602 = .ok (.aload_n 2, 1) := by decide +kernel
theorem d_L_law_603 : decode code 603 = .ok (.aload_n 0, 1) := by decide +kernel
theorem d_L_law_604 : decode code 604 = .ok (.iload 4, 2) := by decide +kernel
theorem d_L_law_606 : decode code 606 = .ok (.iconst 1, 1) := by decide +kernel
theorem d_L_law_607 : decode code 607 = .ok (.iadd, 1) := by decide +kernel
theorem d_L_law_608 : decode code 608 = .ok (.iaload, 1) := by decide +kernel
theorem d_L_law_609 : decode code 609 = .ok (.invokevirtual 107, 3) := by decide +kernel
theorem d_L_law_612 : decode code 612 = .ok (.istore 6, 2) := by decide +kernel
theorem d_L_law_614 : decode code 614 = .ok (.aload_n 2, 1) := by decide +kernel
theorem d_L_law_615 : decode code 615 = .ok (.invokevirtual 80, 3) := by decide +kernel
theorem d_L_law_618 : decode code 618 = .ok (.iload 5, 2) := by decide +kernel
theorem d_L_law_620 : decode code 620 = .ok (.if_icmp .eq 5, 3) := by decide +kernel
theorem d_L_law_623 : decode code 623 = .ok (.iconst 0, 1) := by decide +kernel
theorem d_L_law_624 : decode code 624 = .ok (.ireturn, 1) := by decide +kernel
theorem d_L_law_625 : decode code 625 = .ok (.iload 5, 2) := by decide +kernel
theorem d_L_law_627 : decode code 627 = .ok (.ifCond .ne 15, 3) := by decide +kernel
theorem d_L_law_630 : decode code 630 = .ok (.aload_n 3, 1) := by decide +kernel
theorem d_L_law_631 : decode code 631 = .ok (.iconst 0, 1) := by decide +kernel
theorem d_L_law_632 : decode code 632 = .ok (.laload, 1) := by decide +kernel
theorem d_L_law_633 : decode code 633 = .ok (.iload 6, 2) := by decide +kernel
theorem d_L_law_635 : decode code 635 = .ok (.i2l, 1) := by decide +kernel
theorem d_L_law_636 : decode code 636 = .ok (.lcmp, 1) := by decide +kernel
theorem d_L_law_637 : decode code 637 = .ok (.ifCond .eq 5, 3) := by decide +kernel
theorem d_L_law_640 : decode code 640 = .ok (.iconst 0, 1) := by decide +kernel
theorem d_L_law_641 : decode code 641 = .ok (.ireturn, 1) := by decide +kernel
theorem d_L_law_642 : decode code 642 = .ok (.goto 677, 3) := by decide +kernel
theorem d_L_law_645 : decode code 645 = .ok (.aload_n 1, 1) := by decide +kernel
theorem d_L_law_646 : decode code 646 = .ok (.aload_n 0, 1) := by decide +kernel
theorem d_L_law_647 : decode code 647 = .ok (.iload 4, 2) := by decide +kernel
theorem d_L_law_649 : decode code 649 = .ok (.iconst 1, 1) := by decide +kernel
theorem d_L_law_650 : decode code 650 = .ok (.iadd, 1) := by decide +kernel
theorem d_L_law_651 : decode code 651 = .ok (.iaload, 1) := by decide +kernel
theorem d_L_law_652 : decode code 652 = .ok (.aload_n 0, 1) := by decide +kernel
theorem d_L_law_653 : decode code 653 = .ok (.iload 4, 2) := by decide +kernel
theorem d_L_law_655 : decode code 655 = .ok (.iconst 2, 1) := by decide +kernel
theorem d_L_law_656 : decode code 656 = .ok (.iadd, 1) := by decide +kernel
theorem d_L_law_657 : decode code 657 = .ok (.iaload, 1) := by decide +kernel
theorem d_L_law_658 : decode code 658 = .ok (.aload_n 0, 1) := by decide +kernel
theorem d_L_law_659 : decode code 659 = .ok (.iload 4, 2) := by decide +kernel
theorem d_L_law_661 : decode code 661 = .ok (.iconst 3, 1) := by decide +kernel
theorem d_L_law_662 : decode code 662 = .ok (.iadd, 1) := by decide +kernel
theorem d_L_law_663 : decode code 663 = .ok (.iaload, 1) := by decide +kernel
theorem d_L_law_664 : decode code 664 = .ok (.aload_n 3, 1) := by decide +kernel
theorem d_L_law_665 : decode code 665 = .ok (.invokestatic 108, 3) := by decide +kernel
theorem d_L_law_668 : decode code 668 = .ok (.istore 5, 2) := by decide +kernel
theorem d_L_law_670 : decode code 670 = .ok (.aload_n 2, 1) := by decide +kernel
theorem d_L_law_671 : decode code 671 = .ok (.aload_n 0, 1) := by decide +kernel
theorem d_L_law_672 : decode code 672 = .ok (.iload 4, 2) := by decide +kernel
theorem d_L_law_674 : decode code 674 = .ok (.iconst 1, 1) := by decide +kernel
theorem d_L_law_675 : decode code 675 = .ok (.iadd, 1) := by decide +kernel
theorem d_L_law_676 : decode code 676 = .ok (.iaload, 1) := by decide +kernel
theorem d_L_law_677 : decode code 677 = .ok (.aload_n 0, 1) := by decide +kernel
theorem d_L_law_678 : decode code 678 = .ok (.iload 4, 2) := by decide +kernel
theorem d_L_law_680 : decode code 680 = .ok (.iconst 2, 1) := by decide +kernel
theorem d_L_law_681 : decode code 681 = .ok (.iadd, 1) := by decide +kernel
theorem d_L_law_682 : decode code 682 = .ok (.iaload, 1) := by decide +kernel
theorem d_L_law_683 : decode code 683 = .ok (.aload_n 0, 1) := by decide +kernel
theorem d_L_law_684 : decode code 684 = .ok (.iload 4, 2) := by decide +kernel
theorem d_L_law_686 : decode code 686 = .ok (.iconst 3, 1) := by decide +kernel
theorem d_L_law_687 : decode code 687 = .ok (.iadd, 1) := by decide +kernel
theorem d_L_law_688 : decode code 688 = .ok (.iaload, 1) := by decide +kernel
theorem d_L_law_689 : decode code 689 = .ok (.invokevirtual 111, 3) := by decide +kernel
theorem d_L_law_692 : decode code 692 = .ok (.istore 6, 2) := by decide +kernel
theorem d_L_law_694 : decode code 694 = .ok (.aload_n 2, 1) := by decide +kernel
theorem d_L_law_695 : decode code 695 = .ok (.invokevirtual 80, 3) := by decide +kernel
theorem d_L_law_698 : decode code 698 = .ok (.iload 5, 2) := by decide +kernel
theorem d_L_law_700 : decode code 700 = .ok (.if_icmp .eq 5, 3) := by decide +kernel
theorem d_L_law_703 : decode code 703 = .ok (.iconst 0, 1) := by decide +kernel
theorem d_L_law_704 : decode code 704 = .ok (.ireturn, 1) := by decide +kernel
theorem d_L_law_705 : decode code 705 = .ok (.iload 5, 2) := by decide +kernel
theorem d_L_law_707 : decode code 707 = .ok (.ifCond .ne 15, 3) := by decide +kernel
theorem d_L_law_710 : decode code 710 = .ok (.aload_n 3, 1) := by decide +kernel
theorem d_L_law_711 : decode code 711 = .ok (.iconst 0, 1) := by decide +kernel
theorem d_L_law_712 : decode code 712 = .ok (.laload, 1) := by decide +kernel
theorem d_L_law_713 : decode code 713 = .ok (.iload 6, 2) := by decide +kernel
theorem d_L_law_715 : decode code 715 = .ok (.i2l, 1) := by decide +kernel
theorem d_L_law_716 : decode code 716 = .ok (.lcmp, 1) := by decide +kernel
theorem d_L_law_717 : decode code 717 = .ok (.ifCond .eq 5, 3) := by decide +kernel
theorem d_L_law_720 : decode code 720 = .ok (.iconst 0, 1) := by decide +kernel
theorem d_L_law_721 : decode code 721 = .ok (.ireturn, 1) := by decide +kernel
theorem d_L_law_722 : decode code 722 = .ok (.goto 597, 3) := by decide +kernel
theorem d_L_law_725 : decode code 725 = .ok (.aload_n 1, 1) := by decide +kernel
theorem d_L_law_726 : decode code 726 = .ok (.aload_n 0, 1) := by decide +kernel
theorem d_L_law_727 : decode code 727 = .ok (.iload 4, 2) := by decide +kernel
theorem d_L_law_729 : decode code 729 = .ok (.iconst 1, 1) := by decide +kernel
theorem d_L_law_730 : decode code 730 = .ok (.iadd, 1) := by decide +kernel
theorem d_L_law_731 : decode code 731 = .ok (.iaload, 1) := by decide +kernel
theorem d_L_law_732 : decode code 732 = .ok (.aload_n 3, 1) := by decide +kernel
theorem d_L_law_733 : decode code 733 = .ok (.invokestatic 112, 3) := by decide +kernel
theorem d_L_law_736 : decode code 736 = .ok (.istore 5, 2) := by decide +kernel
theorem d_L_law_738 : decode code 738 = .ok (.aload_n 2, 1) := by decide +kernel
theorem d_L_law_739 : decode code 739 = .ok (.aload_n 0, 1) := by decide +kernel
theorem d_L_law_740 : decode code 740 = .ok (.iload 4, 2) := by decide +kernel
theorem d_L_law_742 : decode code 742 = .ok (.iconst 1, 1) := by decide +kernel
theorem d_L_law_743 : decode code 743 = .ok (.iadd, 1) := by decide +kernel
theorem d_L_law_744 : decode code 744 = .ok (.iaload, 1) := by decide +kernel
theorem d_L_law_745 : decode code 745 = .ok (.invokevirtual 114, 3) := by decide +kernel
theorem d_L_law_748 : decode code 748 = .ok (.istore 6, 2) := by decide +kernel
theorem d_L_law_750 : decode code 750 = .ok (.aload_n 2, 1) := by decide +kernel
theorem d_L_law_751 : decode code 751 = .ok (.invokevirtual 80, 3) := by decide +kernel
theorem d_L_law_754 : decode code 754 = .ok (.iload 5, 2) := by decide +kernel
theorem d_L_law_756 : decode code 756 = .ok (.if_icmp .eq 5, 3) := by decide +kernel
theorem d_L_law_759 : decode code 759 = .ok (.iconst 0, 1) := by decide +kernel
theorem d_L_law_760 : decode code 760 = .ok (.ireturn, 1) := by decide +kernel
theorem d_L_law_761 : decode code 761 = .ok (.iload 5, 2) := by decide +kernel
theorem d_L_law_763 : decode code 763 = .ok (.ifCond .ne 15, 3) := by decide +kernel
theorem d_L_law_766 : decode code 766 = .ok (.aload_n 3, 1) := by decide +kernel
theorem d_L_law_767 : decode code 767 = .ok (.iconst 0, 1) := by decide +kernel
theorem d_L_law_768 : decode code 768 = .ok (.laload, 1) := by decide +kernel
theorem d_L_law_769 : decode code 769 = .ok (.iload 6, 2) := by decide +kernel
theorem d_L_law_771 : decode code 771 = .ok (.i2l, 1) := by decide +kernel
theorem d_L_law_772 : decode code 772 = .ok (.lcmp, 1) := by decide +kernel
theorem d_L_law_773 : decode code 773 = .ok (.ifCond .eq 5, 3) := by decide +kernel
theorem d_L_law_776 : decode code 776 = .ok (.iconst 0, 1) := by decide +kernel
theorem d_L_law_777 : decode code 777 = .ok (.ireturn, 1) := by decide +kernel
theorem d_L_law_778 : decode code 778 = .ok (.goto 541, 3) := by decide +kernel
theorem d_L_law_781 : decode code 781 = .ok (.aload_n 1, 1) := by decide +kernel
theorem d_L_law_782 : decode code 782 = .ok (.aload_n 0, 1) := by decide +kernel
theorem d_L_law_783 : decode code 783 = .ok (.iload 4, 2) := by decide +kernel
theorem d_L_law_785 : decode code 785 = .ok (.iconst 1, 1) := by decide +kernel
theorem d_L_law_786 : decode code 786 = .ok (.iadd, 1) := by decide +kernel
theorem d_L_law_787 : decode code 787 = .ok (.iaload, 1) := by decide +kernel
theorem d_L_law_788 : decode code 788 = .ok (.aload_n 3, 1) := by decide +kernel
theorem d_L_law_789 : decode code 789 = .ok (.invokestatic 115, 3) := by decide +kernel
theorem d_L_law_792 : decode code 792 = .ok (.istore 5, 2) := by decide +kernel
theorem d_L_law_794 : decode code 794 = .ok (.aload_n 2, 1) := by decide +kernel
theorem d_L_law_795 : decode code 795 = .ok (.aload_n 0, 1) := by decide +kernel
theorem d_L_law_796 : decode code 796 = .ok (.iload 4, 2) := by decide +kernel
theorem d_L_law_798 : decode code 798 = .ok (.iconst 1, 1) := by decide +kernel
theorem d_L_law_799 : decode code 799 = .ok (.iadd, 1) := by decide +kernel
theorem d_L_law_800 : decode code 800 = .ok (.iaload, 1) := by decide +kernel
theorem d_L_law_801 : decode code 801 = .ok (.invokevirtual 117, 3) := by decide +kernel
theorem d_L_law_804 : decode code 804 = .ok (.istore 6, 2) := by decide +kernel
theorem d_L_law_806 : decode code 806 = .ok (.aload_n 2, 1) := by decide +kernel
theorem d_L_law_807 : decode code 807 = .ok (.invokevirtual 80, 3) := by decide +kernel
theorem d_L_law_810 : decode code 810 = .ok (.iload 5, 2) := by decide +kernel
theorem d_L_law_812 : decode code 812 = .ok (.if_icmp .eq 5, 3) := by decide +kernel
theorem d_L_law_815 : decode code 815 = .ok (.iconst 0, 1) := by decide +kernel
theorem d_L_law_816 : decode code 816 = .ok (.ireturn, 1) := by decide +kernel
theorem d_L_law_817 : decode code 817 = .ok (.iload 5, 2) := by decide +kernel
theorem d_L_law_819 : decode code 819 = .ok (.ifCond .ne 15, 3) := by decide +kernel
theorem d_L_law_822 : decode code 822 = .ok (.aload_n 3, 1) := by decide +kernel
theorem d_L_law_823 : decode code 823 = .ok (.iconst 0, 1) := by decide +kernel
theorem d_L_law_824 : decode code 824 = .ok (.laload, 1) := by decide +kernel
theorem d_L_law_825 : decode code 825 = .ok (.iload 6, 2) := by decide +kernel
theorem d_L_law_827 : decode code 827 = .ok (.i2l, 1) := by decide +kernel
theorem d_L_law_828 : decode code 828 = .ok (.lcmp, 1) := by decide +kernel
theorem d_L_law_829 : decode code 829 = .ok (.ifCond .eq 5, 3) := by decide +kernel
theorem d_L_law_832 : decode code 832 = .ok (.iconst 0, 1) := by decide +kernel
theorem d_L_law_833 : decode code 833 = .ok (.ireturn, 1) := by decide +kernel
theorem d_L_law_834 : decode code 834 = .ok (.goto 485, 3) := by decide +kernel
theorem d_L_law_837 : decode code 837 = .ok (.aload_n 1, 1) := by decide +kernel
theorem d_L_law_838 : decode code 838 = .ok (.aload_n 0, 1) := by decide +kernel
theorem d_L_law_839 : decode code 839 = .ok (.iload 4, 2) := by decide +kernel
theorem d_L_law_841 : decode code 841 = .ok (.iconst 1, 1) := by decide +kernel
theorem d_L_law_842 : decode code 842 = .ok (.iadd, 1) := by decide +kernel
theorem d_L_law_843 : decode code 843 = .ok (.iaload, 1) := by decide +kernel
theorem d_L_law_844 : decode code 844 = .ok (.aload_n 0, 1) := by decide +kernel
theorem d_L_law_845 : decode code 845 = .ok (.iload 4, 2) := by decide +kernel
theorem d_L_law_847 : decode code 847 = .ok (.iconst 2, 1) := by decide +kernel
theorem d_L_law_848 : decode code 848 = .ok (.iadd, 1) := by decide +kernel
theorem d_L_law_849 : decode code 849 = .ok (.iaload, 1) := by decide +kernel
theorem d_L_law_850 : decode code 850 = .ok (.aload_n 0, 1) := by decide +kernel
theorem d_L_law_851 : decode code 851 = .ok (.iload 4, 2) := by decide +kernel
theorem d_L_law_853 : decode code 853 = .ok (.iconst 3, 1) := by decide +kernel
theorem d_L_law_854 : decode code 854 = .ok (.iadd, 1) := by decide +kernel
theorem d_L_law_855 : decode code 855 = .ok (.iaload, 1) := by decide +kernel
theorem d_L_law_856 : decode code 856 = .ok (.aload_n 0, 1) := by decide +kernel
theorem d_L_law_857 : decode code 857 = .ok (.iload 4, 2) := by decide +kernel
theorem d_L_law_859 : decode code 859 = .ok (.iconst 4, 1) := by decide +kernel
theorem d_L_law_860 : decode code 860 = .ok (.iadd, 1) := by decide +kernel
theorem d_L_law_861 : decode code 861 = .ok (.iaload, 1) := by decide +kernel
theorem d_L_law_862 : decode code 862 = .ok (.i2l, 1) := by decide +kernel
theorem d_L_law_863 : decode code 863 = .ok (.bipush 32, 2) := by decide +kernel
theorem d_L_law_865 : decode code 865 = .ok (.lshl, 1) := by decide +kernel
theorem d_L_law_866 : decode code 866 = .ok (.aload_n 0, 1) := by decide +kernel
theorem d_L_law_867 : decode code 867 = .ok (.iload 4, 2) := by decide +kernel
theorem d_L_law_869 : decode code 869 = .ok (.iconst 5, 1) := by decide +kernel
theorem d_L_law_870 : decode code 870 = .ok (.iadd, 1) := by decide +kernel
theorem d_L_law_871 : decode code 871 = .ok (.iaload, 1) := by decide +kernel
theorem d_L_law_872 : decode code 872 = .ok (.i2l, 1) := by decide +kernel
theorem d_L_law_873 : decode code 873 = .ok (.ldc2_w 72, 3) := by decide +kernel
theorem d_L_law_876 : decode code 876 = .ok (.land, 1) := by decide +kernel
theorem d_L_law_877 : decode code 877 = .ok (.lor, 1) := by decide +kernel
theorem d_L_law_878 : decode code 878 = .ok (.invokestatic 118, 3) := by decide +kernel
theorem d_L_law_881 : decode code 881 = .ok (.istore 5, 2) := by decide +kernel
theorem d_L_law_883 : decode code 883 = .ok (.aload_n 2, 1) := by decide +kernel
theorem d_L_law_884 : decode code 884 = .ok (.aload_n 0, 1) := by decide +kernel
theorem d_L_law_885 : decode code 885 = .ok (.iload 4, 2) := by decide +kernel
theorem d_L_law_887 : decode code 887 = .ok (.iconst 1, 1) := by decide +kernel
theorem d_L_law_888 : decode code 888 = .ok (.iadd, 1) := by decide +kernel
theorem d_L_law_889 : decode code 889 = .ok (.iaload, 1) := by decide +kernel
theorem d_L_law_890 : decode code 890 = .ok (.aload_n 0, 1) := by decide +kernel
theorem d_L_law_891 : decode code 891 = .ok (.iload 4, 2) := by decide +kernel
theorem d_L_law_893 : decode code 893 = .ok (.iconst 2, 1) := by decide +kernel
theorem d_L_law_894 : decode code 894 = .ok (.iadd, 1) := by decide +kernel
theorem d_L_law_895 : decode code 895 = .ok (.iaload, 1) := by decide +kernel
theorem d_L_law_896 : decode code 896 = .ok (.aload_n 0, 1) := by decide +kernel
theorem d_L_law_897 : decode code 897 = .ok (.iload 4, 2) := by decide +kernel
theorem d_L_law_899 : decode code 899 = .ok (.iconst 3, 1) := by decide +kernel
theorem d_L_law_900 : decode code 900 = .ok (.iadd, 1) := by decide +kernel
theorem d_L_law_901 : decode code 901 = .ok (.iaload, 1) := by decide +kernel
theorem d_L_law_902 : decode code 902 = .ok (.aload_n 0, 1) := by decide +kernel
theorem d_L_law_903 : decode code 903 = .ok (.iload 4, 2) := by decide +kernel
theorem d_L_law_905 : decode code 905 = .ok (.iconst 4, 1) := by decide +kernel
theorem d_L_law_906 : decode code 906 = .ok (.iadd, 1) := by decide +kernel
theorem d_L_law_907 : decode code 907 = .ok (.iaload, 1) := by decide +kernel
theorem d_L_law_908 : decode code 908 = .ok (.i2l, 1) := by decide +kernel
theorem d_L_law_909 : decode code 909 = .ok (.bipush 32, 2) := by decide +kernel
theorem d_L_law_911 : decode code 911 = .ok (.lshl, 1) := by decide +kernel
theorem d_L_law_912 : decode code 912 = .ok (.aload_n 0, 1) := by decide +kernel
theorem d_L_law_913 : decode code 913 = .ok (.iload 4, 2) := by decide +kernel
theorem d_L_law_915 : decode code 915 = .ok (.iconst 5, 1) := by decide +kernel
theorem d_L_law_916 : decode code 916 = .ok (.iadd, 1) := by decide +kernel
theorem d_L_law_917 : decode code 917 = .ok (.iaload, 1) := by decide +kernel
theorem d_L_law_918 : decode code 918 = .ok (.i2l, 1) := by decide +kernel
theorem d_L_law_919 : decode code 919 = .ok (.ldc2_w 72, 3) := by decide +kernel
theorem d_L_law_922 : decode code 922 = .ok (.land, 1) := by decide +kernel
theorem d_L_law_923 : decode code 923 = .ok (.lor, 1) := by decide +kernel
theorem d_L_law_924 : decode code 924 = .ok (.invokevirtual 121, 3) := by decide +kernel
theorem d_L_law_927 : decode code 927 = .ok (.aload_n 2, 1) := by decide +kernel
theorem d_L_law_928 : decode code 928 = .ok (.invokevirtual 80, 3) := by decide +kernel
theorem d_L_law_931 : decode code 931 = .ok (.iload 5, 2) := by decide +kernel
theorem d_L_law_933 : decode code 933 = .ok (.if_icmp .eq 5, 3) := by decide +kernel
theorem d_L_law_936 : decode code 936 = .ok (.iconst 0, 1) := by decide +kernel
theorem d_L_law_937 : decode code 937 = .ok (.ireturn, 1) := by decide +kernel
theorem d_L_law_938 : decode code 938 = .ok (.goto 381, 3) := by decide +kernel
theorem d_L_law_941 : decode code 941 = .ok (.aload_n 1, 1) := by decide +kernel
theorem d_L_law_942 : decode code 942 = .ok (.aload_n 0, 1) := by decide +kernel
theorem d_L_law_943 : decode code 943 = .ok (.iload 4, 2) := by decide +kernel
theorem d_L_law_945 : decode code 945 = .ok (.iconst 1, 1) := by decide +kernel
theorem d_L_law_946 : decode code 946 = .ok (.iadd, 1) := by decide +kernel
theorem d_L_law_947 : decode code 947 = .ok (.iaload, 1) := by decide +kernel
