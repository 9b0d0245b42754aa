theorem dX12_init_548 : decode cX12_init 548 = .ok (.iastore, 1) := by decide +kernel
theorem dX12_init_549 : decode cX12_init 549 = .ok (.dup, 1) := by decide +kernel
theorem dX12_init_550 : decode cX12_init 550 = .ok (.bipush 32, 2) := by decide +kernel
theorem dX12_init_552 : decode cX12_init 552 = .ok (.sipush 3330, 3) := by decide +kernel
theorem dX12_init_555 : decode cX12_init 555 = .ok (.iastore, 1) := by decide +kernel
theorem dX12_init_556 : decode cX12_init 556 = .ok (.dup, 1) := by decide +kernel
theorem dX12_init_557 : decode cX12_init 557 = .ok (.bipush 33, 2) := by decide +kernel
theorem dX12_init_559 : decode cX12_init 559 = .ok (.sipush 3431, 3) := by decide +kernel
theorem dX12_init_562 : decode cX12_init 562 = .ok (.iastore, 1) := by decide +kernel
theorem dX12_init_563 : decode cX12_init 563 = .ok (.dup, 1) := by decide +kernel
theorem dX12_init_564 : decode cX12_init 564 = .ok (.bipush 34, 2) := by decide +kernel
theorem dX12_init_566 : decode cX12_init 566 = .ok (.sipush 3532, 3) := by decide +kernel
theorem dX12_init_569 : decode cX12_init 569 = .ok (.iastore, 1) := by decide +kernel
theorem dX12_init_570 : decode cX12_init 570 = .ok (.dup, 1) := by decide +kernel
theorem dX12_init_571 : decode cX12_init 571 = .ok (.bipush 35, 2) := by decide +kernel
theorem dX12_init_573 : decode cX12_init 573 = .ok (.sipush 3633, 3) := by decide +kernel
theorem dX12_init_576 : decode cX12_init 576 = .ok (.iastore, 1) := by decide +kernel
theorem dX12_init_577 : decode cX12_init 577 = .ok (.dup, 1) := by decide +kernel
theorem dX12_init_578 : decode cX12_init 578 = .ok (.bipush 36, 2) := by decide +kernel
theorem dX12_init_580 : decode cX12_init 580 = .ok (.sipush 3734, 3) := by decide +kernel
theorem dX12_init_583 : decode cX12_init 583 = .ok (.iastore, 1) := by decide +kernel
theorem dX12_init_584 : decode cX12_init 584 = .ok (.dup, 1) := by decide +kernel
theorem dX12_init_585 : decode cX12_init 585 = .ok (.bipush 37, 2) := by decide +kernel
theorem dX12_init_587 : decode cX12_init 587 = .ok (.sipush 3835, 3) := by decide +kernel
theorem dX12_init_590 : decode cX12_init 590 = .ok (.iastore, 1) := by decide +kernel
theorem dX12_init_591 : decode cX12_init 591 = .ok (.dup, 1) := by decide +kernel
theorem dX12_init_592 : decode cX12_init 592 = .ok (.bipush 38, 2) := by decide +kernel
theorem dX12_init_594 : decode cX12_init 594 = .ok (.sipush 3936, 3) := by decide +kernel
theorem dX12_init_597 : decode cX12_init 597 = .ok (.iastore, 1) := by decide +kernel
theorem dX12_init_598 : decode cX12_init 598 = .ok (.dup, 1) := by decide +kernel
theorem dX12_init_599 : decode cX12_init 599 = .ok (.bipush 39, 2) := by decide +kernel
theorem dX12_init_601 : decode cX12_init 601 = .ok (.sipush 4037, 3) := by decide +kernel
theorem dX12_init_604 : decode cX12_init 604 = .ok (.iastore, 1) := by decide +kernel
theorem dX12_init_605 : decode cX12_init 605 = .ok (.dup, 1) := by decide +kernel
theorem dX12_init_606 : decode cX12_init 606 = .ok (.bipush 40, 2) := by decide +kernel
theorem dX12_init_608 : decode cX12_init 608 = .ok (.sipush 4138, 3) := by decide +kernel
theorem dX12_init_611 : decode cX12_init 611 = .ok (.iastore, 1) := by decide +kernel
theorem dX12_init_612 : decode cX12_init 612 = .ok (.dup, 1) := by decide +kernel
theorem dX12_init_613 : decode cX12_init 613 = .ok (.bipush 41, 2) := by decide +kernel
theorem dX12_init_615 : decode cX12_init 615 = .ok (.sipush 4239, 3) := by decide +kernel
theorem dX12_init_618 : decode cX12_init 618 = .ok (.iastore, 1) := by decide +kernel
theorem dX12_init_619 : decode cX12_init 619 = .ok (.dup, 1) := by decide +kernel
theorem dX12_init_620 : decode cX12_init 620 = .ok (.bipush 42, 2) := by decide +kernel
theorem dX12_init_622 : decode cX12_init 622 = .ok (.sipush 4340, 3) := by decide +kernel
theorem dX12_init_625 : decode cX12_init 625 = .ok (.iastore, 1) := by decide +kernel
theorem dX12_init_626 : decode cX12_init 626 = .ok (.dup, 1) := by decide +kernel
theorem dX12_init_627 : decode cX12_init 627 = .ok (.bipush 43, 2) := by decide +kernel
theorem dX12_init_629 : decode cX12_init 629 = .ok (.sipush 4441, 3) := by decide +kernel
theorem dX12_init_632 : decode cX12_init 632 = .ok (.iastore, 1) := by decide +kernel
theorem dX12_init_633 : decode cX12_init 633 = .ok (.dup, 1) := by decide +kernel
theorem dX12_init_634 : decode cX12_init 634 = .ok (.bipush 44, 2) := by decide +kernel
theorem dX12_init_636 : decode cX12_init 636 = .ok (.sipush 4542, 3) := by decide +kernel
theorem dX12_init_639 : decode cX12_init 639 = .ok (.iastore, 1) := by decide +kernel
theorem dX12_init_640 : decode cX12_init 640 = .ok (.dup, 1) := by decide +kernel
theorem dX12_init_641 : decode cX12_init 641 = .ok (.bipush 45, 2) := by decide +kernel
theorem dX12_init_643 : decode cX12_init 643 = .ok (.sipush 4543, 3) := by decide +kernel
theorem dX12_init_646 : decode cX12_init 646 = .ok (.iastore, 1) := by decide +kernel
theorem dX12_init_647 : decode cX12_init 647 = .ok (.dup, 1) := by decide +kernel
theorem dX12_init_648 : decode cX12_init 648 = .ok (.bipush 46, 2) := by decide +kernel
theorem dX12_init_650 : decode cX12_init 650 = .ok (.sipush 4646, 3) := by decide +kernel
theorem dX12_init_653 : decode cX12_init 653 = .ok (.iastore, 1) := by decide +kernel
theorem dX12_init_654 : decode cX12_init 654 = .ok (.putfield 13, 3) := by decide +kernel
theorem dX12_init_657 : decode cX12_init 657 = .ok (.aload_n 0, 1) := by decide +kernel
theorem dX12_init_658 : decode cX12_init 658 = .ok (.iconst 1, 1) := by decide +kernel
theorem dX12_init_659 : decode cX12_init 659 = .ok (.putfield 16, 3) := by decide +kernel
theorem dX12_init_662 : decode cX12_init 662 = .ok (.aload_n 0, 1) := by decide +kernel
theorem dX12_init_663 : decode cX12_init 663 = .ok (.iconst 1, 1) := by decide +kernel
theorem dX12_init_664 : decode cX12_init 664 = .ok (.putfield 20, 3) := by decide +kernel
theorem dX12_init_667 : decode cX12_init 667 = .ok (.aload_n 0, 1) := by decide +kernel
theorem dX12_init_668 : decode cX12_init 668 = .ok (.bipush 64, 2) := by decide +kernel
theorem dX12_init_670 : decode cX12_init 670 = .ok (.newarray .int, 2) := by decide +kernel
theorem dX12_init_672 : decode cX12_init 672 = .ok (.putfield 23, 3) := by decide +kernel
theorem dX12_init_675 : decode cX12_init 675 = .ok (.aload_n 0, 1) := by decide +kernel
theorem dX12_init_676 : decode cX12_init 676 = .ok (.bipush 64, 2) := by decide +kernel
theorem dX12_init_678 : decode cX12_init 678 = .ok (.newarray .int, 2) := by decide +kernel
theorem dX12_init_680 : decode cX12_init 680 = .ok (.putfield 26, 3) := by decide +kernel
theorem dX12_init_683 : decode cX12_init 683 = .ok (.aload_n 0, 1) := by decide +kernel
theorem dX12_init_684 : decode cX12_init 684 = .ok (.bipush 8, 2) := by decide +kernel
theorem dX12_init_686 : decode cX12_init 686 = .ok (.newarray .int, 2) := by decide +kernel
theorem dX12_init_688 : decode cX12_init 688 = .ok (.putfield 29, 3) := by decide +kernel
theorem dX12_init_691 : decode cX12_init 691 = .ok (.aload_n 0, 1) := by decide +kernel
theorem dX12_init_692 : decode cX12_init 692 = .ok (.bipush 8, 2) := by decide +kernel
theorem dX12_init_694 : decode cX12_init 694 = .ok (.newarray .int, 2) := by decide +kernel
theorem dX12_init_696 : decode cX12_init 696 = .ok (.putfield 32, 3) := by decide +kernel
theorem dX12_init_699 : decode cX12_init 699 = .ok (.aload_n 0, 1) := by decide +kernel
theorem dX12_init_700 : decode cX12_init 700 = .ok (.bipush 20, 2) := by decide +kernel
theorem dX12_init_702 : decode cX12_init 702 = .ok (.newarray .int, 2) := by decide +kernel
theorem dX12_init_704 : decode cX12_init 704 = .ok (.putfield 35, 3) := by decide +kernel
theorem dX12_init_707 : decode cX12_init 707 = .ok (.aload_n 0, 1) := by decide +kernel
theorem dX12_init_708 : decode cX12_init 708 = .ok (.bipush 20, 2) := by decide +kernel
theorem dX12_init_710 : decode cX12_init 710 = .ok (.newarray .int, 2) := by decide +kernel
theorem dX12_init_712 : decode cX12_init 712 = .ok (.putfield 38, 3) := by decide +kernel
theorem dX12_init_715 : decode cX12_init 715 = .ok (.aload_n 0, 1) := by decide +kernel
theorem dX12_init_716 : decode cX12_init 716 = .ok (.bipush 20, 2) := by decide +kernel
theorem dX12_init_718 : decode cX12_init 718 = .ok (.newarray .int, 2) := by decide +kernel
theorem dX12_init_720 : decode cX12_init 720 = .ok (.putfield 41, 3) := by decide +kernel
theorem dX12_init_723 : decode cX12_init 723 = .ok (.aload_n 0, 1) := by decide +kernel
theorem dX12_init_724 : decode cX12_init 724 = .ok (.bipush 20, 2) := by decide +kernel
theorem dX12_init_726 : decode cX12_init 726 = .ok (.newarray .int, 2) := by decide +kernel
theorem dX12_init_728 : decode cX12_init 728 = .ok (.putfield 44, 3) := by decide +kernel
theorem dX12_init_731 : decode cX12_init 731 = .ok (.aload_n 0, 1) := by decide +kernel
theorem dX12_init_732 : decode cX12_init 732 = .ok (.sipush 1280, 3) := by decide +kernel
theorem dX12_init_735 : decode cX12_init 735 = .ok (.newarray .int, 2) := by decide +kernel
theorem dX12_init_737 : decode cX12_init 737 = .ok (.putfield 47, 3) := by decide +kernel
theorem dX12_init_740 : decode cX12_init 740 = .ok (.aload_n 0, 1) := by decide +kernel
theorem dX12_init_741 : decode cX12_init 741 = .ok (.sipush 1280, 3) := by decide +kernel
theorem dX12_init_744 : decode cX12_init 744 = .ok (.newarray .boolean, 2) := by decide +kernel
theorem dX12_init_746 : decode cX12_init 746 = .ok (.putfield 50, 3) := by decide +kernel
theorem dX12_init_749 : decode cX12_init 749 = .ok (.aload_n 0, 1) := by decide +kernel
theorem dX12_init_750 : decode cX12_init 750 = .ok (.bipush 20, 2) := by decide +kernel
theorem dX12_init_752 : decode cX12_init 752 = .ok (.newarray .int, 2) := by decide +kernel
theorem dX12_init_754 : decode cX12_init 754 = .ok (.putfield 54, 3) := by decide +kernel
theorem dX12_init_757 : decode cX12_init 757 = .ok (.aload_n 0, 1) := by decide +kernel
theorem dX12_init_758 : decode cX12_init 758 = .ok (.bipush 20, 2) := by decide +kernel
theorem dX12_init_760 : decode cX12_init 760 = .ok (.newarray .int, 2) := by decide +kernel
theorem dX12_init_762 : decode cX12_init 762 = .ok (.putfield 57, 3) := by decide +kernel
theorem dX12_init_765 : decode cX12_init 765 = .ok (.aload_n 0, 1) := by decide +kernel
theorem dX12_init_766 : decode cX12_init 766 = .ok (.bipush 20, 2) := by decide +kernel
theorem dX12_init_768 : decode cX12_init 768 = .ok (.newarray .int, 2) := by decide +kernel
theorem dX12_init_770 : decode cX12_init 770 = .ok (.putfield 60, 3) := by decide +kernel
theorem dX12_init_773 : decode cX12_init 773 = .ok (.aload_n 0, 1) := by decide +kernel
theorem dX12_init_774 : decode cX12_init 774 = .ok (.sipush 4400, 3) := by decide +kernel
theorem dX12_init_777 : decode cX12_init 777 = .ok (.newarray .int, 2) := by decide +kernel
theorem dX12_init_779 : decode cX12_init 779 = .ok (.putfield 63, 3) := by decide +kernel
theorem dX12_init_782 : decode cX12_init 782 = .ok (.aload_n 0, 1) := by decide +kernel
theorem dX12_init_783 : decode cX12_init 783 = .ok (.bipush 10, 2) := by decide +kernel
theorem dX12_init_785 : decode cX12_init 785 = .ok (.newarray .int, 2) := by decide +kernel
theorem dX12_init_787 : decode cX12_init 787 = .ok (.putfield 66, 3) := by decide +kernel
theorem dX12_init_790 : decode cX12_init 790 = .ok (.aload_n 0, 1) := by decide +kernel
theorem dX12_init_791 : decode cX12_init 791 = .ok (.bipush 10, 2) := by decide +kernel
theorem dX12_init_793 : decode cX12_init 793 = .ok (.newarray .int, 2) := by decide +kernel
theorem dX12_init_795 : decode cX12_init 795 = .ok (.putfield 69, 3) := by decide +kernel
theorem dX12_init_798 : decode cX12_init 798 = .ok (.aload_n 0, 1) := by decide +kernel
theorem dX12_init_799 : decode cX12_init 799 = .ok (.sipush 350, 3) := by decide +kernel
theorem dX12_init_802 : decode cX12_init 802 = .ok (.newarray .int, 2) := by decide +kernel
theorem dX12_init_804 : decode cX12_init 804 = .ok (.putfield 72, 3) := by decide +kernel
theorem dX12_init_807 : decode cX12_init 807 = .ok (.aload_n 0, 1) := by decide +kernel
theorem dX12_init_808 : decode cX12_init 808 = .ok (.bipush 100, 2) := by decide +kernel
theorem dX12_init_810 : decode cX12_init 810 = .ok (.newarray .int, 2) := by decide +kernel
theorem dX12_init_812 : decode cX12_init 812 = .ok (.putfield 75, 3) := by decide +kernel
theorem dX12_init_815 : decode cX12_init 815 = .ok (.aload_n 0, 1) := by decide +kernel
theorem dX12_init_816 : decode cX12_init 816 = .ok (.bipush 64, 2) := by decide +kernel
theorem dX12_init_818 : decode cX12_init 818 = .ok (.newarray .boolean, 2) := by decide +kernel
theorem dX12_init_820 : decode cX12_init 820 = .ok (.putfield 78, 3) := by decide +kernel
theorem dX12_init_823 : decode cX12_init 823 = .ok (.aload_n 0, 1) := by decide +kernel
theorem dX12_init_824 : decode cX12_init 824 = .ok (.bipush 64, 2) := by decide +kernel
theorem dX12_init_826 : decode cX12_init 826 = .ok (.newarray .boolean, 2) := by decide +kernel
theorem dX12_init_828 : decode cX12_init 828 = .ok (.putfield 81, 3) := by decide +kernel
theorem dX12_init_831 : decode cX12_init 831 = .ok (.aload_n 0, 1) := by decide +kernel
theorem dX12_init_832 : decode cX12_init 832 = .ok (.bipush 19, 2) := by decide +kernel
theorem dX12_init_834 : decode cX12_init 834 = .ok (.newarray .int, 2) := by decide +kernel
theorem dX12_init_836 : decode cX12_init 836 = .ok (.putfield 84, 3) := by decide +kernel
theorem dX12_init_839 : decode cX12_init 839 = .ok (.aload_n 0, 1) := by decide +kernel
theorem dX12_init_840 : decode cX12_init 840 = .ok (.bipush 19, 2) := by decide +kernel
theorem dX12_init_842 : decode cX12_init 842 = .ok (.newarray .int, 2) := by decide +kernel
theorem dX12_init_844 : decode cX12_init 844 = .ok (.putfield 87, 3) := by decide +kernel
theorem dX12_init_847 : decode cX12_init 847 = .ok (.aload_n 0, 1) := by decide +kernel
theorem dX12_init_848 : decode cX12_init 848 = .ok (.sipush 3200, 3) := by decide +kernel
theorem dX12_init_851 : decode cX12_init 851 = .ok (.newarray .int, 2) := by decide +kernel
theorem dX12_init_853 : decode cX12_init 853 = .ok (.putfield 90, 3) := by decide +kernel
theorem dX12_init_856 : decode cX12_init 856 = .ok (.aload_n 0, 1) := by decide +kernel
theorem dX12_init_857 : decode cX12_init 857 = .ok (.sipush 4400, 3) := by decide +kernel
theorem dX12_init_860 : decode cX12_init 860 = .ok (.newarray .int, 2) := by decide +kernel
theorem dX12_init_862 : decode cX12_init 862 = .ok (.putfield 93, 3) := by decide +kernel
theorem dX12_init_865 : decode cX12_init 865 = .ok (.aload_n 0, 1) := by decide +kernel
theorem dX12_init_866 : decode cX12_init 866 = .ok (.sipush 4700, 3) := by decide +kernel
theorem dX12_init_869 : decode cX12_init 869 = .ok (.newarray .int, 2) := by decide +kernel
theorem dX12_init_871 : decode cX12_init 871 = .ok (.putfield 96, 3) := by decide +kernel
theorem dX12_init_874 : decode cX12_init 874 = .ok (.aload_n 0, 1) := by decide +kernel
theorem dX12_init_875 : decode cX12_init 875 = .ok (.bipush 30, 2) := by decide +kernel
theorem dX12_init_877 : decode cX12_init 877 = .ok (.newarray .int, 2) := by decide +kernel
theorem dX12_init_879 : decode cX12_init 879 = .ok (.putfield 99, 3) := by decide +kernel
theorem dX12_init_882 : decode cX12_init 882 = .ok (.aload_n 0, 1) := by decide +kernel
theorem dX12_init_883 : decode cX12_init 883 = .ok (.bipush 30, 2) := by decide +kernel
theorem dX12_init_885 : decode cX12_init 885 = .ok (.newarray .int, 2) := by decide +kernel
theorem dX12_init_887 : decode cX12_init 887 = .ok (.putfield 102, 3) := by decide +kernel
theorem dX12_init_890 : decode cX12_init 890 = .ok (.aload_n 0, 1) := by decide +kernel
theorem dX12_init_891 : decode cX12_init 891 = .ok (.bipush 10, 2) := by decide +kernel
theorem dX12_init_893 : decode cX12_init 893 = .ok (.newarray .int, 2) := by decide +kernel
theorem dX12_init_895 : decode cX12_init 895 = .ok (.putfield 105, 3) := by decide +kernel
theorem dX12_init_898 : decode cX12_init 898 = .ok (.aload_n 0, 1) := by decide +kernel
theorem dX12_init_899 : decode cX12_init 899 = .ok (.bipush 10, 2) := by decide +kernel
theorem dX12_init_901 : decode cX12_init 901 = .ok (.newarray .int, 2) := by decide +kernel
theorem dX12_init_903 : decode cX12_init 903 = .ok (.putfield 108, 3) := by decide +kernel
theorem dX12_init_906 : decode cX12_init 906 = .ok (.aload_n 0, 1) := by decide +kernel
theorem dX12_init_907 : decode cX12_init 907 = .ok (.bipush 64, 2) := by decide +kernel
theorem dX12_init_909 : decode cX12_init 909 = .ok (.newarray .int, 2) := by decide +kernel
theorem dX12_init_911 : decode cX12_init 911 = .ok (.putfield 111, 3) := by decide +kernel
theorem dX12_init_914 : decode cX12_init 914 = .ok (.aload_n 0, 1) := by decide +kernel
theorem dX12_init_915 : decode cX12_init 915 = .ok (.bipush 10, 2) := by decide +kernel
theorem dX12_init_917 : decode cX12_init 917 = .ok (.newarray .int, 2) := by decide +kernel
theorem dX12_init_919 : decode cX12_init 919 = .ok (.putfield 114, 3) := by decide +kernel
theorem dX12_init_922 : decode cX12_init 922 = .ok (.return_, 1) := by decide +kernel
theorem dX12_refuse_0 : decode cX12_refuse 0 = .ok (.aload_n 0, 1) := by decide +kernel
theorem dX12_refuse_1 : decode cX12_refuse 1 = .ok (.iload_n 1, 1) := by decide +kernel
theorem dX12_refuse_2 : decode cX12_refuse 2 = .ok (.putfield 117, 3) := by decide +kernel
theorem dX12_refuse_5 : decode cX12_refuse 5 = .ok (.iconst 0, 1) := by decide +kernel
theorem dX12_refuse_6 : decode cX12_refuse 6 = .ok (.ireturn, 1) := by decide +kernel
theorem dX12_within_0 : decode cX12_within 0 = .ok (.iload_n 0, 1) := by decide +kernel
theorem dX12_within_1 : decode cX12_within 1 = .ok (.iload_n 1, 1) := by decide +kernel
theorem dX12_within_2 : decode cX12_within 2 = .ok (.if_icmp .lt 12, 3) := by decide +kernel
theorem dX12_within_5 : decode cX12_within 5 = .ok (.iload_n 0, 1) := by decide +kernel
theorem dX12_within_6 : decode cX12_within 6 = .ok (.iload_n 2, 1) := by decide +kernel
theorem dX12_within_7 : decode cX12_within 7 = .ok (.if_icmp .gt 7, 3) := by decide +kernel
theorem dX12_within_10 : decode cX12_within 10 = .ok (.iconst 1, 1) := by decide +kernel
theorem dX12_within_11 : decode cX12_within 11 = .ok (.goto 4, 3) := by decide +kernel
theorem dX12_within_14 : decode cX12_within 14 = .ok (.iconst 0, 1) := by decide +kernel
theorem dX12_within_15 : decode cX12_within 15 = .ok (.ireturn, 1) := by decide +kernel
theorem dX12_picture_0 : decode cX12_picture 0 = .ok (.aload_n 0, 1) := by decide +kernel
theorem dX12_picture_1 : decode cX12_picture 1 = .ok (.iload_n 1, 1) := by decide +kernel
theorem dX12_picture_2 : decode cX12_picture 2 = .ok (.iconst 1, 1) := by decide +kernel
theorem dX12_picture_3 : decode cX12_picture 3 = .ok (.bipush 8, 2) := by decide +kernel
theorem dX12_picture_5 : decode cX12_picture 5 = .ok (.invokestatic 120, 3) := by decide +kernel
theorem dX12_picture_8 : decode cX12_picture 8 = .ok (.ifCond .eq 17, 3) := by decide +kernel
theorem dX12_picture_11 : decode cX12_picture 11 = .ok (.iload_n 2, 1) := by decide +kernel
theorem dX12_picture_12 : decode cX12_picture 12 = .ok (.iconst 1, 1) := by decide +kernel
theorem dX12_picture_13 : decode cX12_picture 13 = .ok (.bipush 8, 2) := by decide +kernel
theorem dX12_picture_15 : decode cX12_picture 15 = .ok (.invokestatic 120, 3) := by decide +kernel
theorem dX12_picture_18 : decode cX12_picture 18 = .ok (.ifCond .eq 7, 3) := by decide +kernel
theorem dX12_picture_21 : decode cX12_picture 21 = .ok (.iconst 0, 1) := by decide +kernel
theorem dX12_picture_22 : decode cX12_picture 22 = .ok (.goto 4, 3) := by decide +kernel
theorem dX12_picture_25 : decode cX12_picture 25 = .ok (.iconst 1, 1) := by decide +kernel
theorem dX12_picture_26 : decode cX12_picture 26 = .ok (.putfield 117, 3) := by decide +kernel
theorem dX12_picture_29 : decode cX12_picture 29 = .ok (.aload_n 0, 1) := by decide +kernel
theorem dX12_picture_30 : decode cX12_picture 30 = .ok (.getfield 117, 3) := by decide +kernel
theorem dX12_picture_33 : decode cX12_picture 33 = .ok (.ifCond .ne 34, 3) := by decide +kernel
theorem dX12_picture_36 : decode cX12_picture 36 = .ok (.aload_n 0, 1) := by decide +kernel
theorem dX12_picture_37 : decode cX12_picture 37 = .ok (.iload_n 1, 1) := by decide +kernel
theorem dX12_picture_38 : decode cX12_picture 38 = .ok (.putfield 16, 3) := by decide +kernel
theorem dX12_picture_41 : decode cX12_picture 41 = .ok (.aload_n 0, 1) := by decide +kernel
theorem dX12_picture_42 : decode cX12_picture 42 = .ok (.iload_n 2, 1) := by decide +kernel
theorem dX12_picture_43 : decode cX12_picture 43 = .ok (.putfield 20, 3) := by decide +kernel
theorem dX12_picture_46 : decode cX12_picture 46 = .ok (.iconst 0, 1) := by decide +kernel
theorem dX12_picture_47 : decode cX12_picture 47 = .ok (.istore_n 3, 1) := by decide +kernel
theorem dX12_picture_48 : decode cX12_picture 48 = .ok (.iload_n 3, 1) := by decide +kernel
theorem dX12_picture_49 : decode cX12_picture 49 = .ok (.bipush 64, 2) := by decide +kernel
theorem dX12_picture_51 : decode cX12_picture 51 = .ok (.if_icmp .ge 16, 3) := by decide +kernel
theorem dX12_picture_54 : decode cX12_picture 54 = .ok (.aload_n 0, 1) := by decide +kernel
theorem dX12_picture_55 : decode cX12_picture 55 = .ok (.getfield 23, 3) := by decide +kernel
theorem dX12_picture_58 : decode cX12_picture 58 = .ok (.iload_n 3, 1) := by decide +kernel
theorem dX12_picture_59 : decode cX12_picture 59 = .ok (.iconst 0, 1) := by decide +kernel
theorem dX12_picture_60 : decode cX12_picture 60 = .ok (.iastore, 1) := by decide +kernel
theorem dX12_picture_61 : decode cX12_picture 61 = .ok (.iinc 3 1, 3) := by decide +kernel
theorem dX12_picture_64 : decode cX12_picture 64 = .ok (.goto (-16), 3) := by decide +kernel
theorem dX12_picture_67 : decode cX12_picture 67 = .ok (.return_, 1) := by decide +kernel
theorem dX12_isPixel_0 : decode cX12_isPixel 0 = .ok (.iload_n 1, 1) := by decide +kernel
theorem dX12_isPixel_1 : decode cX12_isPixel 1 = .ok (.iconst 0, 1) := by decide +kernel
theorem dX12_isPixel_2 : decode cX12_isPixel 2 = .ok (.aload_n 0, 1) := by decide +kernel
theorem dX12_isPixel_3 : decode cX12_isPixel 3 = .ok (.getfield 16, 3) := by decide +kernel
theorem dX12_isPixel_6 : decode cX12_isPixel 6 = .ok (.iconst 1, 1) := by decide +kernel
theorem dX12_isPixel_7 : decode cX12_isPixel 7 = .ok (.isub, 1) := by decide +kernel
theorem dX12_isPixel_8 : decode cX12_isPixel 8 = .ok (.invokestatic 120, 3) := by decide +kernel
theorem dX12_isPixel_11 : decode cX12_isPixel 11 = .ok (.ifCond .eq 21, 3) := by decide +kernel
theorem dX12_isPixel_14 : decode cX12_isPixel 14 = .ok (.iload_n 2, 1) := by decide +kernel
theorem dX12_isPixel_15 : decode cX12_isPixel 15 = .ok (.iconst 0, 1) := by decide +kernel
theorem dX12_isPixel_16 : decode cX12_isPixel 16 = .ok (.aload_n 0, 1) := by decide +kernel
theorem dX12_isPixel_17 : decode cX12_isPixel 17 = .ok (.getfield 20, 3) := by decide +kernel
theorem dX12_isPixel_20 : decode cX12_isPixel 20 = .ok (.iconst 1, 1) := by decide +kernel
theorem dX12_isPixel_21 : decode cX12_isPixel 21 = .ok (.isub, 1) := by decide +kernel
theorem dX12_isPixel_22 : decode cX12_isPixel 22 = .ok (.invokestatic 120, 3) := by decide +kernel
theorem dX12_isPixel_25 : decode cX12_isPixel 25 = .ok (.ifCond .eq 7, 3) := by decide +kernel
theorem dX12_isPixel_28 : decode cX12_isPixel 28 = .ok (.iconst 1, 1) := by decide +kernel
theorem dX12_isPixel_29 : decode cX12_isPixel 29 = .ok (.goto 4, 3) := by decide +kernel
theorem dX12_isPixel_32 : decode cX12_isPixel 32 = .ok (.iconst 0, 1) := by decide +kernel
theorem dX12_isPixel_33 : decode cX12_isPixel 33 = .ok (.ireturn, 1) := by decide +kernel
theorem dX12_paint_0 : decode cX12_paint 0 = .ok (.aload_n 0, 1) := by decide +kernel
theorem dX12_paint_1 : decode cX12_paint 1 = .ok (.aload_n 0, 1) := by decide +kernel
theorem dX12_paint_2 : decode cX12_paint 2 = .ok (.iload_n 1, 1) := by decide +kernel
theorem dX12_paint_3 : decode cX12_paint 3 = .ok (.iload_n 2, 1) := by decide +kernel
theorem dX12_paint_4 : decode cX12_paint 4 = .ok (.invokevirtual 124, 3) := by decide +kernel
theorem dX12_paint_7 : decode cX12_paint 7 = .ok (.ifCond .eq 18, 3) := by decide +kernel
theorem dX12_paint_10 : decode cX12_paint 10 = .ok (.iload_n 3, 1) := by decide +kernel
theorem dX12_paint_11 : decode cX12_paint 11 = .ok (.iconst 0, 1) := by decide +kernel
theorem dX12_paint_12 : decode cX12_paint 12 = .ok (.sipush 255, 3) := by decide +kernel
theorem dX12_paint_15 : decode cX12_paint 15 = .ok (.invokestatic 120, 3) := by decide +kernel
theorem dX12_paint_18 : decode cX12_paint 18 = .ok (.ifCond .eq 7, 3) := by decide +kernel
theorem dX12_paint_21 : decode cX12_paint 21 = .ok (.iconst 0, 1) := by decide +kernel
theorem dX12_paint_22 : decode cX12_paint 22 = .ok (.goto 4, 3) := by decide +kernel
theorem dX12_paint_25 : decode cX12_paint 25 = .ok (.iconst 1, 1) := by decide +kernel
theorem dX12_paint_26 : decode cX12_paint 26 = .ok (.putfield 117, 3) := by decide +kernel
theorem dX12_paint_29 : decode cX12_paint 29 = .ok (.aload_n 0, 1) := by decide +kernel
theorem dX12_paint_30 : decode cX12_paint 30 = .ok (.getfield 117, 3) := by decide +kernel
theorem dX12_paint_33 : decode cX12_paint 33 = .ok (.ifCond .ne 15, 3) := by decide +kernel
theorem dX12_paint_36 : decode cX12_paint 36 = .ok (.aload_n 0, 1) := by decide +kernel
theorem dX12_paint_37 : decode cX12_paint 37 = .ok (.getfield 23, 3) := by decide +kernel
theorem dX12_paint_40 : decode cX12_paint 40 = .ok (.bipush 8, 2) := by decide +kernel
theorem dX12_paint_42 : decode cX12_paint 42 = .ok (.iload_n 2, 1) := by decide +kernel
theorem dX12_paint_43 : decode cX12_paint 43 = .ok (.imul, 1) := by decide +kernel
theorem dX12_paint_44 : decode cX12_paint 44 = .ok (.iload_n 1, 1) := by decide +kernel
theorem dX12_paint_45 : decode cX12_paint 45 = .ok (.iadd, 1) := by decide +kernel
theorem dX12_paint_46 : decode cX12_paint 46 = .ok (.iload_n 3, 1) := by decide +kernel
theorem dX12_paint_47 : decode cX12_paint 47 = .ok (.iastore, 1) := by decide +kernel
theorem dX12_paint_48 : decode cX12_paint 48 = .ok (.return_, 1) := by decide +kernel
theorem dX12_pixel_0 : decode cX12_pixel 0 = .ok (.aload_n 0, 1) := by decide +kernel
theorem dX12_pixel_1 : decode cX12_pixel 1 = .ok (.iconst 0, 1) := by decide +kernel
theorem dX12_pixel_2 : decode cX12_pixel 2 = .ok (.putfield 117, 3) := by decide +kernel
theorem dX12_pixel_5 : decode cX12_pixel 5 = .ok (.aload_n 0, 1) := by decide +kernel
theorem dX12_pixel_6 : decode cX12_pixel 6 = .ok (.iload_n 1, 1) := by decide +kernel
theorem dX12_pixel_7 : decode cX12_pixel 7 = .ok (.iload_n 2, 1) := by decide +kernel
theorem dX12_pixel_8 : decode cX12_pixel 8 = .ok (.invokevirtual 124, 3) := by decide +kernel
theorem dX12_pixel_11 : decode cX12_pixel 11 = .ok (.ifCond .eq 17, 3) := by decide +kernel
theorem dX12_pixel_14 : decode cX12_pixel 14 = .ok (.aload_n 0, 1) := by decide +kernel
theorem dX12_pixel_15 : decode cX12_pixel 15 = .ok (.getfield 23, 3) := by decide +kernel
theorem dX12_pixel_18 : decode cX12_pixel 18 = .ok (.bipush 8, 2) := by decide +kernel
theorem dX12_pixel_20 : decode cX12_pixel 20 = .ok (.iload_n 2, 1) := by decide +kernel
theorem dX12_pixel_21 : decode cX12_pixel 21 = .ok (.imul, 1) := by decide +kernel
theorem dX12_pixel_22 : decode cX12_pixel 22 = .ok (.iload_n 1, 1) := by decide +kernel
theorem dX12_pixel_23 : decode cX12_pixel 23 = .ok (.iadd, 1) := by decide +kernel
theorem dX12_pixel_24 : decode cX12_pixel 24 = .ok (.iaload, 1) := by decide +kernel
theorem dX12_pixel_25 : decode cX12_pixel 25 = .ok (.goto 5, 3) := by decide +kernel
theorem dX12_pixel_28 : decode cX12_pixel 28 = .ok (.ldc 128, 2) := by decide +kernel
theorem dX12_pixel_30 : decode cX12_pixel 30 = .ok (.ireturn, 1) := by decide +kernel
theorem dX12_floor_0 : decode cX12_floor 0 = .ok (.iconst 1, 1) := by decide +kernel
theorem dX12_floor_1 : decode cX12_floor 1 = .ok (.iload_n 1, 1) := by decide +kernel
theorem dX12_floor_2 : decode cX12_floor 2 = .ok (.ishl, 1) := by decide +kernel
theorem dX12_floor_3 : decode cX12_floor 3 = .ok (.istore_n 2, 1) := by decide +kernel
theorem dX12_floor_4 : decode cX12_floor 4 = .ok (.iload_n 0, 1) := by decide +kernel
theorem dX12_floor_5 : decode cX12_floor 5 = .ok (.iload_n 2, 1) := by decide +kernel
theorem dX12_floor_6 : decode cX12_floor 6 = .ok (.idiv, 1) := by decide +kernel
theorem dX12_floor_7 : decode cX12_floor 7 = .ok (.istore_n 3, 1) := by decide +kernel
theorem dX12_floor_8 : decode cX12_floor 8 = .ok (.iload_n 0, 1) := by decide +kernel
theorem dX12_floor_9 : decode cX12_floor 9 = .ok (.iload_n 2, 1) := by decide +kernel
theorem dX12_floor_10 : decode cX12_floor 10 = .ok (.irem, 1) := by decide +kernel
theorem dX12_floor_11 : decode cX12_floor 11 = .ok (.ifCond .ge 9, 3) := by decide +kernel
theorem dX12_floor_14 : decode cX12_floor 14 = .ok (.iload_n 3, 1) := by decide +kernel
theorem dX12_floor_15 : decode cX12_floor 15 = .ok (.iconst 1, 1) := by decide +kernel
theorem dX12_floor_16 : decode cX12_floor 16 = .ok (.isub, 1) := by decide +kernel
theorem dX12_floor_17 : decode cX12_floor 17 = .ok (.goto 4, 3) := by decide +kernel
theorem dX12_floor_20 : decode cX12_floor 20 = .ok (.iload_n 3, 1) := by decide +kernel
theorem dX12_floor_21 : decode cX12_floor 21 = .ok (.ireturn, 1) := by decide +kernel
theorem dX12_mirrored_0 : decode cX12_mirrored 0 = .ok (.aload_n 0, 1) := by decide +kernel
theorem dX12_mirrored_1 : decode cX12_mirrored 1 = .ok (.getfield 29, 3) := by decide +kernel
theorem dX12_mirrored_4 : decode cX12_mirrored 4 = .ok (.iload_n 1, 1) := by decide +kernel
theorem dX12_mirrored_5 : decode cX12_mirrored 5 = .ok (.iload_n 2, 1) := by decide +kernel
theorem dX12_mirrored_6 : decode cX12_mirrored 6 = .ok (.if_icmp .ge 7, 3) := by decide +kernel
theorem dX12_mirrored_9 : decode cX12_mirrored 9 = .ok (.iload_n 1, 1) := by decide +kernel
theorem dX12_mirrored_10 : decode cX12_mirrored 10 = .ok (.goto 10, 3) := by decide +kernel
theorem dX12_mirrored_13 : decode cX12_mirrored 13 = .ok (.iconst 2, 1) := by decide +kernel
theorem dX12_mirrored_14 : decode cX12_mirrored 14 = .ok (.iload_n 2, 1) := by decide +kernel
theorem dX12_mirrored_15 : decode cX12_mirrored 15 = .ok (.imul, 1) := by decide +kernel
theorem dX12_mirrored_16 : decode cX12_mirrored 16 = .ok (.iconst 2, 1) := by decide +kernel
theorem dX12_mirrored_17 : decode cX12_mirrored 17 = .ok (.isub, 1) := by decide +kernel
theorem dX12_mirrored_18 : decode cX12_mirrored 18 = .ok (.iload_n 1, 1) := by decide +kernel
theorem dX12_mirrored_19 : decode cX12_mirrored 19 = .ok (.isub, 1) := by decide +kernel
theorem dX12_mirrored_20 : decode cX12_mirrored 20 = .ok (.iaload, 1) := by decide +kernel
theorem dX12_mirrored_21 : decode cX12_mirrored 21 = .ok (.ireturn, 1) := by decide +kernel
theorem dX12_detail_0 : decode cX12_detail 0 = .ok (.iload_n 1, 1) := by decide +kernel
theorem dX12_detail_1 : decode cX12_detail 1 = .ok (.ifCond .ge 7, 3) := by decide +kernel
theorem dX12_detail_4 : decode cX12_detail 4 = .ok (.iconst 0, 1) := by decide +kernel
theorem dX12_detail_5 : decode cX12_detail 5 = .ok (.goto 19, 3) := by decide +kernel
theorem dX12_detail_8 : decode cX12_detail 8 = .ok (.iload_n 1, 1) := by decide +kernel
theorem dX12_detail_9 : decode cX12_detail 9 = .ok (.iload_n 2, 1) := by decide +kernel
theorem dX12_detail_10 : decode cX12_detail 10 = .ok (.iconst 2, 1) := by decide +kernel
theorem dX12_detail_11 : decode cX12_detail 11 = .ok (.idiv, 1) := by decide +kernel
theorem dX12_detail_12 : decode cX12_detail 12 = .ok (.if_icmp .lt 11, 3) := by decide +kernel
theorem dX12_detail_15 : decode cX12_detail 15 = .ok (.iload_n 2, 1) := by decide +kernel
theorem dX12_detail_16 : decode cX12_detail 16 = .ok (.iconst 2, 1) := by decide +kernel
theorem dX12_detail_17 : decode cX12_detail 17 = .ok (.idiv, 1) := by decide +kernel
theorem dX12_detail_18 : decode cX12_detail 18 = .ok (.iconst 1, 1) := by decide +kernel
theorem dX12_detail_19 : decode cX12_detail 19 = .ok (.isub, 1) := by decide +kernel
theorem dX12_detail_20 : decode cX12_detail 20 = .ok (.goto 4, 3) := by decide +kernel
theorem dX12_detail_23 : decode cX12_detail 23 = .ok (.iload_n 1, 1) := by decide +kernel
theorem dX12_detail_24 : decode cX12_detail 24 = .ok (.istore_n 3, 1) := by decide +kernel
theorem dX12_detail_25 : decode cX12_detail 25 = .ok (.aload_n 0, 1) := by decide +kernel
theorem dX12_detail_26 : decode cX12_detail 26 = .ok (.getfield 29, 3) := by decide +kernel
theorem dX12_detail_29 : decode cX12_detail 29 = .ok (.iconst 2, 1) := by decide +kernel
theorem dX12_detail_30 : decode cX12_detail 30 = .ok (.iload_n 3, 1) := by decide +kernel
theorem dX12_detail_31 : decode cX12_detail 31 = .ok (.imul, 1) := by decide +kernel
theorem dX12_detail_32 : decode cX12_detail 32 = .ok (.iconst 1, 1) := by decide +kernel
theorem dX12_detail_33 : decode cX12_detail 33 = .ok (.iadd, 1) := by decide +kernel
theorem dX12_detail_34 : decode cX12_detail 34 = .ok (.iaload, 1) := by decide +kernel
theorem dX12_detail_35 : decode cX12_detail 35 = .ok (.aload_n 0, 1) := by decide +kernel
theorem dX12_detail_36 : decode cX12_detail 36 = .ok (.iconst 2, 1) := by decide +kernel
theorem dX12_detail_37 : decode cX12_detail 37 = .ok (.iload_n 3, 1) := by decide +kernel
theorem dX12_detail_38 : decode cX12_detail 38 = .ok (.imul, 1) := by decide +kernel
theorem dX12_detail_39 : decode cX12_detail 39 = .ok (.iload_n 2, 1) := by decide +kernel
theorem dX12_detail_40 : decode cX12_detail 40 = .ok (.invokevirtual 129, 3) := by decide +kernel
theorem dX12_detail_43 : decode cX12_detail 43 = .ok (.aload_n 0, 1) := by decide +kernel
theorem dX12_detail_44 : decode cX12_detail 44 = .ok (.iconst 2, 1) := by decide +kernel
theorem dX12_detail_45 : decode cX12_detail 45 = .ok (.iload_n 3, 1) := by decide +kernel
theorem dX12_detail_46 : decode cX12_detail 46 = .ok (.imul, 1) := by decide +kernel
theorem dX12_detail_47 : decode cX12_detail 47 = .ok (.iconst 2, 1) := by decide +kernel
theorem dX12_detail_48 : decode cX12_detail 48 = .ok (.iadd, 1) := by decide +kernel
theorem dX12_detail_49 : decode cX12_detail 49 = .ok (.iload_n 2, 1) := by decide +kernel
theorem dX12_detail_50 : decode cX12_detail 50 = .ok (.invokevirtual 129, 3) := by decide +kernel
theorem dX12_detail_53 : decode cX12_detail 53 = .ok (.iadd, 1) := by decide +kernel
theorem dX12_detail_54 : decode cX12_detail 54 = .ok (.iconst 1, 1) := by decide +kernel
theorem dX12_detail_55 : decode cX12_detail 55 = .ok (.invokestatic 133, 3) := by decide +kernel
theorem dX12_detail_58 : decode cX12_detail 58 = .ok (.isub, 1) := by decide +kernel
theorem dX12_detail_59 : decode cX12_detail 59 = .ok (.ireturn, 1) := by decide +kernel
theorem dX12_forward_0 : decode cX12_forward 0 = .ok (.iload_n 1, 1) := by decide +kernel
theorem dX12_forward_1 : decode cX12_forward 1 = .ok (.iconst 1, 1) := by decide +kernel
theorem dX12_forward_2 : decode cX12_forward 2 = .ok (.iadd, 1) := by decide +kernel
theorem dX12_forward_3 : decode cX12_forward 3 = .ok (.iconst 2, 1) := by decide +kernel
theorem dX12_forward_4 : decode cX12_forward 4 = .ok (.idiv, 1) := by decide +kernel
theorem dX12_forward_5 : decode cX12_forward 5 = .ok (.istore_n 2, 1) := by decide +kernel
theorem dX12_forward_6 : decode cX12_forward 6 = .ok (.iconst 0, 1) := by decide +kernel
theorem dX12_forward_7 : decode cX12_forward 7 = .ok (.istore_n 3, 1) := by decide +kernel
theorem dX12_forward_8 : decode cX12_forward 8 = .ok (.iload_n 3, 1) := by decide +kernel
theorem dX12_forward_9 : decode cX12_forward 9 = .ok (.iload_n 2, 1) := by decide +kernel
theorem dX12_forward_10 : decode cX12_forward 10 = .ok (.if_icmp .ge 59, 3) := by decide +kernel
theorem dX12_forward_13 : decode cX12_forward 13 = .ok (.aload_n 0, 1) := by decide +kernel
theorem dX12_forward_14 : decode cX12_forward 14 = .ok (.getfield 32, 3) := by decide +kernel
theorem dX12_forward_17 : decode cX12_forward 17 = .ok (.iload_n 3, 1) := by decide +kernel
theorem dX12_forward_18 : decode cX12_forward 18 = .ok (.iload_n 1, 1) := by decide +kernel
theorem dX12_forward_19 : decode cX12_forward 19 = .ok (.iconst 1, 1) := by decide +kernel
theorem dX12_forward_20 : decode cX12_forward 20 = .ok (.if_icmp .ne 12, 3) := by decide +kernel
theorem dX12_forward_23 : decode cX12_forward 23 = .ok (.aload_n 0, 1) := by decide +kernel
theorem dX12_forward_24 : decode cX12_forward 24 = .ok (.getfield 29, 3) := by decide +kernel
theorem dX12_forward_27 : decode cX12_forward 27 = .ok (.iconst 0, 1) := by decide +kernel
theorem dX12_forward_28 : decode cX12_forward 28 = .ok (.iaload, 1) := by decide +kernel
theorem dX12_forward_29 : decode cX12_forward 29 = .ok (.goto 33, 3) := by decide +kernel
theorem dX12_forward_32 : decode cX12_forward 32 = .ok (.aload_n 0, 1) := by decide +kernel
theorem dX12_forward_33 : decode cX12_forward 33 = .ok (.getfield 29, 3) := by decide +kernel
theorem dX12_forward_36 : decode cX12_forward 36 = .ok (.iconst 2, 1) := by decide +kernel
theorem dX12_forward_37 : decode cX12_forward 37 = .ok (.iload_n 3, 1) := by decide +kernel
theorem dX12_forward_38 : decode cX12_forward 38 = .ok (.imul, 1) := by decide +kernel
theorem dX12_forward_39 : decode cX12_forward 39 = .ok (.iaload, 1) := by decide +kernel
theorem dX12_forward_40 : decode cX12_forward 40 = .ok (.aload_n 0, 1) := by decide +kernel
theorem dX12_forward_41 : decode cX12_forward 41 = .ok (.iload_n 3, 1) := by decide +kernel
theorem dX12_forward_42 : decode cX12_forward 42 = .ok (.iconst 1, 1) := by decide +kernel
theorem dX12_forward_43 : decode cX12_forward 43 = .ok (.isub, 1) := by decide +kernel
theorem dX12_forward_44 : decode cX12_forward 44 = .ok (.iload_n 1, 1) := by decide +kernel
theorem dX12_forward_45 : decode cX12_forward 45 = .ok (.invokevirtual 136, 3) := by decide +kernel
theorem dX12_forward_48 : decode cX12_forward 48 = .ok (.aload_n 0, 1) := by decide +kernel
theorem dX12_forward_49 : decode cX12_forward 49 = .ok (.iload_n 3, 1) := by decide +kernel
theorem dX12_forward_50 : decode cX12_forward 50 = .ok (.iload_n 1, 1) := by decide +kernel
theorem dX12_forward_51 : decode cX12_forward 51 = .ok (.invokevirtual 136, 3) := by decide +kernel
theorem dX12_forward_54 : decode cX12_forward 54 = .ok (.iadd, 1) := by decide +kernel
theorem dX12_forward_55 : decode cX12_forward 55 = .ok (.iconst 2, 1) := by decide +kernel
theorem dX12_forward_56 : decode cX12_forward 56 = .ok (.iadd, 1) := by decide +kernel
theorem dX12_forward_57 : decode cX12_forward 57 = .ok (.iconst 2, 1) := by decide +kernel
theorem dX12_forward_58 : decode cX12_forward 58 = .ok (.invokestatic 133, 3) := by decide +kernel
theorem dX12_forward_61 : decode cX12_forward 61 = .ok (.iadd, 1) := by decide +kernel
theorem dX12_forward_62 : decode cX12_forward 62 = .ok (.iastore, 1) := by decide +kernel
theorem dX12_forward_63 : decode cX12_forward 63 = .ok (.iinc 3 1, 3) := by decide +kernel
theorem dX12_forward_66 : decode cX12_forward 66 = .ok (.goto (-58), 3) := by decide +kernel
theorem dX12_forward_69 : decode cX12_forward 69 = .ok (.iconst 0, 1) := by decide +kernel
theorem dX12_forward_70 : decode cX12_forward 70 = .ok (.istore_n 3, 1) := by decide +kernel
theorem dX12_forward_71 : decode cX12_forward 71 = .ok (.iload_n 3, 1) := by decide +kernel
theorem dX12_forward_72 : decode cX12_forward 72 = .ok (.iload_n 1, 1) := by decide +kernel
theorem dX12_forward_73 : decode cX12_forward 73 = .ok (.iconst 2, 1) := by decide +kernel
theorem dX12_forward_74 : decode cX12_forward 74 = .ok (.idiv, 1) := by decide +kernel
theorem dX12_forward_75 : decode cX12_forward 75 = .ok (.if_icmp .ge 23, 3) := by decide +kernel
theorem dX12_forward_78 : decode cX12_forward 78 = .ok (.aload_n 0, 1) := by decide +kernel
theorem dX12_forward_79 : decode cX12_forward 79 = .ok (.getfield 32, 3) := by decide +kernel
theorem dX12_forward_82 : decode cX12_forward 82 = .ok (.iload_n 2, 1) := by decide +kernel
theorem dX12_forward_83 : decode cX12_forward 83 = .ok (.iload_n 3, 1) := by decide +kernel
theorem dX12_forward_84 : decode cX12_forward 84 = .ok (.iadd, 1) := by decide +kernel
theorem dX12_forward_85 : decode cX12_forward 85 = .ok (.aload_n 0, 1) := by decide +kernel
theorem dX12_forward_86 : decode cX12_forward 86 = .ok (.iload_n 3, 1) := by decide +kernel
theorem dX12_forward_87 : decode cX12_forward 87 = .ok (.iload_n 1, 1) := by decide +kernel
theorem dX12_forward_88 : decode cX12_forward 88 = .ok (.invokevirtual 136, 3) := by decide +kernel
theorem dX12_forward_91 : decode cX12_forward 91 = .ok (.iastore, 1) := by decide +kernel
theorem dX12_forward_92 : decode cX12_forward 92 = .ok (.iinc 3 1, 3) := by decide +kernel
theorem dX12_forward_95 : decode cX12_forward 95 = .ok (.goto (-24), 3) := by decide +kernel
theorem dX12_forward_98 : decode cX12_forward 98 = .ok (.return_, 1) := by decide +kernel
theorem dX12_given_0 : decode cX12_given 0 = .ok (.iload_n 1, 1) := by decide +kernel
theorem dX12_given_1 : decode cX12_given 1 = .ok (.ifCond .ge 7, 3) := by decide +kernel
theorem dX12_given_4 : decode cX12_given 4 = .ok (.iconst 0, 1) := by decide +kernel
theorem dX12_given_5 : decode cX12_given 5 = .ok (.goto 19, 3) := by decide +kernel
theorem dX12_given_8 : decode cX12_given 8 = .ok (.iload_n 1, 1) := by decide +kernel
theorem dX12_given_9 : decode cX12_given 9 = .ok (.iload_n 2, 1) := by decide +kernel
theorem dX12_given_10 : decode cX12_given 10 = .ok (.iconst 2, 1) := by decide +kernel
theorem dX12_given_11 : decode cX12_given 11 = .ok (.idiv, 1) := by decide +kernel
theorem dX12_given_12 : decode cX12_given 12 = .ok (.if_icmp .lt 11, 3) := by decide +kernel
theorem dX12_given_15 : decode cX12_given 15 = .ok (.iload_n 2, 1) := by decide +kernel
theorem dX12_given_16 : decode cX12_given 16 = .ok (.iconst 2, 1) := by decide +kernel
theorem dX12_given_17 : decode cX12_given 17 = .ok (.idiv, 1) := by decide +kernel
theorem dX12_given_18 : decode cX12_given 18 = .ok (.iconst 1, 1) := by decide +kernel
theorem dX12_given_19 : decode cX12_given 19 = .ok (.isub, 1) := by decide +kernel
theorem dX12_given_20 : decode cX12_given 20 = .ok (.goto 4, 3) := by decide +kernel
theorem dX12_given_23 : decode cX12_given 23 = .ok (.iload_n 1, 1) := by decide +kernel
theorem dX12_given_24 : decode cX12_given 24 = .ok (.istore_n 3, 1) := by decide +kernel
theorem dX12_given_25 : decode cX12_given 25 = .ok (.aload_n 0, 1) := by decide +kernel
theorem dX12_given_26 : decode cX12_given 26 = .ok (.getfield 29, 3) := by decide +kernel
theorem dX12_given_29 : decode cX12_given 29 = .ok (.iload_n 2, 1) := by decide +kernel
theorem dX12_given_30 : decode cX12_given 30 = .ok (.iconst 1, 1) := by decide +kernel
theorem dX12_given_31 : decode cX12_given 31 = .ok (.iadd, 1) := by decide +kernel
theorem dX12_given_32 : decode cX12_given 32 = .ok (.iconst 2, 1) := by decide +kernel
theorem dX12_given_33 : decode cX12_given 33 = .ok (.idiv, 1) := by decide +kernel
theorem dX12_given_34 : decode cX12_given 34 = .ok (.iload_n 3, 1) := by decide +kernel
theorem dX12_given_35 : decode cX12_given 35 = .ok (.iadd, 1) := by decide +kernel
theorem dX12_given_36 : decode cX12_given 36 = .ok (.iaload, 1) := by decide +kernel
theorem dX12_given_37 : decode cX12_given 37 = .ok (.ireturn, 1) := by decide +kernel
theorem dX12_backward_0 : decode cX12_backward 0 = .ok (.iload_n 1, 1) := by decide +kernel
theorem dX12_backward_1 : decode cX12_backward 1 = .ok (.iconst 1, 1) := by decide +kernel
theorem dX12_backward_2 : decode cX12_backward 2 = .ok (.iadd, 1) := by decide +kernel
theorem dX12_backward_3 : decode cX12_backward 3 = .ok (.iconst 2, 1) := by decide +kernel
theorem dX12_backward_4 : decode cX12_backward 4 = .ok (.idiv, 1) := by decide +kernel
theorem dX12_backward_5 : decode cX12_backward 5 = .ok (.istore_n 2, 1) := by decide +kernel
theorem dX12_backward_6 : decode cX12_backward 6 = .ok (.iconst 0, 1) := by decide +kernel
theorem dX12_backward_7 : decode cX12_backward 7 = .ok (.istore_n 3, 1) := by decide +kernel
theorem dX12_backward_8 : decode cX12_backward 8 = .ok (.iload_n 3, 1) := by decide +kernel
theorem dX12_backward_9 : decode cX12_backward 9 = .ok (.iload_n 2, 1) := by decide +kernel
theorem dX12_backward_10 : decode cX12_backward 10 = .ok (.if_icmp .ge 59, 3) := by decide +kernel
theorem dX12_backward_13 : decode cX12_backward 13 = .ok (.aload_n 0, 1) := by decide +kernel
theorem dX12_backward_14 : decode cX12_backward 14 = .ok (.getfield 32, 3) := by decide +kernel
theorem dX12_backward_17 : decode cX12_backward 17 = .ok (.iconst 2, 1) := by decide +kernel
theorem dX12_backward_18 : decode cX12_backward 18 = .ok (.iload_n 3, 1) := by decide +kernel
theorem dX12_backward_19 : decode cX12_backward 19 = .ok (.imul, 1) := by decide +kernel
theorem dX12_backward_20 : decode cX12_backward 20 = .ok (.iload_n 1, 1) := by decide +kernel
theorem dX12_backward_21 : decode cX12_backward 21 = .ok (.iconst 1, 1) := by decide +kernel
theorem dX12_backward_22 : decode cX12_backward 22 = .ok (.if_icmp .ne 12, 3) := by decide +kernel
theorem dX12_backward_25 : decode cX12_backward 25 = .ok (.aload_n 0, 1) := by decide +kernel
theorem dX12_backward_26 : decode cX12_backward 26 = .ok (.getfield 29, 3) := by decide +kernel
theorem dX12_backward_29 : decode cX12_backward 29 = .ok (.iconst 0, 1) := by decide +kernel
theorem dX12_backward_30 : decode cX12_backward 30 = .ok (.iaload, 1) := by decide +kernel
theorem dX12_backward_31 : decode cX12_backward 31 = .ok (.goto 31, 3) := by decide +kernel
theorem dX12_backward_34 : decode cX12_backward 34 = .ok (.aload_n 0, 1) := by decide +kernel
theorem dX12_backward_35 : decode cX12_backward 35 = .ok (.getfield 29, 3) := by decide +kernel
theorem dX12_backward_38 : decode cX12_backward 38 = .ok (.iload_n 3, 1) := by decide +kernel
theorem dX12_backward_39 : decode cX12_backward 39 = .ok (.iaload, 1) := by decide +kernel
theorem dX12_backward_40 : decode cX12_backward 40 = .ok (.aload_n 0, 1) := by decide +kernel
theorem dX12_backward_41 : decode cX12_backward 41 = .ok (.iload_n 3, 1) := by decide +kernel
theorem dX12_backward_42 : decode cX12_backward 42 = .ok (.iconst 1, 1) := by decide +kernel
theorem dX12_backward_43 : decode cX12_backward 43 = .ok (.isub, 1) := by decide +kernel
theorem dX12_backward_44 : decode cX12_backward 44 = .ok (.iload_n 1, 1) := by decide +kernel
theorem dX12_backward_45 : decode cX12_backward 45 = .ok (.invokevirtual 139, 3) := by decide +kernel
theorem dX12_backward_48 : decode cX12_backward 48 = .ok (.aload_n 0, 1) := by decide +kernel
theorem dX12_backward_49 : decode cX12_backward 49 = .ok (.iload_n 3, 1) := by decide +kernel
theorem dX12_backward_50 : decode cX12_backward 50 = .ok (.iload_n 1, 1) := by decide +kernel
theorem dX12_backward_51 : decode cX12_backward 51 = .ok (.invokevirtual 139, 3) := by decide +kernel
theorem dX12_backward_54 : decode cX12_backward 54 = .ok (.iadd, 1) := by decide +kernel
theorem dX12_backward_55 : decode cX12_backward 55 = .ok (.iconst 2, 1) := by decide +kernel
theorem dX12_backward_56 : decode cX12_backward 56 = .ok (.iadd, 1) := by decide +kernel
theorem dX12_backward_57 : decode cX12_backward 57 = .ok (.iconst 2, 1) := by decide +kernel
theorem dX12_backward_58 : decode cX12_backward 58 = .ok (.invokestatic 133, 3) := by decide +kernel
theorem dX12_backward_61 : decode cX12_backward 61 = .ok (.isub, 1) := by decide +kernel
theorem dX12_backward_62 : decode cX12_backward 62 = .ok (.iastore, 1) := by decide +kernel
theorem dX12_backward_63 : decode cX12_backward 63 = .ok (.iinc 3 1, 3) := by decide +kernel
theorem dX12_backward_66 : decode cX12_backward 66 = .ok (.goto (-58), 3) := by decide +kernel
theorem dX12_backward_69 : decode cX12_backward 69 = .ok (.iconst 0, 1) := by decide +kernel
theorem dX12_backward_70 : decode cX12_backward 70 = .ok (.istore_n 3, 1) := by decide +kernel
theorem dX12_backward_71 : decode cX12_backward 71 = .ok (.iload_n 3, 1) := by decide +kernel
theorem dX12_backward_72 : decode cX12_backward 72 = .ok (.iload_n 1, 1) := by decide +kernel
theorem dX12_backward_73 : decode cX12_backward 73 = .ok (.iconst 2, 1) := by decide +kernel
theorem dX12_backward_74 : decode cX12_backward 74 = .ok (.idiv, 1) := by decide +kernel
theorem dX12_backward_75 : decode cX12_backward 75 = .ok (.if_icmp .ge 68, 3) := by decide +kernel
theorem dX12_backward_78 : decode cX12_backward 78 = .ok (.iconst 2, 1) := by decide +kernel
theorem dX12_backward_79 : decode cX12_backward 79 = .ok (.iload_n 3, 1) := by decide +kernel
theorem dX12_backward_80 : decode cX12_backward 80 = .ok (.imul, 1) := by decide +kernel
theorem dX12_backward_81 : decode cX12_backward 81 = .ok (.iconst 2, 1) := by decide +kernel
theorem dX12_backward_82 : decode cX12_backward 82 = .ok (.iadd, 1) := by decide +kernel
theorem dX12_backward_83 : decode cX12_backward 83 = .ok (.iload_n 1, 1) := by decide +kernel
theorem dX12_backward_84 : decode cX12_backward 84 = .ok (.if_icmp .ge 11, 3) := by decide +kernel
theorem dX12_backward_87 : decode cX12_backward 87 = .ok (.iconst 2, 1) := by decide +kernel
theorem dX12_backward_88 : decode cX12_backward 88 = .ok (.iload_n 3, 1) := by decide +kernel
theorem dX12_backward_89 : decode cX12_backward 89 = .ok (.imul, 1) := by decide +kernel
theorem dX12_backward_90 : decode cX12_backward 90 = .ok (.iconst 2, 1) := by decide +kernel
theorem dX12_backward_91 : decode cX12_backward 91 = .ok (.iadd, 1) := by decide +kernel
theorem dX12_backward_92 : decode cX12_backward 92 = .ok (.goto 6, 3) := by decide +kernel
theorem dX12_backward_95 : decode cX12_backward 95 = .ok (.iload_n 1, 1) := by decide +kernel
theorem dX12_backward_96 : decode cX12_backward 96 = .ok (.iconst 2, 1) := by decide +kernel
theorem dX12_backward_97 : decode cX12_backward 97 = .ok (.isub, 1) := by decide +kernel
theorem dX12_backward_98 : decode cX12_backward 98 = .ok (.istore 4, 2) := by decide +kernel
theorem dX12_backward_100 : decode cX12_backward 100 = .ok (.aload_n 0, 1) := by decide +kernel
theorem dX12_backward_101 : decode cX12_backward 101 = .ok (.getfield 32, 3) := by decide +kernel
theorem dX12_backward_104 : decode cX12_backward 104 = .ok (.iconst 2, 1) := by decide +kernel
theorem dX12_backward_105 : decode cX12_backward 105 = .ok (.iload_n 3, 1) := by decide +kernel
theorem dX12_backward_106 : decode cX12_backward 106 = .ok (.imul, 1) := by decide +kernel
theorem dX12_backward_107 : decode cX12_backward 107 = .ok (.iconst 1, 1) := by decide +kernel
theorem dX12_backward_108 : decode cX12_backward 108 = .ok (.iadd, 1) := by decide +kernel
theorem dX12_backward_109 : decode cX12_backward 109 = .ok (.aload_n 0, 1) := by decide +kernel
theorem dX12_backward_110 : decode cX12_backward 110 = .ok (.iload_n 3, 1) := by decide +kernel
theorem dX12_backward_111 : decode cX12_backward 111 = .ok (.iload_n 1, 1) := by decide +kernel
theorem dX12_backward_112 : decode cX12_backward 112 = .ok (.invokevirtual 139, 3) := by decide +kernel
theorem dX12_backward_115 : decode cX12_backward 115 = .ok (.aload_n 0, 1) := by decide +kernel
theorem dX12_backward_116 : decode cX12_backward 116 = .ok (.getfield 32, 3) := by decide +kernel
theorem dX12_backward_119 : decode cX12_backward 119 = .ok (.iconst 2, 1) := by decide +kernel
theorem dX12_backward_120 : decode cX12_backward 120 = .ok (.iload_n 3, 1) := by decide +kernel
theorem dX12_backward_121 : decode cX12_backward 121 = .ok (.imul, 1) := by decide +kernel
theorem dX12_backward_122 : decode cX12_backward 122 = .ok (.iaload, 1) := by decide +kernel
theorem dX12_backward_123 : decode cX12_backward 123 = .ok (.aload_n 0, 1) := by decide +kernel
theorem dX12_backward_124 : decode cX12_backward 124 = .ok (.getfield 32, 3) := by decide +kernel
theorem dX12_backward_127 : decode cX12_backward 127 = .ok (.iload 4, 2) := by decide +kernel
theorem dX12_backward_129 : decode cX12_backward 129 = .ok (.iaload, 1) := by decide +kernel
theorem dX12_backward_130 : decode cX12_backward 130 = .ok (.iadd, 1) := by decide +kernel
theorem dX12_backward_131 : decode cX12_backward 131 = .ok (.iconst 1, 1) := by decide +kernel
theorem dX12_backward_132 : decode cX12_backward 132 = .ok (.invokestatic 133, 3) := by decide +kernel
theorem dX12_backward_135 : decode cX12_backward 135 = .ok (.iadd, 1) := by decide +kernel
theorem dX12_backward_136 : decode cX12_backward 136 = .ok (.iastore, 1) := by decide +kernel
theorem dX12_backward_137 : decode cX12_backward 137 = .ok (.iinc 3 1, 3) := by decide +kernel
theorem dX12_backward_140 : decode cX12_backward 140 = .ok (.goto (-69), 3) := by decide +kernel
theorem dX12_backward_143 : decode cX12_backward 143 = .ok (.return_, 1) := by decide +kernel
theorem dX12_work_0 : decode cX12_work 0 = .ok (.iconst 0, 1) := by decide +kernel
theorem dX12_work_1 : decode cX12_work 1 = .ok (.istore 5, 2) := by decide +kernel
theorem dX12_work_3 : decode cX12_work 3 = .ok (.iload 5, 2) := by decide +kernel
theorem dX12_work_5 : decode cX12_work 5 = .ok (.iload_n 3, 1) := by decide +kernel
theorem dX12_work_6 : decode cX12_work 6 = .ok (.if_icmp .ge 27, 3) := by decide +kernel
theorem dX12_work_9 : decode cX12_work 9 = .ok (.aload_n 0, 1) := by decide +kernel
theorem dX12_work_10 : decode cX12_work 10 = .ok (.getfield 29, 3) := by decide +kernel
theorem dX12_work_13 : decode cX12_work 13 = .ok (.iload 5, 2) := by decide +kernel
theorem dX12_work_15 : decode cX12_work 15 = .ok (.aload_n 0, 1) := by decide +kernel
theorem dX12_work_16 : decode cX12_work 16 = .ok (.getfield 26, 3) := by decide +kernel
theorem dX12_work_19 : decode cX12_work 19 = .ok (.iload_n 1, 1) := by decide +kernel
theorem dX12_work_20 : decode cX12_work 20 = .ok (.iload_n 2, 1) := by decide +kernel
theorem dX12_work_21 : decode cX12_work 21 = .ok (.iload 5, 2) := by decide +kernel
theorem dX12_work_23 : decode cX12_work 23 = .ok (.imul, 1) := by decide +kernel
theorem dX12_work_24 : decode cX12_work 24 = .ok (.iadd, 1) := by decide +kernel
theorem dX12_work_25 : decode cX12_work 25 = .ok (.iaload, 1) := by decide +kernel
theorem dX12_work_26 : decode cX12_work 26 = .ok (.iastore, 1) := by decide +kernel
theorem dX12_work_27 : decode cX12_work 27 = .ok (.iinc 5 1, 3) := by decide +kernel
theorem dX12_work_30 : decode cX12_work 30 = .ok (.goto (-27), 3) := by decide +kernel
theorem dX12_work_33 : decode cX12_work 33 = .ok (.iload 4, 2) := by decide +kernel
theorem dX12_work_35 : decode cX12_work 35 = .ok (.ifCond .eq 11, 3) := by decide +kernel
theorem dX12_work_38 : decode cX12_work 38 = .ok (.aload_n 0, 1) := by decide +kernel
theorem dX12_work_39 : decode cX12_work 39 = .ok (.iload_n 3, 1) := by decide +kernel
theorem dX12_work_40 : decode cX12_work 40 = .ok (.invokevirtual 142, 3) := by decide +kernel
theorem dX12_work_43 : decode cX12_work 43 = .ok (.goto 8, 3) := by decide +kernel
theorem dX12_work_46 : decode cX12_work 46 = .ok (.aload_n 0, 1) := by decide +kernel
theorem dX12_work_47 : decode cX12_work 47 = .ok (.iload_n 3, 1) := by decide +kernel
theorem dX12_work_48 : decode cX12_work 48 = .ok (.invokevirtual 146, 3) := by decide +kernel
theorem dX12_work_51 : decode cX12_work 51 = .ok (.iconst 0, 1) := by decide +kernel
theorem dX12_work_52 : decode cX12_work 52 = .ok (.istore 5, 2) := by decide +kernel
theorem dX12_work_54 : decode cX12_work 54 = .ok (.iload 5, 2) := by decide +kernel
theorem dX12_work_56 : decode cX12_work 56 = .ok (.iload_n 3, 1) := by decide +kernel
theorem dX12_work_57 : decode cX12_work 57 = .ok (.if_icmp .ge 27, 3) := by decide +kernel
theorem dX12_work_60 : decode cX12_work 60 = .ok (.aload_n 0, 1) := by decide +kernel
theorem dX12_work_61 : decode cX12_work 61 = .ok (.getfield 26, 3) := by decide +kernel
theorem dX12_work_64 : decode cX12_work 64 = .ok (.iload_n 1, 1) := by decide +kernel
theorem dX12_work_65 : decode cX12_work 65 = .ok (.iload_n 2, 1) := by decide +kernel
theorem dX12_work_66 : decode cX12_work 66 = .ok (.iload 5, 2) := by decide +kernel
theorem dX12_work_68 : decode cX12_work 68 = .ok (.imul, 1) := by decide +kernel
theorem dX12_work_69 : decode cX12_work 69 = .ok (.iadd, 1) := by decide +kernel
theorem dX12_work_70 : decode cX12_work 70 = .ok (.aload_n 0, 1) := by decide +kernel
theorem dX12_work_71 : decode cX12_work 71 = .ok (.getfield 32, 3) := by decide +kernel
theorem dX12_work_74 : decode cX12_work 74 = .ok (.iload 5, 2) := by decide +kernel
theorem dX12_work_76 : decode cX12_work 76 = .ok (.iaload, 1) := by decide +kernel
theorem dX12_work_77 : decode cX12_work 77 = .ok (.iastore, 1) := by decide +kernel
theorem dX12_work_78 : decode cX12_work 78 = .ok (.iinc 5 1, 3) := by decide +kernel
theorem dX12_work_81 : decode cX12_work 81 = .ok (.goto (-27), 3) := by decide +kernel
theorem dX12_work_84 : decode cX12_work 84 = .ok (.return_, 1) := by decide +kernel
theorem dX12_columns_0 : decode cX12_columns 0 = .ok (.iconst 0, 1) := by decide +kernel
theorem dX12_columns_1 : decode cX12_columns 1 = .ok (.istore 4, 2) := by decide +kernel
theorem dX12_columns_3 : decode cX12_columns 3 = .ok (.iload 4, 2) := by decide +kernel
theorem dX12_columns_5 : decode cX12_columns 5 = .ok (.iload_n 1, 1) := by decide +kernel
theorem dX12_columns_6 : decode cX12_columns 6 = .ok (.if_icmp .ge 19, 3) := by decide +kernel
theorem dX12_columns_9 : decode cX12_columns 9 = .ok (.aload_n 0, 1) := by decide +kernel
theorem dX12_columns_10 : decode cX12_columns 10 = .ok (.iload 4, 2) := by decide +kernel
theorem dX12_columns_12 : decode cX12_columns 12 = .ok (.bipush 8, 2) := by decide +kernel
theorem dX12_columns_14 : decode cX12_columns 14 = .ok (.iload_n 2, 1) := by decide +kernel
theorem dX12_columns_15 : decode cX12_columns 15 = .ok (.iload_n 3, 1) := by decide +kernel
theorem dX12_columns_16 : decode cX12_columns 16 = .ok (.invokevirtual 149, 3) := by decide +kernel
theorem dX12_columns_19 : decode cX12_columns 19 = .ok (.iinc 4 1, 3) := by decide +kernel
theorem dX12_columns_22 : decode cX12_columns 22 = .ok (.goto (-19), 3) := by decide +kernel
theorem dX12_columns_25 : decode cX12_columns 25 = .ok (.return_, 1) := by decide +kernel
theorem dX12_rows_0 : decode cX12_rows 0 = .ok (.iconst 0, 1) := by decide +kernel
theorem dX12_rows_1 : decode cX12_rows 1 = .ok (.istore 4, 2) := by decide +kernel
theorem dX12_rows_3 : decode cX12_rows 3 = .ok (.iload 4, 2) := by decide +kernel
theorem dX12_rows_5 : decode cX12_rows 5 = .ok (.iload_n 2, 1) := by decide +kernel
theorem dX12_rows_6 : decode cX12_rows 6 = .ok (.if_icmp .ge 21, 3) := by decide +kernel
theorem dX12_rows_9 : decode cX12_rows 9 = .ok (.aload_n 0, 1) := by decide +kernel
theorem dX12_rows_10 : decode cX12_rows 10 = .ok (.bipush 8, 2) := by decide +kernel
theorem dX12_rows_12 : decode cX12_rows 12 = .ok (.iload 4, 2) := by decide +kernel
theorem dX12_rows_14 : decode cX12_rows 14 = .ok (.imul, 1) := by decide +kernel
theorem dX12_rows_15 : decode cX12_rows 15 = .ok (.iconst 1, 1) := by decide +kernel
theorem dX12_rows_16 : decode cX12_rows 16 = .ok (.iload_n 1, 1) := by decide +kernel
theorem dX12_rows_17 : decode cX12_rows 17 = .ok (.iload_n 3, 1) := by decide +kernel
theorem dX12_rows_18 : decode cX12_rows 18 = .ok (.invokevirtual 149, 3) := by decide +kernel
theorem dX12_rows_21 : decode cX12_rows 21 = .ok (.iinc 4 1, 3) := by decide +kernel
theorem dX12_rows_24 : decode cX12_rows 24 = .ok (.goto (-21), 3) := by decide +kernel
theorem dX12_rows_27 : decode cX12_rows 27 = .ok (.return_, 1) := by decide +kernel
theorem dX12_left_0 : decode cX12_left 0 = .ok (.iload_n 0, 1) := by decide +kernel
theorem dX12_left_1 : decode cX12_left 1 = .ok (.iconst 1, 1) := by decide +kernel
theorem dX12_left_2 : decode cX12_left 2 = .ok (.iload_n 1, 1) := by decide +kernel
theorem dX12_left_3 : decode cX12_left 3 = .ok (.ishl, 1) := by decide +kernel
theorem dX12_left_4 : decode cX12_left 4 = .ok (.iadd, 1) := by decide +kernel
theorem dX12_left_5 : decode cX12_left 5 = .ok (.iconst 1, 1) := by decide +kernel
theorem dX12_left_6 : decode cX12_left 6 = .ok (.isub, 1) := by decide +kernel
theorem dX12_left_7 : decode cX12_left 7 = .ok (.iload_n 1, 1) := by decide +kernel
theorem dX12_left_8 : decode cX12_left 8 = .ok (.ishr, 1) := by decide +kernel
theorem dX12_left_9 : decode cX12_left 9 = .ok (.ireturn, 1) := by decide +kernel
theorem dX12_beBand_0 : decode cX12_beBand 0 = .ok (.aload_n 0, 1) := by decide +kernel
theorem dX12_beBand_1 : decode cX12_beBand 1 = .ok (.getfield 35, 3) := by decide +kernel
theorem dX12_beBand_4 : decode cX12_beBand 4 = .ok (.iload_n 1, 1) := by decide +kernel
theorem dX12_beBand_5 : decode cX12_beBand 5 = .ok (.iload_n 2, 1) := by decide +kernel
theorem dX12_beBand_6 : decode cX12_beBand 6 = .ok (.iastore, 1) := by decide +kernel
theorem dX12_beBand_7 : decode cX12_beBand 7 = .ok (.aload_n 0, 1) := by decide +kernel
theorem dX12_beBand_8 : decode cX12_beBand 8 = .ok (.getfield 38, 3) := by decide +kernel
theorem dX12_beBand_11 : decode cX12_beBand 11 = .ok (.iload_n 1, 1) := by decide +kernel
theorem dX12_beBand_12 : decode cX12_beBand 12 = .ok (.iload_n 3, 1) := by decide +kernel
theorem dX12_beBand_13 : decode cX12_beBand 13 = .ok (.iastore, 1) := by decide +kernel
theorem dX12_beBand_14 : decode cX12_beBand 14 = .ok (.aload_n 0, 1) := by decide +kernel
theorem dX12_beBand_15 : decode cX12_beBand 15 = .ok (.getfield 41, 3) := by decide +kernel
theorem dX12_beBand_18 : decode cX12_beBand 18 = .ok (.iload_n 1, 1) := by decide +kernel
theorem dX12_beBand_19 : decode cX12_beBand 19 = .ok (.iload 4, 2) := by decide +kernel
theorem dX12_beBand_21 : decode cX12_beBand 21 = .ok (.iastore, 1) := by decide +kernel
theorem dX12_beBand_22 : decode cX12_beBand 22 = .ok (.aload_n 0, 1) := by decide +kernel
theorem dX12_beBand_23 : decode cX12_beBand 23 = .ok (.getfield 44, 3) := by decide +kernel
theorem dX12_beBand_26 : decode cX12_beBand 26 = .ok (.iload_n 1, 1) := by decide +kernel
theorem dX12_beBand_27 : decode cX12_beBand 27 = .ok (.iconst 0, 1) := by decide +kernel
theorem dX12_beBand_28 : decode cX12_beBand 28 = .ok (.iastore, 1) := by decide +kernel
theorem dX12_beBand_29 : decode cX12_beBand 29 = .ok (.aload_n 0, 1) := by decide +kernel
theorem dX12_beBand_30 : decode cX12_beBand 30 = .ok (.getfield 54, 3) := by decide +kernel
theorem dX12_beBand_33 : decode cX12_beBand 33 = .ok (.iload_n 1, 1) := by decide +kernel
theorem dX12_beBand_34 : decode cX12_beBand 34 = .ok (.iconst 0, 1) := by decide +kernel
theorem dX12_beBand_35 : decode cX12_beBand 35 = .ok (.iastore, 1) := by decide +kernel
theorem dX12_beBand_36 : decode cX12_beBand 36 = .ok (.aload_n 0, 1) := by decide +kernel
theorem dX12_beBand_37 : decode cX12_beBand 37 = .ok (.getfield 57, 3) := by decide +kernel
theorem dX12_beBand_40 : decode cX12_beBand 40 = .ok (.iload_n 1, 1) := by decide +kernel
theorem dX12_beBand_41 : decode cX12_beBand 41 = .ok (.iconst 0, 1) := by decide +kernel
theorem dX12_beBand_42 : decode cX12_beBand 42 = .ok (.iastore, 1) := by decide +kernel
theorem dX12_beBand_43 : decode cX12_beBand 43 = .ok (.aload_n 0, 1) := by decide +kernel
theorem dX12_beBand_44 : decode cX12_beBand 44 = .ok (.getfield 60, 3) := by decide +kernel
theorem dX12_beBand_47 : decode cX12_beBand 47 = .ok (.iload_n 1, 1) := by decide +kernel
theorem dX12_beBand_48 : decode cX12_beBand 48 = .ok (.iconst 3, 1) := by decide +kernel
theorem dX12_beBand_49 : decode cX12_beBand 49 = .ok (.iastore, 1) := by decide +kernel
theorem dX12_beBand_50 : decode cX12_beBand 50 = .ok (.bipush 64, 2) := by decide +kernel
theorem dX12_beBand_52 : decode cX12_beBand 52 = .ok (.iload_n 1, 1) := by decide +kernel
theorem dX12_beBand_53 : decode cX12_beBand 53 = .ok (.imul, 1) := by decide +kernel
theorem dX12_beBand_54 : decode cX12_beBand 54 = .ok (.istore 5, 2) := by decide +kernel
theorem dX12_beBand_56 : decode cX12_beBand 56 = .ok (.iload 5, 2) := by decide +kernel
theorem dX12_beBand_58 : decode cX12_beBand 58 = .ok (.bipush 64, 2) := by decide +kernel
theorem dX12_beBand_60 : decode cX12_beBand 60 = .ok (.iload_n 1, 1) := by decide +kernel
theorem dX12_beBand_61 : decode cX12_beBand 61 = .ok (.imul, 1) := by decide +kernel
theorem dX12_beBand_62 : decode cX12_beBand 62 = .ok (.bipush 64, 2) := by decide +kernel
theorem dX12_beBand_64 : decode cX12_beBand 64 = .ok (.iadd, 1) := by decide +kernel
theorem dX12_beBand_65 : decode cX12_beBand 65 = .ok (.if_icmp .ge 25, 3) := by decide +kernel
theorem dX12_beBand_68 : decode cX12_beBand 68 = .ok (.aload_n 0, 1) := by decide +kernel
theorem dX12_beBand_69 : decode cX12_beBand 69 = .ok (.getfield 47, 3) := by decide +kernel
theorem dX12_beBand_72 : decode cX12_beBand 72 = .ok (.iload 5, 2) := by decide +kernel
theorem dX12_beBand_74 : decode cX12_beBand 74 = .ok (.iconst 0, 1) := by decide +kernel
theorem dX12_beBand_75 : decode cX12_beBand 75 = .ok (.iastore, 1) := by decide +kernel
theorem dX12_beBand_76 : decode cX12_beBand 76 = .ok (.aload_n 0, 1) := by decide +kernel
theorem dX12_beBand_77 : decode cX12_beBand 77 = .ok (.getfield 50, 3) := by decide +kernel
theorem dX12_beBand_80 : decode cX12_beBand 80 = .ok (.iload 5, 2) := by decide +kernel
theorem dX12_beBand_82 : decode cX12_beBand 82 = .ok (.iconst 0, 1) := by decide +kernel
theorem dX12_beBand_83 : decode cX12_beBand 83 = .ok (.bastore, 1) := by decide +kernel
theorem dX12_beBand_84 : decode cX12_beBand 84 = .ok (.iinc 5 1, 3) := by decide +kernel
theorem dX12_beBand_87 : decode cX12_beBand 87 = .ok (.goto (-31), 3) := by decide +kernel
theorem dX12_beBand_90 : decode cX12_beBand 90 = .ok (.return_, 1) := by decide +kernel
theorem dX12_beBands_0 : decode cX12_beBands 0 = .ok (.aload_n 0, 1) := by decide +kernel
theorem dX12_beBands_1 : decode cX12_beBands 1 = .ok (.iload_n 1, 1) := by decide +kernel
theorem dX12_beBands_2 : decode cX12_beBands 2 = .ok (.iload_n 2, 1) := by decide +kernel
theorem dX12_beBands_3 : decode cX12_beBands 3 = .ok (.iload 4, 2) := by decide +kernel
theorem dX12_beBands_5 : decode cX12_beBands 5 = .ok (.invokestatic 153, 3) := by decide +kernel
theorem dX12_beBands_8 : decode cX12_beBands 8 = .ok (.iload_n 3, 1) := by decide +kernel
theorem dX12_beBands_9 : decode cX12_beBands 9 = .ok (.iload 4, 2) := by decide +kernel
theorem dX12_beBands_11 : decode cX12_beBands 11 = .ok (.invokestatic 153, 3) := by decide +kernel
theorem dX12_beBands_14 : decode cX12_beBands 14 = .ok (.iconst 0, 1) := by decide +kernel
theorem dX12_beBands_15 : decode cX12_beBands 15 = .ok (.invokevirtual 156, 3) := by decide +kernel
theorem dX12_beBands_18 : decode cX12_beBands 18 = .ok (.iconst 1, 1) := by decide +kernel
theorem dX12_beBands_19 : decode cX12_beBands 19 = .ok (.istore 5, 2) := by decide +kernel
theorem dX12_beBands_21 : decode cX12_beBands 21 = .ok (.iload 5, 2) := by decide +kernel
theorem dX12_beBands_23 : decode cX12_beBands 23 = .ok (.iload 4, 2) := by decide +kernel
theorem dX12_beBands_25 : decode cX12_beBands 25 = .ok (.if_icmp .gt 107, 3) := by decide +kernel
theorem dX12_beBands_28 : decode cX12_beBands 28 = .ok (.iload 4, 2) := by decide +kernel
theorem dX12_beBands_30 : decode cX12_beBands 30 = .ok (.iload 5, 2) := by decide +kernel
theorem dX12_beBands_32 : decode cX12_beBands 32 = .ok (.isub, 1) := by decide +kernel
theorem dX12_beBands_33 : decode cX12_beBands 33 = .ok (.istore 6, 2) := by decide +kernel
theorem dX12_beBands_35 : decode cX12_beBands 35 = .ok (.iload_n 2, 1) := by decide +kernel
theorem dX12_beBands_36 : decode cX12_beBands 36 = .ok (.iload 6, 2) := by decide +kernel
theorem dX12_beBands_38 : decode cX12_beBands 38 = .ok (.iconst 1, 1) := by decide +kernel
theorem dX12_beBands_39 : decode cX12_beBands 39 = .ok (.iadd, 1) := by decide +kernel
theorem dX12_beBands_40 : decode cX12_beBands 40 = .ok (.invokestatic 153, 3) := by decide +kernel
theorem dX12_beBands_43 : decode cX12_beBands 43 = .ok (.istore 7, 2) := by decide +kernel
theorem dX12_beBands_45 : decode cX12_beBands 45 = .ok (.iload_n 3, 1) := by decide +kernel
theorem dX12_beBands_46 : decode cX12_beBands 46 = .ok (.iload 6, 2) := by decide +kernel
theorem dX12_beBands_48 : decode cX12_beBands 48 = .ok (.iconst 1, 1) := by decide +kernel
theorem dX12_beBands_49 : decode cX12_beBands 49 = .ok (.iadd, 1) := by decide +kernel
theorem dX12_beBands_50 : decode cX12_beBands 50 = .ok (.invokestatic 153, 3) := by decide +kernel
theorem dX12_beBands_53 : decode cX12_beBands 53 = .ok (.istore 8, 2) := by decide +kernel
theorem dX12_beBands_55 : decode cX12_beBands 55 = .ok (.iload_n 2, 1) := by decide +kernel
theorem dX12_beBands_56 : decode cX12_beBands 56 = .ok (.iload 6, 2) := by decide +kernel
theorem dX12_beBands_58 : decode cX12_beBands 58 = .ok (.invokestatic 153, 3) := by decide +kernel
theorem dX12_beBands_61 : decode cX12_beBands 61 = .ok (.iload 7, 2) := by decide +kernel
theorem dX12_beBands_63 : decode cX12_beBands 63 = .ok (.isub, 1) := by decide +kernel
theorem dX12_beBands_64 : decode cX12_beBands 64 = .ok (.istore 9, 2) := by decide +kernel
theorem dX12_beBands_66 : decode cX12_beBands 66 = .ok (.iload_n 3, 1) := by decide +kernel
theorem dX12_beBands_67 : decode cX12_beBands 67 = .ok (.iload 6, 2) := by decide +kernel
theorem dX12_beBands_69 : decode cX12_beBands 69 = .ok (.invokestatic 153, 3) := by decide +kernel
theorem dX12_beBands_72 : decode cX12_beBands 72 = .ok (.iload 8, 2) := by decide +kernel
theorem dX12_beBands_74 : decode cX12_beBands 74 = .ok (.isub, 1) := by decide +kernel
theorem dX12_beBands_75 : decode cX12_beBands 75 = .ok (.istore 10, 2) := by decide +kernel
theorem dX12_beBands_77 : decode cX12_beBands 77 = .ok (.aload_n 0, 1) := by decide +kernel
theorem dX12_beBands_78 : decode cX12_beBands 78 = .ok (.iload_n 1, 1) := by decide +kernel
theorem dX12_beBands_79 : decode cX12_beBands 79 = .ok (.iconst 3, 1) := by decide +kernel
theorem dX12_beBands_80 : decode cX12_beBands 80 = .ok (.iload 5, 2) := by decide +kernel
theorem dX12_beBands_82 : decode cX12_beBands 82 = .ok (.imul, 1) := by decide +kernel
theorem dX12_beBands_83 : decode cX12_beBands 83 = .ok (.iadd, 1) := by decide +kernel
theorem dX12_beBands_84 : decode cX12_beBands 84 = .ok (.iconst 2, 1) := by decide +kernel
theorem dX12_beBands_85 : decode cX12_beBands 85 = .ok (.isub, 1) := by decide +kernel
theorem dX12_beBands_86 : decode cX12_beBands 86 = .ok (.iload 9, 2) := by decide +kernel
theorem dX12_beBands_88 : decode cX12_beBands 88 = .ok (.iload 8, 2) := by decide +kernel
theorem dX12_beBands_90 : decode cX12_beBands 90 = .ok (.iconst 1, 1) := by decide +kernel
theorem dX12_beBands_91 : decode cX12_beBands 91 = .ok (.invokevirtual 156, 3) := by decide +kernel
theorem dX12_beBands_94 : decode cX12_beBands 94 = .ok (.aload_n 0, 1) := by decide +kernel
theorem dX12_beBands_95 : decode cX12_beBands 95 = .ok (.iload_n 1, 1) := by decide +kernel
theorem dX12_beBands_96 : decode cX12_beBands 96 = .ok (.iconst 3, 1) := by decide +kernel
theorem dX12_beBands_97 : decode cX12_beBands 97 = .ok (.iload 5, 2) := by decide +kernel
theorem dX12_beBands_99 : decode cX12_beBands 99 = .ok (.imul, 1) := by decide +kernel
theorem dX12_beBands_100 : decode cX12_beBands 100 = .ok (.iadd, 1) := by decide +kernel
theorem dX12_beBands_101 : decode cX12_beBands 101 = .ok (.iconst 1, 1) := by decide +kernel
theorem dX12_beBands_102 : decode cX12_beBands 102 = .ok (.isub, 1) := by decide +kernel
theorem dX12_beBands_103 : decode cX12_beBands 103 = .ok (.iload 7, 2) := by decide +kernel
theorem dX12_beBands_105 : decode cX12_beBands 105 = .ok (.iload 10, 2) := by decide +kernel
theorem dX12_beBands_107 : decode cX12_beBands 107 = .ok (.iconst 0, 1) := by decide +kernel
theorem dX12_beBands_108 : decode cX12_beBands 108 = .ok (.invokevirtual 156, 3) := by decide +kernel
theorem dX12_beBands_111 : decode cX12_beBands 111 = .ok (.aload_n 0, 1) := by decide +kernel
theorem dX12_beBands_112 : decode cX12_beBands 112 = .ok (.iload_n 1, 1) := by decide +kernel
theorem dX12_beBands_113 : decode cX12_beBands 113 = .ok (.iconst 3, 1) := by decide +kernel
theorem dX12_beBands_114 : decode cX12_beBands 114 = .ok (.iload 5, 2) := by decide +kernel
theorem dX12_beBands_116 : decode cX12_beBands 116 = .ok (.imul, 1) := by decide +kernel
theorem dX12_beBands_117 : decode cX12_beBands 117 = .ok (.iadd, 1) := by decide +kernel
theorem dX12_beBands_118 : decode cX12_beBands 118 = .ok (.iload 9, 2) := by decide +kernel
theorem dX12_beBands_120 : decode cX12_beBands 120 = .ok (.iload 10, 2) := by decide +kernel
theorem dX12_beBands_122 : decode cX12_beBands 122 = .ok (.iconst 2, 1) := by decide +kernel
theorem dX12_beBands_123 : decode cX12_beBands 123 = .ok (.invokevirtual 156, 3) := by decide +kernel
theorem dX12_beBands_126 : decode cX12_beBands 126 = .ok (.iinc 5 1, 3) := by decide +kernel
theorem dX12_beBands_129 : decode cX12_beBands 129 = .ok (.goto (-108), 3) := by decide +kernel
theorem dX12_beBands_132 : decode cX12_beBands 132 = .ok (.return_, 1) := by decide +kernel
theorem dX12_corner_0 : decode cX12_corner 0 = .ok (.iload_n 0, 1) := by decide +kernel
theorem dX12_corner_1 : decode cX12_corner 1 = .ok (.ifCond .ne 5, 3) := by decide +kernel
theorem dX12_corner_4 : decode cX12_corner 4 = .ok (.iconst 0, 1) := by decide +kernel
theorem dX12_corner_5 : decode cX12_corner 5 = .ok (.ireturn, 1) := by decide +kernel
theorem dX12_corner_6 : decode cX12_corner 6 = .ok (.iload_n 3, 1) := by decide +kernel
theorem dX12_corner_7 : decode cX12_corner 7 = .ok (.iload_n 0, 1) := by decide +kernel
theorem dX12_corner_8 : decode cX12_corner 8 = .ok (.iconst 1, 1) := by decide +kernel
theorem dX12_corner_9 : decode cX12_corner 9 = .ok (.isub, 1) := by decide +kernel
theorem dX12_corner_10 : decode cX12_corner 10 = .ok (.iconst 3, 1) := by decide +kernel
theorem dX12_corner_11 : decode cX12_corner 11 = .ok (.idiv, 1) := by decide +kernel
theorem dX12_corner_12 : decode cX12_corner 12 = .ok (.isub, 1) := by decide +kernel
theorem dX12_corner_13 : decode cX12_corner 13 = .ok (.istore 4, 2) := by decide +kernel
theorem dX12_corner_15 : decode cX12_corner 15 = .ok (.iload_n 0, 1) := by decide +kernel
theorem dX12_corner_16 : decode cX12_corner 16 = .ok (.iconst 1, 1) := by decide +kernel
theorem dX12_corner_17 : decode cX12_corner 17 = .ok (.isub, 1) := by decide +kernel
theorem dX12_corner_18 : decode cX12_corner 18 = .ok (.iconst 3, 1) := by decide +kernel
theorem dX12_corner_19 : decode cX12_corner 19 = .ok (.irem, 1) := by decide +kernel
theorem dX12_corner_20 : decode cX12_corner 20 = .ok (.iconst 1, 1) := by decide +kernel
theorem dX12_corner_21 : decode cX12_corner 21 = .ok (.if_icmp .ne 7, 3) := by decide +kernel
theorem dX12_corner_24 : decode cX12_corner 24 = .ok (.iconst 0, 1) := by decide +kernel
theorem dX12_corner_25 : decode cX12_corner 25 = .ok (.goto 9, 3) := by decide +kernel
theorem dX12_corner_28 : decode cX12_corner 28 = .ok (.iload_n 1, 1) := by decide +kernel
theorem dX12_corner_29 : decode cX12_corner 29 = .ok (.iload 4, 2) := by decide +kernel
theorem dX12_corner_31 : decode cX12_corner 31 = .ok (.invokestatic 153, 3) := by decide +kernel
theorem dX12_corner_34 : decode cX12_corner 34 = .ok (.istore 5, 2) := by decide +kernel
theorem dX12_corner_36 : decode cX12_corner 36 = .ok (.iload_n 0, 1) := by decide +kernel
theorem dX12_corner_37 : decode cX12_corner 37 = .ok (.iconst 1, 1) := by decide +kernel
theorem dX12_corner_38 : decode cX12_corner 38 = .ok (.isub, 1) := by decide +kernel
theorem dX12_corner_39 : decode cX12_corner 39 = .ok (.iconst 3, 1) := by decide +kernel
theorem dX12_corner_40 : decode cX12_corner 40 = .ok (.irem, 1) := by decide +kernel
theorem dX12_corner_41 : decode cX12_corner 41 = .ok (.ifCond .ne 7, 3) := by decide +kernel
theorem dX12_corner_44 : decode cX12_corner 44 = .ok (.iconst 0, 1) := by decide +kernel
theorem dX12_corner_45 : decode cX12_corner 45 = .ok (.goto 9, 3) := by decide +kernel
theorem dX12_corner_48 : decode cX12_corner 48 = .ok (.iload_n 2, 1) := by decide +kernel
theorem dX12_corner_49 : decode cX12_corner 49 = .ok (.iload 4, 2) := by decide +kernel
theorem dX12_corner_51 : decode cX12_corner 51 = .ok (.invokestatic 153, 3) := by decide +kernel
theorem dX12_corner_54 : decode cX12_corner 54 = .ok (.istore 6, 2) := by decide +kernel
theorem dX12_corner_56 : decode cX12_corner 56 = .ok (.bipush 8, 2) := by decide +kernel
theorem dX12_corner_58 : decode cX12_corner 58 = .ok (.iload 6, 2) := by decide +kernel
theorem dX12_corner_60 : decode cX12_corner 60 = .ok (.imul, 1) := by decide +kernel
theorem dX12_corner_61 : decode cX12_corner 61 = .ok (.iload 5, 2) := by decide +kernel
theorem dX12_corner_63 : decode cX12_corner 63 = .ok (.iadd, 1) := by decide +kernel
theorem dX12_corner_64 : decode cX12_corner 64 = .ok (.ireturn, 1) := by decide +kernel
theorem dX12_passesOf_0 : decode cX12_passesOf 0 = .ok (.aload_n 0, 1) := by decide +kernel
theorem dX12_passesOf_1 : decode cX12_passesOf 1 = .ok (.getfield 44, 3) := by decide +kernel
theorem dX12_passesOf_4 : decode cX12_passesOf 4 = .ok (.iload_n 1, 1) := by decide +kernel
theorem dX12_passesOf_5 : decode cX12_passesOf 5 = .ok (.iaload, 1) := by decide +kernel
theorem dX12_passesOf_6 : decode cX12_passesOf 6 = .ok (.ifCond .ne 7, 3) := by decide +kernel
theorem dX12_passesOf_9 : decode cX12_passesOf 9 = .ok (.iconst 0, 1) := by decide +kernel
theorem dX12_passesOf_10 : decode cX12_passesOf 10 = .ok (.goto 13, 3) := by decide +kernel
theorem dX12_passesOf_13 : decode cX12_passesOf 13 = .ok (.iconst 3, 1) := by decide +kernel
theorem dX12_passesOf_14 : decode cX12_passesOf 14 = .ok (.aload_n 0, 1) := by decide +kernel
theorem dX12_passesOf_15 : decode cX12_passesOf 15 = .ok (.getfield 44, 3) := by decide +kernel
theorem dX12_passesOf_18 : decode cX12_passesOf 18 = .ok (.iload_n 1, 1) := by decide +kernel
theorem dX12_passesOf_19 : decode cX12_passesOf 19 = .ok (.iaload, 1) := by decide +kernel
theorem dX12_passesOf_20 : decode cX12_passesOf 20 = .ok (.imul, 1) := by decide +kernel
theorem dX12_passesOf_21 : decode cX12_passesOf 21 = .ok (.iconst 2, 1) := by decide +kernel
theorem dX12_passesOf_22 : decode cX12_passesOf 22 = .ok (.isub, 1) := by decide +kernel
theorem dX12_passesOf_23 : decode cX12_passesOf 23 = .ok (.ireturn, 1) := by decide +kernel
theorem dX12_forget_0 : decode cX12_forget 0 = .ok (.iconst 0, 1) := by decide +kernel
theorem dX12_forget_1 : decode cX12_forget 1 = .ok (.istore_n 1, 1) := by decide +kernel
theorem dX12_forget_2 : decode cX12_forget 2 = .ok (.iload_n 1, 1) := by decide +kernel
theorem dX12_forget_3 : decode cX12_forget 3 = .ok (.bipush 19, 2) := by decide +kernel
theorem dX12_forget_5 : decode cX12_forget 5 = .ok (.if_icmp .ge 52, 3) := by decide +kernel
theorem dX12_forget_8 : decode cX12_forget 8 = .ok (.aload_n 0, 1) := by decide +kernel
theorem dX12_forget_9 : decode cX12_forget 9 = .ok (.getfield 84, 3) := by decide +kernel
theorem dX12_forget_12 : decode cX12_forget 12 = .ok (.iload_n 1, 1) := by decide +kernel
theorem dX12_forget_13 : decode cX12_forget 13 = .ok (.iload_n 1, 1) := by decide +kernel
theorem dX12_forget_14 : decode cX12_forget 14 = .ok (.bipush 18, 2) := by decide +kernel
theorem dX12_forget_16 : decode cX12_forget 16 = .ok (.if_icmp .ne 8, 3) := by decide +kernel
theorem dX12_forget_19 : decode cX12_forget 19 = .ok (.bipush 46, 2) := by decide +kernel
theorem dX12_forget_21 : decode cX12_forget 21 = .ok (.goto 22, 3) := by decide +kernel
theorem dX12_forget_24 : decode cX12_forget 24 = .ok (.iload_n 1, 1) := by decide +kernel
theorem dX12_forget_25 : decode cX12_forget 25 = .ok (.bipush 17, 2) := by decide +kernel
theorem dX12_forget_27 : decode cX12_forget 27 = .ok (.if_icmp .ne 7, 3) := by decide +kernel
theorem dX12_forget_30 : decode cX12_forget 30 = .ok (.iconst 3, 1) := by decide +kernel
theorem dX12_forget_31 : decode cX12_forget 31 = .ok (.goto 12, 3) := by decide +kernel
theorem dX12_forget_34 : decode cX12_forget 34 = .ok (.iload_n 1, 1) := by decide +kernel
theorem dX12_forget_35 : decode cX12_forget 35 = .ok (.ifCond .ne 7, 3) := by decide +kernel
theorem dX12_forget_38 : decode cX12_forget 38 = .ok (.iconst 4, 1) := by decide +kernel
theorem dX12_forget_39 : decode cX12_forget 39 = .ok (.goto 4, 3) := by decide +kernel
theorem dX12_forget_42 : decode cX12_forget 42 = .ok (.iconst 0, 1) := by decide +kernel
theorem dX12_forget_43 : decode cX12_forget 43 = .ok (.iastore, 1) := by decide +kernel
theorem dX12_forget_44 : decode cX12_forget 44 = .ok (.aload_n 0, 1) := by decide +kernel
theorem dX12_forget_45 : decode cX12_forget 45 = .ok (.getfield 87, 3) := by decide +kernel
theorem dX12_forget_48 : decode cX12_forget 48 = .ok (.iload_n 1, 1) := by decide +kernel
theorem dX12_forget_49 : decode cX12_forget 49 = .ok (.iconst 0, 1) := by decide +kernel
theorem dX12_forget_50 : decode cX12_forget 50 = .ok (.iastore, 1) := by decide +kernel
theorem dX12_forget_51 : decode cX12_forget 51 = .ok (.iinc 1 1, 3) := by decide +kernel
theorem dX12_forget_54 : decode cX12_forget 54 = .ok (.goto (-52), 3) := by decide +kernel
theorem dX12_forget_57 : decode cX12_forget 57 = .ok (.return_, 1) := by decide +kernel
theorem dX12_learn_0 : decode cX12_learn 0 = .ok (.aload_n 0, 1) := by decide +kernel
theorem dX12_learn_1 : decode cX12_learn 1 = .ok (.getfield 84, 3) := by decide +kernel
theorem dX12_learn_4 : decode cX12_learn 4 = .ok (.iload_n 1, 1) := by decide +kernel
theorem dX12_learn_5 : decode cX12_learn 5 = .ok (.iaload, 1) := by decide +kernel
theorem dX12_learn_6 : decode cX12_learn 6 = .ok (.istore_n 3, 1) := by decide +kernel
theorem dX12_learn_7 : decode cX12_learn 7 = .ok (.iload_n 2, 1) := by decide +kernel
theorem dX12_learn_8 : decode cX12_learn 8 = .ok (.ifCond .eq 33, 3) := by decide +kernel
theorem dX12_learn_11 : decode cX12_learn 11 = .ok (.iload_n 3, 1) := by decide +kernel
theorem dX12_learn_12 : decode cX12_learn 12 = .ok (.ifCond .eq 15, 3) := by decide +kernel
theorem dX12_learn_15 : decode cX12_learn 15 = .ok (.iload_n 3, 1) := by decide +kernel
theorem dX12_learn_16 : decode cX12_learn 16 = .ok (.bipush 6, 2) := by decide +kernel
theorem dX12_learn_18 : decode cX12_learn 18 = .ok (.if_icmp .eq 9, 3) := by decide +kernel
theorem dX12_learn_21 : decode cX12_learn 21 = .ok (.iload_n 3, 1) := by decide +kernel
theorem dX12_learn_22 : decode cX12_learn 22 = .ok (.bipush 14, 2) := by decide +kernel
theorem dX12_learn_24 : decode cX12_learn 24 = .ok (.if_icmp .ne 17, 3) := by decide +kernel
theorem dX12_learn_27 : decode cX12_learn 27 = .ok (.aload_n 0, 1) := by decide +kernel
theorem dX12_learn_28 : decode cX12_learn 28 = .ok (.getfield 87, 3) := by decide +kernel
theorem dX12_learn_31 : decode cX12_learn 31 = .ok (.iload_n 1, 1) := by decide +kernel
theorem dX12_learn_32 : decode cX12_learn 32 = .ok (.iconst 1, 1) := by decide +kernel
theorem dX12_learn_33 : decode cX12_learn 33 = .ok (.aload_n 0, 1) := by decide +kernel
theorem dX12_learn_34 : decode cX12_learn 34 = .ok (.getfield 87, 3) := by decide +kernel
theorem dX12_learn_37 : decode cX12_learn 37 = .ok (.iload_n 1, 1) := by decide +kernel
theorem dX12_learn_38 : decode cX12_learn 38 = .ok (.iaload, 1) := by decide +kernel
theorem dX12_learn_39 : decode cX12_learn 39 = .ok (.isub, 1) := by decide +kernel
theorem dX12_learn_40 : decode cX12_learn 40 = .ok (.iastore, 1) := by decide +kernel
theorem dX12_learn_41 : decode cX12_learn 41 = .ok (.aload_n 0, 1) := by decide +kernel
theorem dX12_learn_42 : decode cX12_learn 42 = .ok (.getfield 84, 3) := by decide +kernel
theorem dX12_learn_45 : decode cX12_learn 45 = .ok (.iload_n 1, 1) := by decide +kernel
theorem dX12_learn_46 : decode cX12_learn 46 = .ok (.iload_n 2, 1) := by decide +kernel
theorem dX12_learn_47 : decode cX12_learn 47 = .ok (.ifCond .eq 15, 3) := by decide +kernel
theorem dX12_learn_50 : decode cX12_learn 50 = .ok (.aload_n 0, 1) := by decide +kernel
theorem dX12_learn_51 : decode cX12_learn 51 = .ok (.getfield 13, 3) := by decide +kernel
theorem dX12_learn_54 : decode cX12_learn 54 = .ok (.iload_n 3, 1) := by decide +kernel
theorem dX12_learn_55 : decode cX12_learn 55 = .ok (.iaload, 1) := by decide +kernel
theorem dX12_learn_56 : decode cX12_learn 56 = .ok (.bipush 100, 2) := by decide +kernel
theorem dX12_learn_58 : decode cX12_learn 58 = .ok (.irem, 1) := by decide +kernel
theorem dX12_learn_59 : decode cX12_learn 59 = .ok (.goto 12, 3) := by decide +kernel
theorem dX12_learn_62 : decode cX12_learn 62 = .ok (.aload_n 0, 1) := by decide +kernel
theorem dX12_learn_63 : decode cX12_learn 63 = .ok (.getfield 13, 3) := by decide +kernel
theorem dX12_learn_66 : decode cX12_learn 66 = .ok (.iload_n 3, 1) := by decide +kernel
theorem dX12_learn_67 : decode cX12_learn 67 = .ok (.iaload, 1) := by decide +kernel
theorem dX12_learn_68 : decode cX12_learn 68 = .ok (.bipush 100, 2) := by decide +kernel
theorem dX12_learn_70 : decode cX12_learn 70 = .ok (.idiv, 1) := by decide +kernel
theorem dX12_learn_71 : decode cX12_learn 71 = .ok (.iastore, 1) := by decide +kernel
theorem dX12_learn_72 : decode cX12_learn 72 = .ok (.return_, 1) := by decide +kernel
theorem dX12_beginTelling_0 : decode cX12_beginTelling 0 = .ok (.aload_n 0, 1) := by decide +kernel
theorem dX12_beginTelling_1 : decode cX12_beginTelling 1 = .ok (.invokevirtual 160, 3) := by decide +kernel
theorem dX12_beginTelling_4 : decode cX12_beginTelling 4 = .ok (.aload_n 0, 1) := by decide +kernel
theorem dX12_beginTelling_5 : decode cX12_beginTelling 5 = .ok (.iconst 0, 1) := by decide +kernel
theorem dX12_beginTelling_6 : decode cX12_beginTelling 6 = .ok (.putfield 163, 3) := by decide +kernel
theorem dX12_beginTelling_9 : decode cX12_beginTelling 9 = .ok (.aload_n 0, 1) := by decide +kernel
theorem dX12_beginTelling_10 : decode cX12_beginTelling 10 = .ok (.getfield 90, 3) := by decide +kernel
theorem dX12_beginTelling_13 : decode cX12_beginTelling 13 = .ok (.iconst 0, 1) := by decide +kernel
theorem dX12_beginTelling_14 : decode cX12_beginTelling 14 = .ok (.iconst 0, 1) := by decide +kernel
theorem dX12_beginTelling_15 : decode cX12_beginTelling 15 = .ok (.iastore, 1) := by decide +kernel
theorem dX12_beginTelling_16 : decode cX12_beginTelling 16 = .ok (.aload_n 0, 1) := by decide +kernel
theorem dX12_beginTelling_17 : decode cX12_beginTelling 17 = .ok (.iconst 1, 1) := by decide +kernel
theorem dX12_beginTelling_18 : decode cX12_beginTelling 18 = .ok (.putfield 166, 3) := by decide +kernel
theorem dX12_beginTelling_21 : decode cX12_beginTelling 21 = .ok (.aload_n 0, 1) := by decide +kernel
theorem dX12_beginTelling_22 : decode cX12_beginTelling 22 = .ok (.ldc2_w 169, 3) := by decide +kernel
theorem dX12_beginTelling_25 : decode cX12_beginTelling 25 = .ok (.putfield 171, 3) := by decide +kernel
theorem dX12_beginTelling_28 : decode cX12_beginTelling 28 = .ok (.aload_n 0, 1) := by decide +kernel
theorem dX12_beginTelling_29 : decode cX12_beginTelling 29 = .ok (.lconst 0, 1) := by decide +kernel
theorem dX12_beginTelling_30 : decode cX12_beginTelling 30 = .ok (.putfield 175, 3) := by decide +kernel
theorem dX12_beginTelling_33 : decode cX12_beginTelling 33 = .ok (.aload_n 0, 1) := by decide +kernel
theorem dX12_beginTelling_34 : decode cX12_beginTelling 34 = .ok (.bipush 12, 2) := by decide +kernel
theorem dX12_beginTelling_36 : decode cX12_beginTelling 36 = .ok (.putfield 178, 3) := by decide +kernel
theorem dX12_beginTelling_39 : decode cX12_beginTelling 39 = .ok (.return_, 1) := by decide +kernel
theorem dX12_putOut_0 : decode cX12_putOut 0 = .ok (.aload_n 0, 1) := by decide +kernel
theorem dX12_putOut_1 : decode cX12_putOut 1 = .ok (.getfield 90, 3) := by decide +kernel
theorem dX12_putOut_4 : decode cX12_putOut 4 = .ok (.aload_n 0, 1) := by decide +kernel
theorem dX12_putOut_5 : decode cX12_putOut 5 = .ok (.getfield 166, 3) := by decide +kernel
theorem dX12_putOut_8 : decode cX12_putOut 8 = .ok (.iconst 1, 1) := by decide +kernel
theorem dX12_putOut_9 : decode cX12_putOut 9 = .ok (.isub, 1) := by decide +kernel
theorem dX12_putOut_10 : decode cX12_putOut 10 = .ok (.iaload, 1) := by decide +kernel
theorem dX12_putOut_11 : decode cX12_putOut 11 = .ok (.sipush 255, 3) := by decide +kernel
theorem dX12_putOut_14 : decode cX12_putOut 14 = .ok (.if_icmp .eq 65, 3) := by decide +kernel
theorem dX12_putOut_17 : decode cX12_putOut 17 = .ok (.aload_n 0, 1) := by decide +kernel
theorem dX12_putOut_18 : decode cX12_putOut 18 = .ok (.getfield 175, 3) := by decide +kernel
theorem dX12_putOut_21 : decode cX12_putOut 21 = .ok (.ldc2_w 181, 3) := by decide +kernel
theorem dX12_putOut_24 : decode cX12_putOut 24 = .ok (.lcmp, 1) := by decide +kernel
theorem dX12_putOut_25 : decode cX12_putOut 25 = .ok (.ifCond .lt 54, 3) := by decide +kernel
theorem dX12_putOut_28 : decode cX12_putOut 28 = .ok (.aload_n 0, 1) := by decide +kernel
theorem dX12_putOut_29 : decode cX12_putOut 29 = .ok (.getfield 90, 3) := by decide +kernel
theorem dX12_putOut_32 : decode cX12_putOut 32 = .ok (.aload_n 0, 1) := by decide +kernel
theorem dX12_putOut_33 : decode cX12_putOut 33 = .ok (.getfield 166, 3) := by decide +kernel
theorem dX12_putOut_36 : decode cX12_putOut 36 = .ok (.iconst 1, 1) := by decide +kernel
theorem dX12_putOut_37 : decode cX12_putOut 37 = .ok (.isub, 1) := by decide +kernel
theorem dX12_putOut_38 : decode cX12_putOut 38 = .ok (.dup2, 1) := by decide +kernel
theorem dX12_putOut_39 : decode cX12_putOut 39 = .ok (.iaload, 1) := by decide +kernel
theorem dX12_putOut_40 : decode cX12_putOut 40 = .ok (.iconst 1, 1) := by decide +kernel
theorem dX12_putOut_41 : decode cX12_putOut 41 = .ok (.iadd, 1) := by decide +kernel
theorem dX12_putOut_42 : decode cX12_putOut 42 = .ok (.iastore, 1) := by decide +kernel
theorem dX12_putOut_43 : decode cX12_putOut 43 = .ok (.aload_n 0, 1) := by decide +kernel
theorem dX12_putOut_44 : decode cX12_putOut 44 = .ok (.aload_n 0, 1) := by decide +kernel
theorem dX12_putOut_45 : decode cX12_putOut 45 = .ok (.getfield 90, 3) := by decide +kernel
theorem dX12_putOut_48 : decode cX12_putOut 48 = .ok (.aload_n 0, 1) := by decide +kernel
theorem dX12_putOut_49 : decode cX12_putOut 49 = .ok (.getfield 166, 3) := by decide +kernel
theorem dX12_putOut_52 : decode cX12_putOut 52 = .ok (.iconst 1, 1) := by decide +kernel
theorem dX12_putOut_53 : decode cX12_putOut 53 = .ok (.isub, 1) := by decide +kernel
theorem dX12_putOut_54 : decode cX12_putOut 54 = .ok (.iaload, 1) := by decide +kernel
theorem dX12_putOut_55 : decode cX12_putOut 55 = .ok (.sipush 255, 3) := by decide +kernel
theorem dX12_putOut_58 : decode cX12_putOut 58 = .ok (.if_icmp .ne 14, 3) := by decide +kernel
theorem dX12_putOut_61 : decode cX12_putOut 61 = .ok (.aload_n 0, 1) := by decide +kernel
theorem dX12_putOut_62 : decode cX12_putOut 62 = .ok (.getfield 175, 3) := by decide +kernel
theorem dX12_putOut_65 : decode cX12_putOut 65 = .ok (.ldc2_w 181, 3) := by decide +kernel
theorem dX12_putOut_68 : decode cX12_putOut 68 = .ok (.lsub, 1) := by decide +kernel
theorem dX12_putOut_69 : decode cX12_putOut 69 = .ok (.goto 7, 3) := by decide +kernel
theorem dX12_putOut_72 : decode cX12_putOut 72 = .ok (.aload_n 0, 1) := by decide +kernel
theorem dX12_putOut_73 : decode cX12_putOut 73 = .ok (.getfield 175, 3) := by decide +kernel
theorem dX12_putOut_76 : decode cX12_putOut 76 = .ok (.putfield 175, 3) := by decide +kernel
theorem dX12_putOut_79 : decode cX12_putOut 79 = .ok (.aload_n 0, 1) := by decide +kernel
theorem dX12_putOut_80 : decode cX12_putOut 80 = .ok (.getfield 90, 3) := by decide +kernel
theorem dX12_putOut_83 : decode cX12_putOut 83 = .ok (.aload_n 0, 1) := by decide +kernel
theorem dX12_putOut_84 : decode cX12_putOut 84 = .ok (.getfield 166, 3) := by decide +kernel
theorem dX12_putOut_87 : decode cX12_putOut 87 = .ok (.iconst 1, 1) := by decide +kernel
theorem dX12_putOut_88 : decode cX12_putOut 88 = .ok (.isub, 1) := by decide +kernel
theorem dX12_putOut_89 : decode cX12_putOut 89 = .ok (.iaload, 1) := by decide +kernel
theorem dX12_putOut_90 : decode cX12_putOut 90 = .ok (.sipush 255, 3) := by decide +kernel
theorem dX12_putOut_93 : decode cX12_putOut 93 = .ok (.if_icmp .ne 7, 3) := by decide +kernel
theorem dX12_putOut_96 : decode cX12_putOut 96 = .ok (.iconst 1, 1) := by decide +kernel
theorem dX12_putOut_97 : decode cX12_putOut 97 = .ok (.goto 4, 3) := by decide +kernel
theorem dX12_putOut_100 : decode cX12_putOut 100 = .ok (.iconst 0, 1) := by decide +kernel
theorem dX12_putOut_101 : decode cX12_putOut 101 = .ok (.istore_n 1, 1) := by decide +kernel
theorem dX12_putOut_102 : decode cX12_putOut 102 = .ok (.iload_n 1, 1) := by decide +kernel
theorem dX12_putOut_103 : decode cX12_putOut 103 = .ok (.ifCond .eq 9, 3) := by decide +kernel
theorem dX12_putOut_106 : decode cX12_putOut 106 = .ok (.ldc2_w 183, 3) := by decide +kernel
theorem dX12_putOut_109 : decode cX12_putOut 109 = .ok (.goto 6, 3) := by decide +kernel
theorem dX12_putOut_112 : decode cX12_putOut 112 = .ok (.ldc2_w 185, 3) := by decide +kernel
theorem dX12_putOut_115 : decode cX12_putOut 115 = .ok (.lstore_n 2, 1) := by decide +kernel
theorem dX12_putOut_116 : decode cX12_putOut 116 = .ok (.aload_n 0, 1) := by decide +kernel
theorem dX12_putOut_117 : decode cX12_putOut 117 = .ok (.getfield 90, 3) := by decide +kernel
theorem dX12_putOut_120 : decode cX12_putOut 120 = .ok (.aload_n 0, 1) := by decide +kernel
theorem dX12_putOut_121 : decode cX12_putOut 121 = .ok (.getfield 166, 3) := by decide +kernel
theorem dX12_putOut_124 : decode cX12_putOut 124 = .ok (.aload_n 0, 1) := by decide +kernel
theorem dX12_putOut_125 : decode cX12_putOut 125 = .ok (.getfield 175, 3) := by decide +kernel
theorem dX12_putOut_128 : decode cX12_putOut 128 = .ok (.lload_n 2, 1) := by decide +kernel
theorem dX12_putOut_129 : decode cX12_putOut 129 = .ok (.ldiv, 1) := by decide +kernel
theorem dX12_putOut_130 : decode cX12_putOut 130 = .ok (.ldc2_w 187, 3) := by decide +kernel
theorem dX12_putOut_133 : decode cX12_putOut 133 = .ok (.lrem, 1) := by decide +kernel
theorem dX12_putOut_134 : decode cX12_putOut 134 = .ok (.l2i, 1) := by decide +kernel
theorem dX12_putOut_135 : decode cX12_putOut 135 = .ok (.iastore, 1) := by decide +kernel
theorem dX12_putOut_136 : decode cX12_putOut 136 = .ok (.aload_n 0, 1) := by decide +kernel
theorem dX12_putOut_137 : decode cX12_putOut 137 = .ok (.dup, 1) := by decide +kernel
theorem dX12_putOut_138 : decode cX12_putOut 138 = .ok (.getfield 166, 3) := by decide +kernel
theorem dX12_putOut_141 : decode cX12_putOut 141 = .ok (.iconst 1, 1) := by decide +kernel
theorem dX12_putOut_142 : decode cX12_putOut 142 = .ok (.iadd, 1) := by decide +kernel
theorem dX12_putOut_143 : decode cX12_putOut 143 = .ok (.putfield 166, 3) := by decide +kernel
theorem dX12_putOut_146 : decode cX12_putOut 146 = .ok (.aload_n 0, 1) := by decide +kernel
theorem dX12_putOut_147 : decode cX12_putOut 147 = .ok (.aload_n 0, 1) := by decide +kernel
theorem dX12_putOut_148 : decode cX12_putOut 148 = .ok (.getfield 175, 3) := by decide +kernel
theorem dX12_putOut_151 : decode cX12_putOut 151 = .ok (.lload_n 2, 1) := by decide +kernel
theorem dX12_putOut_152 : decode cX12_putOut 152 = .ok (.lrem, 1) := by decide +kernel
theorem dX12_putOut_153 : decode cX12_putOut 153 = .ok (.putfield 175, 3) := by decide +kernel
theorem dX12_putOut_156 : decode cX12_putOut 156 = .ok (.aload_n 0, 1) := by decide +kernel
theorem dX12_putOut_157 : decode cX12_putOut 157 = .ok (.iload_n 1, 1) := by decide +kernel
theorem dX12_putOut_158 : decode cX12_putOut 158 = .ok (.ifCond .eq 8, 3) := by decide +kernel
theorem dX12_putOut_161 : decode cX12_putOut 161 = .ok (.bipush 7, 2) := by decide +kernel
theorem dX12_putOut_163 : decode cX12_putOut 163 = .ok (.goto 5, 3) := by decide +kernel
theorem dX12_putOut_166 : decode cX12_putOut 166 = .ok (.bipush 8, 2) := by decide +kernel
theorem dX12_putOut_168 : decode cX12_putOut 168 = .ok (.putfield 178, 3) := by decide +kernel
theorem dX12_putOut_171 : decode cX12_putOut 171 = .ok (.return_, 1) := by decide +kernel
theorem dX12_tellBit_0 : decode cX12_tellBit 0 = .ok (.aload_n 0, 1) := by decide +kernel
theorem dX12_tellBit_1 : decode cX12_tellBit 1 = .ok (.getfield 7, 3) := by decide +kernel
theorem dX12_tellBit_4 : decode cX12_tellBit 4 = .ok (.aload_n 0, 1) := by decide +kernel
theorem dX12_tellBit_5 : decode cX12_tellBit 5 = .ok (.getfield 84, 3) := by decide +kernel
theorem dX12_tellBit_8 : decode cX12_tellBit 8 = .ok (.iload_n 1, 1) := by decide +kernel
theorem dX12_tellBit_9 : decode cX12_tellBit 9 = .ok (.iaload, 1) := by decide +kernel
theorem dX12_tellBit_10 : decode cX12_tellBit 10 = .ok (.iaload, 1) := by decide +kernel
theorem dX12_tellBit_11 : decode cX12_tellBit 11 = .ok (.istore_n 3, 1) := by decide +kernel
theorem dX12_tellBit_12 : decode cX12_tellBit 12 = .ok (.iload_n 2, 1) := by decide +kernel
theorem dX12_tellBit_13 : decode cX12_tellBit 13 = .ok (.aload_n 0, 1) := by decide +kernel
theorem dX12_tellBit_14 : decode cX12_tellBit 14 = .ok (.getfield 87, 3) := by decide +kernel
theorem dX12_tellBit_17 : decode cX12_tellBit 17 = .ok (.iload_n 1, 1) := by decide +kernel
theorem dX12_tellBit_18 : decode cX12_tellBit 18 = .ok (.iaload, 1) := by decide +kernel
theorem dX12_tellBit_19 : decode cX12_tellBit 19 = .ok (.if_icmp .eq 7, 3) := by decide +kernel
theorem dX12_tellBit_22 : decode cX12_tellBit 22 = .ok (.iconst 1, 1) := by decide +kernel
theorem dX12_tellBit_23 : decode cX12_tellBit 23 = .ok (.goto 4, 3) := by decide +kernel
theorem dX12_tellBit_26 : decode cX12_tellBit 26 = .ok (.iconst 0, 1) := by decide +kernel
theorem dX12_tellBit_27 : decode cX12_tellBit 27 = .ok (.istore 4, 2) := by decide +kernel
theorem dX12_tellBit_29 : decode cX12_tellBit 29 = .ok (.aload_n 0, 1) := by decide +kernel
theorem dX12_tellBit_30 : decode cX12_tellBit 30 = .ok (.aload_n 0, 1) := by decide +kernel
theorem dX12_tellBit_31 : decode cX12_tellBit 31 = .ok (.getfield 171, 3) := by decide +kernel
theorem dX12_tellBit_34 : decode cX12_tellBit 34 = .ok (.iload_n 3, 1) := by decide +kernel
theorem dX12_tellBit_35 : decode cX12_tellBit 35 = .ok (.i2l, 1) := by decide +kernel
theorem dX12_tellBit_36 : decode cX12_tellBit 36 = .ok (.lsub, 1) := by decide +kernel
theorem dX12_tellBit_37 : decode cX12_tellBit 37 = .ok (.putfield 171, 3) := by decide +kernel
theorem dX12_tellBit_40 : decode cX12_tellBit 40 = .ok (.iload 4, 2) := by decide +kernel
theorem dX12_tellBit_42 : decode cX12_tellBit 42 = .ok (.ifCond .ne 27, 3) := by decide +kernel
theorem dX12_tellBit_45 : decode cX12_tellBit 45 = .ok (.aload_n 0, 1) := by decide +kernel
theorem dX12_tellBit_46 : decode cX12_tellBit 46 = .ok (.getfield 171, 3) := by decide +kernel
theorem dX12_tellBit_49 : decode cX12_tellBit 49 = .ok (.ldc2_w 169, 3) := by decide +kernel
theorem dX12_tellBit_52 : decode cX12_tellBit 52 = .ok (.lcmp, 1) := by decide +kernel
theorem dX12_tellBit_53 : decode cX12_tellBit 53 = .ok (.ifCond .lt 16, 3) := by decide +kernel
theorem dX12_tellBit_56 : decode cX12_tellBit 56 = .ok (.aload_n 0, 1) := by decide +kernel
theorem dX12_tellBit_57 : decode cX12_tellBit 57 = .ok (.aload_n 0, 1) := by decide +kernel
theorem dX12_tellBit_58 : decode cX12_tellBit 58 = .ok (.getfield 175, 3) := by decide +kernel
theorem dX12_tellBit_61 : decode cX12_tellBit 61 = .ok (.iload_n 3, 1) := by decide +kernel
theorem dX12_tellBit_62 : decode cX12_tellBit 62 = .ok (.i2l, 1) := by decide +kernel
theorem dX12_tellBit_63 : decode cX12_tellBit 63 = .ok (.ladd, 1) := by decide +kernel
theorem dX12_tellBit_64 : decode cX12_tellBit 64 = .ok (.putfield 175, 3) := by decide +kernel
theorem dX12_tellBit_67 : decode cX12_tellBit 67 = .ok (.iload_n 2, 1) := by decide +kernel
theorem dX12_tellBit_68 : decode cX12_tellBit 68 = .ok (.ireturn, 1) := by decide +kernel
theorem dX12_tellBit_69 : decode cX12_tellBit 69 = .ok (.aload_n 0, 1) := by decide +kernel
theorem dX12_tellBit_70 : decode cX12_tellBit 70 = .ok (.getfield 171, 3) := by decide +kernel
theorem dX12_tellBit_73 : decode cX12_tellBit 73 = .ok (.iload_n 3, 1) := by decide +kernel
theorem dX12_tellBit_74 : decode cX12_tellBit 74 = .ok (.i2l, 1) := by decide +kernel
theorem dX12_tellBit_75 : decode cX12_tellBit 75 = .ok (.lcmp, 1) := by decide +kernel
theorem dX12_tellBit_76 : decode cX12_tellBit 76 = .ok (.ifCond .ge 7, 3) := by decide +kernel
theorem dX12_tellBit_79 : decode cX12_tellBit 79 = .ok (.iconst 1, 1) := by decide +kernel
theorem dX12_tellBit_80 : decode cX12_tellBit 80 = .ok (.goto 4, 3) := by decide +kernel
theorem dX12_tellBit_83 : decode cX12_tellBit 83 = .ok (.iconst 0, 1) := by decide +kernel
theorem dX12_tellBit_84 : decode cX12_tellBit 84 = .ok (.istore 5, 2) := by decide +kernel
theorem dX12_tellBit_86 : decode cX12_tellBit 86 = .ok (.iload 4, 2) := by decide +kernel
theorem dX12_tellBit_88 : decode cX12_tellBit 88 = .ok (.iload 5, 2) := by decide +kernel
theorem dX12_tellBit_90 : decode cX12_tellBit 90 = .ok (.if_icmp .eq 7, 3) := by decide +kernel
theorem dX12_tellBit_93 : decode cX12_tellBit 93 = .ok (.iconst 1, 1) := by decide +kernel
theorem dX12_tellBit_94 : decode cX12_tellBit 94 = .ok (.goto 4, 3) := by decide +kernel
theorem dX12_tellBit_97 : decode cX12_tellBit 97 = .ok (.iconst 0, 1) := by decide +kernel
theorem dX12_tellBit_98 : decode cX12_tellBit 98 = .ok (.istore 6, 2) := by decide +kernel
theorem dX12_tellBit_100 : decode cX12_tellBit 100 = .ok (.aload_n 0, 1) := by decide +kernel
theorem dX12_tellBit_101 : decode cX12_tellBit 101 = .ok (.iload 6, 2) := by decide +kernel
theorem dX12_tellBit_103 : decode cX12_tellBit 103 = .ok (.ifCond .eq 10, 3) := by decide +kernel
theorem dX12_tellBit_106 : decode cX12_tellBit 106 = .ok (.aload_n 0, 1) := by decide +kernel
theorem dX12_tellBit_107 : decode cX12_tellBit 107 = .ok (.getfield 175, 3) := by decide +kernel
theorem dX12_tellBit_110 : decode cX12_tellBit 110 = .ok (.goto 10, 3) := by decide +kernel
theorem dX12_tellBit_113 : decode cX12_tellBit 113 = .ok (.aload_n 0, 1) := by decide +kernel
theorem dX12_tellBit_114 : decode cX12_tellBit 114 = .ok (.getfield 175, 3) := by decide +kernel
theorem dX12_tellBit_117 : decode cX12_tellBit 117 = .ok (.iload_n 3, 1) := by decide +kernel
theorem dX12_tellBit_118 : decode cX12_tellBit 118 = .ok (.i2l, 1) := by decide +kernel
theorem dX12_tellBit_119 : decode cX12_tellBit 119 = .ok (.ladd, 1) := by decide +kernel
theorem dX12_tellBit_120 : decode cX12_tellBit 120 = .ok (.putfield 175, 3) := by decide +kernel
theorem dX12_tellBit_123 : decode cX12_tellBit 123 = .ok (.aload_n 0, 1) := by decide +kernel
theorem dX12_tellBit_124 : decode cX12_tellBit 124 = .ok (.iload 6, 2) := by decide +kernel
theorem dX12_tellBit_126 : decode cX12_tellBit 126 = .ok (.ifCond .eq 8, 3) := by decide +kernel
theorem dX12_tellBit_129 : decode cX12_tellBit 129 = .ok (.iload_n 3, 1) := by decide +kernel
theorem dX12_tellBit_130 : decode cX12_tellBit 130 = .ok (.i2l, 1) := by decide +kernel
theorem dX12_tellBit_131 : decode cX12_tellBit 131 = .ok (.goto 7, 3) := by decide +kernel
theorem dX12_tellBit_134 : decode cX12_tellBit 134 = .ok (.aload_n 0, 1) := by decide +kernel
theorem dX12_tellBit_135 : decode cX12_tellBit 135 = .ok (.getfield 171, 3) := by decide +kernel
theorem dX12_tellBit_138 : decode cX12_tellBit 138 = .ok (.putfield 171, 3) := by decide +kernel
theorem dX12_tellBit_141 : decode cX12_tellBit 141 = .ok (.aload_n 0, 1) := by decide +kernel
theorem dX12_tellBit_142 : decode cX12_tellBit 142 = .ok (.iload_n 1, 1) := by decide +kernel
theorem dX12_tellBit_143 : decode cX12_tellBit 143 = .ok (.iload 4, 2) := by decide +kernel
theorem dX12_tellBit_145 : decode cX12_tellBit 145 = .ok (.invokevirtual 189, 3) := by decide +kernel
theorem dX12_tellBit_148 : decode cX12_tellBit 148 = .ok (.aload_n 0, 1) := by decide +kernel
theorem dX12_tellBit_149 : decode cX12_tellBit 149 = .ok (.getfield 171, 3) := by decide +kernel
theorem dX12_tellBit_152 : decode cX12_tellBit 152 = .ok (.ldc2_w 169, 3) := by decide +kernel
theorem dX12_tellBit_155 : decode cX12_tellBit 155 = .ok (.lcmp, 1) := by decide +kernel
theorem dX12_tellBit_156 : decode cX12_tellBit 156 = .ok (.ifCond .ge 51, 3) := by decide +kernel
theorem dX12_tellBit_159 : decode cX12_tellBit 159 = .ok (.aload_n 0, 1) := by decide +kernel
theorem dX12_tellBit_160 : decode cX12_tellBit 160 = .ok (.ldc2_w 193, 3) := by decide +kernel
theorem dX12_tellBit_163 : decode cX12_tellBit 163 = .ok (.aload_n 0, 1) := by decide +kernel
theorem dX12_tellBit_164 : decode cX12_tellBit 164 = .ok (.getfield 171, 3) := by decide +kernel
theorem dX12_tellBit_167 : decode cX12_tellBit 167 = .ok (.lmul, 1) := by decide +kernel
theorem dX12_tellBit_168 : decode cX12_tellBit 168 = .ok (.putfield 171, 3) := by decide +kernel
theorem dX12_tellBit_171 : decode cX12_tellBit 171 = .ok (.aload_n 0, 1) := by decide +kernel
theorem dX12_tellBit_172 : decode cX12_tellBit 172 = .ok (.ldc2_w 193, 3) := by decide +kernel
theorem dX12_tellBit_175 : decode cX12_tellBit 175 = .ok (.aload_n 0, 1) := by decide +kernel
theorem dX12_tellBit_176 : decode cX12_tellBit 176 = .ok (.getfield 175, 3) := by decide +kernel
theorem dX12_tellBit_179 : decode cX12_tellBit 179 = .ok (.lmul, 1) := by decide +kernel
theorem dX12_tellBit_180 : decode cX12_tellBit 180 = .ok (.putfield 175, 3) := by decide +kernel
theorem dX12_tellBit_183 : decode cX12_tellBit 183 = .ok (.aload_n 0, 1) := by decide +kernel
theorem dX12_tellBit_184 : decode cX12_tellBit 184 = .ok (.dup, 1) := by decide +kernel
theorem dX12_tellBit_185 : decode cX12_tellBit 185 = .ok (.getfield 178, 3) := by decide +kernel
theorem dX12_tellBit_188 : decode cX12_tellBit 188 = .ok (.iconst 1, 1) := by decide +kernel
theorem dX12_tellBit_189 : decode cX12_tellBit 189 = .ok (.isub, 1) := by decide +kernel
theorem dX12_tellBit_190 : decode cX12_tellBit 190 = .ok (.putfield 178, 3) := by decide +kernel
theorem dX12_tellBit_193 : decode cX12_tellBit 193 = .ok (.aload_n 0, 1) := by decide +kernel
theorem dX12_tellBit_194 : decode cX12_tellBit 194 = .ok (.getfield 178, 3) := by decide +kernel
theorem dX12_tellBit_197 : decode cX12_tellBit 197 = .ok (.ifCond .ne (-49), 3) := by decide +kernel
theorem dX12_tellBit_200 : decode cX12_tellBit 200 = .ok (.aload_n 0, 1) := by decide +kernel
theorem dX12_tellBit_201 : decode cX12_tellBit 201 = .ok (.invokevirtual 195, 3) := by decide +kernel
theorem dX12_tellBit_204 : decode cX12_tellBit 204 = .ok (.goto (-56), 3) := by decide +kernel
theorem dX12_tellBit_207 : decode cX12_tellBit 207 = .ok (.iload_n 2, 1) := by decide +kernel
theorem dX12_tellBit_208 : decode cX12_tellBit 208 = .ok (.ireturn, 1) := by decide +kernel
theorem dX12_endTelling_0 : decode cX12_endTelling 0 = .ok (.aload_n 0, 1) := by decide +kernel
theorem dX12_endTelling_1 : decode cX12_endTelling 1 = .ok (.getfield 175, 3) := by decide +kernel
theorem dX12_endTelling_4 : decode cX12_endTelling 4 = .ok (.aload_n 0, 1) := by decide +kernel
theorem dX12_endTelling_5 : decode cX12_endTelling 5 = .ok (.getfield 171, 3) := by decide +kernel
theorem dX12_endTelling_8 : decode cX12_endTelling 8 = .ok (.ladd, 1) := by decide +kernel
theorem dX12_endTelling_9 : decode cX12_endTelling 9 = .ok (.lstore_n 1, 1) := by decide +kernel
theorem dX12_endTelling_10 : decode cX12_endTelling 10 = .ok (.aload_n 0, 1) := by decide +kernel
theorem dX12_endTelling_11 : decode cX12_endTelling 11 = .ok (.aload_n 0, 1) := by decide +kernel
theorem dX12_endTelling_12 : decode cX12_endTelling 12 = .ok (.getfield 175, 3) := by decide +kernel
theorem dX12_endTelling_15 : decode cX12_endTelling 15 = .ok (.ldc2_w 198, 3) := by decide +kernel
theorem dX12_endTelling_18 : decode cX12_endTelling 18 = .ok (.ldiv, 1) := by decide +kernel
theorem dX12_endTelling_19 : decode cX12_endTelling 19 = .ok (.ldc2_w 198, 3) := by decide +kernel
theorem dX12_endTelling_22 : decode cX12_endTelling 22 = .ok (.lmul, 1) := by decide +kernel
theorem dX12_endTelling_23 : decode cX12_endTelling 23 = .ok (.ldc2_w 200, 3) := by decide +kernel
theorem dX12_endTelling_26 : decode cX12_endTelling 26 = .ok (.ladd, 1) := by decide +kernel
theorem dX12_endTelling_27 : decode cX12_endTelling 27 = .ok (.putfield 175, 3) := by decide +kernel
theorem dX12_endTelling_30 : decode cX12_endTelling 30 = .ok (.aload_n 0, 1) := by decide +kernel
theorem dX12_endTelling_31 : decode cX12_endTelling 31 = .ok (.aload_n 0, 1) := by decide +kernel
theorem dX12_endTelling_32 : decode cX12_endTelling 32 = .ok (.getfield 175, 3) := by decide +kernel
theorem dX12_endTelling_35 : decode cX12_endTelling 35 = .ok (.lload_n 1, 1) := by decide +kernel
theorem dX12_endTelling_36 : decode cX12_endTelling 36 = .ok (.lcmp, 1) := by decide +kernel
theorem dX12_endTelling_37 : decode cX12_endTelling 37 = .ok (.ifCond .lt 14, 3) := by decide +kernel
theorem dX12_endTelling_40 : decode cX12_endTelling 40 = .ok (.aload_n 0, 1) := by decide +kernel
theorem dX12_endTelling_41 : decode cX12_endTelling 41 = .ok (.getfield 175, 3) := by decide +kernel
theorem dX12_endTelling_44 : decode cX12_endTelling 44 = .ok (.ldc2_w 169, 3) := by decide +kernel
theorem dX12_endTelling_47 : decode cX12_endTelling 47 = .ok (.lsub, 1) := by decide +kernel
theorem dX12_endTelling_48 : decode cX12_endTelling 48 = .ok (.goto 7, 3) := by decide +kernel
theorem dX12_endTelling_51 : decode cX12_endTelling 51 = .ok (.aload_n 0, 1) := by decide +kernel
theorem dX12_endTelling_52 : decode cX12_endTelling 52 = .ok (.getfield 175, 3) := by decide +kernel
theorem dX12_endTelling_55 : decode cX12_endTelling 55 = .ok (.putfield 175, 3) := by decide +kernel
theorem dX12_endTelling_58 : decode cX12_endTelling 58 = .ok (.iconst 0, 1) := by decide +kernel
theorem dX12_endTelling_59 : decode cX12_endTelling 59 = .ok (.istore_n 3, 1) := by decide +kernel
theorem dX12_endTelling_60 : decode cX12_endTelling 60 = .ok (.iload_n 3, 1) := by decide +kernel
theorem dX12_endTelling_61 : decode cX12_endTelling 61 = .ok (.iconst 2, 1) := by decide +kernel
theorem dX12_endTelling_62 : decode cX12_endTelling 62 = .ok (.if_icmp .ge 42, 3) := by decide +kernel
theorem dX12_endTelling_65 : decode cX12_endTelling 65 = .ok (.aload_n 0, 1) := by decide +kernel
theorem dX12_endTelling_66 : decode cX12_endTelling 66 = .ok (.getfield 178, 3) := by decide +kernel
theorem dX12_endTelling_69 : decode cX12_endTelling 69 = .ok (.istore 4, 2) := by decide +kernel
theorem dX12_endTelling_71 : decode cX12_endTelling 71 = .ok (.iload 4, 2) := by decide +kernel
theorem dX12_endTelling_73 : decode cX12_endTelling 73 = .ok (.ifCond .le 21, 3) := by decide +kernel
theorem dX12_endTelling_76 : decode cX12_endTelling 76 = .ok (.aload_n 0, 1) := by decide +kernel
theorem dX12_endTelling_77 : decode cX12_endTelling 77 = .ok (.ldc2_w 193, 3) := by decide +kernel
theorem dX12_endTelling_80 : decode cX12_endTelling 80 = .ok (.aload_n 0, 1) := by decide +kernel
theorem dX12_endTelling_81 : decode cX12_endTelling 81 = .ok (.getfield 175, 3) := by decide +kernel
theorem dX12_endTelling_84 : decode cX12_endTelling 84 = .ok (.lmul, 1) := by decide +kernel
theorem dX12_endTelling_85 : decode cX12_endTelling 85 = .ok (.putfield 175, 3) := by decide +kernel
theorem dX12_endTelling_88 : decode cX12_endTelling 88 = .ok (.iinc 4 (-1), 3) := by decide +kernel
theorem dX12_endTelling_91 : decode cX12_endTelling 91 = .ok (.goto (-20), 3) := by decide +kernel
theorem dX12_endTelling_94 : decode cX12_endTelling 94 = .ok (.aload_n 0, 1) := by decide +kernel
theorem dX12_endTelling_95 : decode cX12_endTelling 95 = .ok (.invokevirtual 195, 3) := by decide +kernel
theorem dX12_endTelling_98 : decode cX12_endTelling 98 = .ok (.iinc 3 1, 3) := by decide +kernel
theorem dX12_endTelling_101 : decode cX12_endTelling 101 = .ok (.goto (-41), 3) := by decide +kernel
theorem dX12_endTelling_104 : decode cX12_endTelling 104 = .ok (.aload_n 0, 1) := by decide +kernel
theorem dX12_endTelling_105 : decode cX12_endTelling 105 = .ok (.aload_n 0, 1) := by decide +kernel
theorem dX12_endTelling_106 : decode cX12_endTelling 106 = .ok (.getfield 90, 3) := by decide +kernel
theorem dX12_endTelling_109 : decode cX12_endTelling 109 = .ok (.aload_n 0, 1) := by decide +kernel
theorem dX12_endTelling_110 : decode cX12_endTelling 110 = .ok (.getfield 166, 3) := by decide +kernel
theorem dX12_endTelling_113 : decode cX12_endTelling 113 = .ok (.iconst 1, 1) := by decide +kernel
theorem dX12_endTelling_114 : decode cX12_endTelling 114 = .ok (.isub, 1) := by decide +kernel
theorem dX12_endTelling_115 : decode cX12_endTelling 115 = .ok (.iaload, 1) := by decide +kernel
theorem dX12_endTelling_116 : decode cX12_endTelling 116 = .ok (.sipush 255, 3) := by decide +kernel
theorem dX12_endTelling_119 : decode cX12_endTelling 119 = .ok (.if_icmp .ne 12, 3) := by decide +kernel
theorem dX12_endTelling_122 : decode cX12_endTelling 122 = .ok (.aload_n 0, 1) := by decide +kernel
theorem dX12_endTelling_123 : decode cX12_endTelling 123 = .ok (.getfield 166, 3) := by decide +kernel
theorem dX12_endTelling_126 : decode cX12_endTelling 126 = .ok (.iconst 1, 1) := by decide +kernel
theorem dX12_endTelling_127 : decode cX12_endTelling 127 = .ok (.isub, 1) := by decide +kernel
theorem dX12_endTelling_128 : decode cX12_endTelling 128 = .ok (.goto 7, 3) := by decide +kernel
theorem dX12_endTelling_131 : decode cX12_endTelling 131 = .ok (.aload_n 0, 1) := by decide +kernel
theorem dX12_endTelling_132 : decode cX12_endTelling 132 = .ok (.getfield 166, 3) := by decide +kernel
theorem dX12_endTelling_135 : decode cX12_endTelling 135 = .ok (.putfield 166, 3) := by decide +kernel
theorem dX12_endTelling_138 : decode cX12_endTelling 138 = .ok (.return_, 1) := by decide +kernel
theorem dX12_byteAt_0 : decode cX12_byteAt 0 = .ok (.iload_n 1, 1) := by decide +kernel
theorem dX12_byteAt_1 : decode cX12_byteAt 1 = .ok (.aload_n 0, 1) := by decide +kernel
theorem dX12_byteAt_2 : decode cX12_byteAt 2 = .ok (.getfield 202, 3) := by decide +kernel
theorem dX12_byteAt_5 : decode cX12_byteAt 5 = .ok (.if_icmp .ge 12, 3) := by decide +kernel
theorem dX12_byteAt_8 : decode cX12_byteAt 8 = .ok (.aload_n 0, 1) := by decide +kernel
theorem dX12_byteAt_9 : decode cX12_byteAt 9 = .ok (.getfield 93, 3) := by decide +kernel
theorem dX12_byteAt_12 : decode cX12_byteAt 12 = .ok (.iload_n 1, 1) := by decide +kernel
theorem dX12_byteAt_13 : decode cX12_byteAt 13 = .ok (.iaload, 1) := by decide +kernel
theorem dX12_byteAt_14 : decode cX12_byteAt 14 = .ok (.goto 6, 3) := by decide +kernel
theorem dX12_byteAt_17 : decode cX12_byteAt 17 = .ok (.sipush 255, 3) := by decide +kernel
theorem dX12_byteAt_20 : decode cX12_byteAt 20 = .ok (.ireturn, 1) := by decide +kernel
theorem dX12_takeIn_0 : decode cX12_takeIn 0 = .ok (.aload_n 0, 1) := by decide +kernel
theorem dX12_takeIn_1 : decode cX12_takeIn 1 = .ok (.aload_n 0, 1) := by decide +kernel
theorem dX12_takeIn_2 : decode cX12_takeIn 2 = .ok (.getfield 205, 3) := by decide +kernel
theorem dX12_takeIn_5 : decode cX12_takeIn 5 = .ok (.invokevirtual 208, 3) := by decide +kernel
theorem dX12_takeIn_8 : decode cX12_takeIn 8 = .ok (.sipush 255, 3) := by decide +kernel
theorem dX12_takeIn_11 : decode cX12_takeIn 11 = .ok (.if_icmp .ne 7, 3) := by decide +kernel
theorem dX12_takeIn_14 : decode cX12_takeIn 14 = .ok (.iconst 1, 1) := by decide +kernel
theorem dX12_takeIn_15 : decode cX12_takeIn 15 = .ok (.goto 4, 3) := by decide +kernel
theorem dX12_takeIn_18 : decode cX12_takeIn 18 = .ok (.iconst 0, 1) := by decide +kernel
theorem dX12_takeIn_19 : decode cX12_takeIn 19 = .ok (.istore_n 1, 1) := by decide +kernel
theorem dX12_takeIn_20 : decode cX12_takeIn 20 = .ok (.iload_n 1, 1) := by decide +kernel
theorem dX12_takeIn_21 : decode cX12_takeIn 21 = .ok (.ifCond .eq 38, 3) := by decide +kernel
theorem dX12_takeIn_24 : decode cX12_takeIn 24 = .ok (.aload_n 0, 1) := by decide +kernel
theorem dX12_takeIn_25 : decode cX12_takeIn 25 = .ok (.aload_n 0, 1) := by decide +kernel
theorem dX12_takeIn_26 : decode cX12_takeIn 26 = .ok (.getfield 205, 3) := by decide +kernel
theorem dX12_takeIn_29 : decode cX12_takeIn 29 = .ok (.iconst 1, 1) := by decide +kernel
theorem dX12_takeIn_30 : decode cX12_takeIn 30 = .ok (.iadd, 1) := by decide +kernel
theorem dX12_takeIn_31 : decode cX12_takeIn 31 = .ok (.invokevirtual 208, 3) := by decide +kernel
theorem dX12_takeIn_34 : decode cX12_takeIn 34 = .ok (.sipush 143, 3) := by decide +kernel
theorem dX12_takeIn_37 : decode cX12_takeIn 37 = .ok (.if_icmp .le 22, 3) := by decide +kernel
theorem dX12_takeIn_40 : decode cX12_takeIn 40 = .ok (.aload_n 0, 1) := by decide +kernel
theorem dX12_takeIn_41 : decode cX12_takeIn 41 = .ok (.aload_n 0, 1) := by decide +kernel
theorem dX12_takeIn_42 : decode cX12_takeIn 42 = .ok (.getfield 175, 3) := by decide +kernel
theorem dX12_takeIn_45 : decode cX12_takeIn 45 = .ok (.ldc2_w 212, 3) := by decide +kernel
theorem dX12_takeIn_48 : decode cX12_takeIn 48 = .ok (.ladd, 1) := by decide +kernel
theorem dX12_takeIn_49 : decode cX12_takeIn 49 = .ok (.putfield 175, 3) := by decide +kernel
theorem dX12_takeIn_52 : decode cX12_takeIn 52 = .ok (.aload_n 0, 1) := by decide +kernel
theorem dX12_takeIn_53 : decode cX12_takeIn 53 = .ok (.bipush 8, 2) := by decide +kernel
theorem dX12_takeIn_55 : decode cX12_takeIn 55 = .ok (.putfield 178, 3) := by decide +kernel
theorem dX12_takeIn_58 : decode cX12_takeIn 58 = .ok (.return_, 1) := by decide +kernel
theorem dX12_takeIn_59 : decode cX12_takeIn 59 = .ok (.aload_n 0, 1) := by decide +kernel
theorem dX12_takeIn_60 : decode cX12_takeIn 60 = .ok (.dup, 1) := by decide +kernel
theorem dX12_takeIn_61 : decode cX12_takeIn 61 = .ok (.getfield 205, 3) := by decide +kernel
theorem dX12_takeIn_64 : decode cX12_takeIn 64 = .ok (.iconst 1, 1) := by decide +kernel
theorem dX12_takeIn_65 : decode cX12_takeIn 65 = .ok (.iadd, 1) := by decide +kernel
theorem dX12_takeIn_66 : decode cX12_takeIn 66 = .ok (.putfield 205, 3) := by decide +kernel
theorem dX12_takeIn_69 : decode cX12_takeIn 69 = .ok (.aload_n 0, 1) := by decide +kernel
theorem dX12_takeIn_70 : decode cX12_takeIn 70 = .ok (.aload_n 0, 1) := by decide +kernel
theorem dX12_takeIn_71 : decode cX12_takeIn 71 = .ok (.getfield 175, 3) := by decide +kernel
theorem dX12_takeIn_74 : decode cX12_takeIn 74 = .ok (.aload_n 0, 1) := by decide +kernel
theorem dX12_takeIn_75 : decode cX12_takeIn 75 = .ok (.aload_n 0, 1) := by decide +kernel
theorem dX12_takeIn_76 : decode cX12_takeIn 76 = .ok (.getfield 205, 3) := by decide +kernel
theorem dX12_takeIn_79 : decode cX12_takeIn 79 = .ok (.invokevirtual 208, 3) := by decide +kernel
theorem dX12_takeIn_82 : decode cX12_takeIn 82 = .ok (.i2l, 1) := by decide +kernel
theorem dX12_takeIn_83 : decode cX12_takeIn 83 = .ok (.iload_n 1, 1) := by decide +kernel
theorem dX12_takeIn_84 : decode cX12_takeIn 84 = .ok (.ifCond .eq 9, 3) := by decide +kernel
theorem dX12_takeIn_87 : decode cX12_takeIn 87 = .ok (.ldc2_w 214, 3) := by decide +kernel
theorem dX12_takeIn_90 : decode cX12_takeIn 90 = .ok (.goto 6, 3) := by decide +kernel
theorem dX12_takeIn_93 : decode cX12_takeIn 93 = .ok (.ldc2_w 187, 3) := by decide +kernel
theorem dX12_takeIn_96 : decode cX12_takeIn 96 = .ok (.lmul, 1) := by decide +kernel
theorem dX12_takeIn_97 : decode cX12_takeIn 97 = .ok (.ladd, 1) := by decide +kernel
theorem dX12_takeIn_98 : decode cX12_takeIn 98 = .ok (.putfield 175, 3) := by decide +kernel
theorem dX12_takeIn_101 : decode cX12_takeIn 101 = .ok (.aload_n 0, 1) := by decide +kernel
theorem dX12_takeIn_102 : decode cX12_takeIn 102 = .ok (.iload_n 1, 1) := by decide +kernel
theorem dX12_takeIn_103 : decode cX12_takeIn 103 = .ok (.ifCond .eq 8, 3) := by decide +kernel
theorem dX12_takeIn_106 : decode cX12_takeIn 106 = .ok (.bipush 7, 2) := by decide +kernel
theorem dX12_takeIn_108 : decode cX12_takeIn 108 = .ok (.goto 5, 3) := by decide +kernel
theorem dX12_takeIn_111 : decode cX12_takeIn 111 = .ok (.bipush 8, 2) := by decide +kernel
theorem dX12_takeIn_113 : decode cX12_takeIn 113 = .ok (.putfield 178, 3) := by decide +kernel
theorem dX12_takeIn_116 : decode cX12_takeIn 116 = .ok (.return_, 1) := by decide +kernel
theorem dX12_beginReading_0 : decode cX12_beginReading 0 = .ok (.aload_n 0, 1) := by decide +kernel
theorem dX12_beginReading_1 : decode cX12_beginReading 1 = .ok (.invokevirtual 160, 3) := by decide +kernel
theorem dX12_beginReading_4 : decode cX12_beginReading 4 = .ok (.aload_n 0, 1) := by decide +kernel
theorem dX12_beginReading_5 : decode cX12_beginReading 5 = .ok (.iload_n 2, 1) := by decide +kernel
theorem dX12_beginReading_6 : decode cX12_beginReading 6 = .ok (.putfield 163, 3) := by decide +kernel
theorem dX12_beginReading_9 : decode cX12_beginReading 9 = .ok (.aload_n 0, 1) := by decide +kernel
theorem dX12_beginReading_10 : decode cX12_beginReading 10 = .ok (.iload_n 1, 1) := by decide +kernel
theorem dX12_beginReading_11 : decode cX12_beginReading 11 = .ok (.putfield 202, 3) := by decide +kernel
theorem dX12_beginReading_14 : decode cX12_beginReading 14 = .ok (.aload_n 0, 1) := by decide +kernel
theorem dX12_beginReading_15 : decode cX12_beginReading 15 = .ok (.iconst 0, 1) := by decide +kernel
theorem dX12_beginReading_16 : decode cX12_beginReading 16 = .ok (.putfield 205, 3) := by decide +kernel
theorem dX12_beginReading_19 : decode cX12_beginReading 19 = .ok (.aload_n 0, 1) := by decide +kernel
theorem dX12_beginReading_20 : decode cX12_beginReading 20 = .ok (.ldc2_w 198, 3) := by decide +kernel
theorem dX12_beginReading_23 : decode cX12_beginReading 23 = .ok (.aload_n 0, 1) := by decide +kernel
theorem dX12_beginReading_24 : decode cX12_beginReading 24 = .ok (.iconst 0, 1) := by decide +kernel
theorem dX12_beginReading_25 : decode cX12_beginReading 25 = .ok (.invokevirtual 208, 3) := by decide +kernel
theorem dX12_beginReading_28 : decode cX12_beginReading 28 = .ok (.i2l, 1) := by decide +kernel
theorem dX12_beginReading_29 : decode cX12_beginReading 29 = .ok (.lmul, 1) := by decide +kernel
theorem dX12_beginReading_30 : decode cX12_beginReading 30 = .ok (.putfield 175, 3) := by decide +kernel
theorem dX12_beginReading_33 : decode cX12_beginReading 33 = .ok (.aload_n 0, 1) := by decide +kernel
theorem dX12_beginReading_34 : decode cX12_beginReading 34 = .ok (.invokevirtual 216, 3) := by decide +kernel
theorem dX12_beginReading_37 : decode cX12_beginReading 37 = .ok (.aload_n 0, 1) := by decide +kernel
theorem dX12_beginReading_38 : decode cX12_beginReading 38 = .ok (.ldc2_w 219, 3) := by decide +kernel
theorem dX12_beginReading_41 : decode cX12_beginReading 41 = .ok (.aload_n 0, 1) := by decide +kernel
theorem dX12_beginReading_42 : decode cX12_beginReading 42 = .ok (.getfield 175, 3) := by decide +kernel
theorem dX12_beginReading_45 : decode cX12_beginReading 45 = .ok (.lmul, 1) := by decide +kernel
theorem dX12_beginReading_46 : decode cX12_beginReading 46 = .ok (.putfield 175, 3) := by decide +kernel
theorem dX12_beginReading_49 : decode cX12_beginReading 49 = .ok (.aload_n 0, 1) := by decide +kernel
theorem dX12_beginReading_50 : decode cX12_beginReading 50 = .ok (.aload_n 0, 1) := by decide +kernel
theorem dX12_beginReading_51 : decode cX12_beginReading 51 = .ok (.getfield 178, 3) := by decide +kernel
theorem dX12_beginReading_54 : decode cX12_beginReading 54 = .ok (.bipush 7, 2) := by decide +kernel
theorem dX12_beginReading_56 : decode cX12_beginReading 56 = .ok (.isub, 1) := by decide +kernel
theorem dX12_beginReading_57 : decode cX12_beginReading 57 = .ok (.putfield 178, 3) := by decide +kernel
theorem dX12_beginReading_60 : decode cX12_beginReading 60 = .ok (.aload_n 0, 1) := by decide +kernel
theorem dX12_beginReading_61 : decode cX12_beginReading 61 = .ok (.ldc2_w 169, 3) := by decide +kernel
theorem dX12_beginReading_64 : decode cX12_beginReading 64 = .ok (.putfield 171, 3) := by decide +kernel
theorem dX12_beginReading_67 : decode cX12_beginReading 67 = .ok (.return_, 1) := by decide +kernel
theorem dX12_readBit_0 : decode cX12_readBit 0 = .ok (.aload_n 0, 1) := by decide +kernel
theorem dX12_readBit_1 : decode cX12_readBit 1 = .ok (.getfield 7, 3) := by decide +kernel
theorem dX12_readBit_4 : decode cX12_readBit 4 = .ok (.aload_n 0, 1) := by decide +kernel
theorem dX12_readBit_5 : decode cX12_readBit 5 = .ok (.getfield 84, 3) := by decide +kernel
theorem dX12_readBit_8 : decode cX12_readBit 8 = .ok (.iload_n 1, 1) := by decide +kernel
theorem dX12_readBit_9 : decode cX12_readBit 9 = .ok (.iaload, 1) := by decide +kernel
theorem dX12_readBit_10 : decode cX12_readBit 10 = .ok (.iaload, 1) := by decide +kernel
theorem dX12_readBit_11 : decode cX12_readBit 11 = .ok (.istore_n 2, 1) := by decide +kernel
theorem dX12_readBit_12 : decode cX12_readBit 12 = .ok (.aload_n 0, 1) := by decide +kernel
theorem dX12_readBit_13 : decode cX12_readBit 13 = .ok (.aload_n 0, 1) := by decide +kernel
theorem dX12_readBit_14 : decode cX12_readBit 14 = .ok (.getfield 171, 3) := by decide +kernel
theorem dX12_readBit_17 : decode cX12_readBit 17 = .ok (.iload_n 2, 1) := by decide +kernel
theorem dX12_readBit_18 : decode cX12_readBit 18 = .ok (.i2l, 1) := by decide +kernel
theorem dX12_readBit_19 : decode cX12_readBit 19 = .ok (.lsub, 1) := by decide +kernel
theorem dX12_readBit_20 : decode cX12_readBit 20 = .ok (.putfield 171, 3) := by decide +kernel
theorem dX12_readBit_23 : decode cX12_readBit 23 = .ok (.aload_n 0, 1) := by decide +kernel
theorem dX12_readBit_24 : decode cX12_readBit 24 = .ok (.getfield 175, 3) := by decide +kernel
theorem dX12_readBit_27 : decode cX12_readBit 27 = .ok (.ldc2_w 198, 3) := by decide +kernel
theorem dX12_readBit_30 : decode cX12_readBit 30 = .ok (.ldiv, 1) := by decide +kernel
theorem dX12_readBit_31 : decode cX12_readBit 31 = .ok (.iload_n 2, 1) := by decide +kernel
theorem dX12_readBit_32 : decode cX12_readBit 32 = .ok (.i2l, 1) := by decide +kernel
theorem dX12_readBit_33 : decode cX12_readBit 33 = .ok (.lcmp, 1) := by decide +kernel
theorem dX12_readBit_34 : decode cX12_readBit 34 = .ok (.ifCond .ge 7, 3) := by decide +kernel
theorem dX12_readBit_37 : decode cX12_readBit 37 = .ok (.iconst 1, 1) := by decide +kernel
theorem dX12_readBit_38 : decode cX12_readBit 38 = .ok (.goto 4, 3) := by decide +kernel
theorem dX12_readBit_41 : decode cX12_readBit 41 = .ok (.iconst 0, 1) := by decide +kernel
theorem dX12_readBit_42 : decode cX12_readBit 42 = .ok (.istore_n 3, 1) := by decide +kernel
theorem dX12_readBit_43 : decode cX12_readBit 43 = .ok (.iload_n 3, 1) := by decide +kernel
theorem dX12_readBit_44 : decode cX12_readBit 44 = .ok (.ifCond .ne 36, 3) := by decide +kernel
theorem dX12_readBit_47 : decode cX12_readBit 47 = .ok (.aload_n 0, 1) := by decide +kernel
theorem dX12_readBit_48 : decode cX12_readBit 48 = .ok (.aload_n 0, 1) := by decide +kernel
theorem dX12_readBit_49 : decode cX12_readBit 49 = .ok (.getfield 175, 3) := by decide +kernel
theorem dX12_readBit_52 : decode cX12_readBit 52 = .ok (.ldc2_w 198, 3) := by decide +kernel
theorem dX12_readBit_55 : decode cX12_readBit 55 = .ok (.iload_n 2, 1) := by decide +kernel
theorem dX12_readBit_56 : decode cX12_readBit 56 = .ok (.i2l, 1) := by decide +kernel
theorem dX12_readBit_57 : decode cX12_readBit 57 = .ok (.lmul, 1) := by decide +kernel
theorem dX12_readBit_58 : decode cX12_readBit 58 = .ok (.lsub, 1) := by decide +kernel
theorem dX12_readBit_59 : decode cX12_readBit 59 = .ok (.putfield 175, 3) := by decide +kernel
theorem dX12_readBit_62 : decode cX12_readBit 62 = .ok (.aload_n 0, 1) := by decide +kernel
theorem dX12_readBit_63 : decode cX12_readBit 63 = .ok (.getfield 171, 3) := by decide +kernel
theorem dX12_readBit_66 : decode cX12_readBit 66 = .ok (.ldc2_w 169, 3) := by decide +kernel
theorem dX12_readBit_69 : decode cX12_readBit 69 = .ok (.lcmp, 1) := by decide +kernel
theorem dX12_readBit_70 : decode cX12_readBit 70 = .ok (.ifCond .lt 10, 3) := by decide +kernel
theorem dX12_readBit_73 : decode cX12_readBit 73 = .ok (.aload_n 0, 1) := by decide +kernel
theorem dX12_readBit_74 : decode cX12_readBit 74 = .ok (.getfield 87, 3) := by decide +kernel
theorem dX12_readBit_77 : decode cX12_readBit 77 = .ok (.iload_n 1, 1) := by decide +kernel
theorem dX12_readBit_78 : decode cX12_readBit 78 = .ok (.iaload, 1) := by decide +kernel
theorem dX12_readBit_79 : decode cX12_readBit 79 = .ok (.ireturn, 1) := by decide +kernel
theorem dX12_readBit_80 : decode cX12_readBit 80 = .ok (.aload_n 0, 1) := by decide +kernel
theorem dX12_readBit_81 : decode cX12_readBit 81 = .ok (.getfield 171, 3) := by decide +kernel
theorem dX12_readBit_84 : decode cX12_readBit 84 = .ok (.iload_n 2, 1) := by decide +kernel
theorem dX12_readBit_85 : decode cX12_readBit 85 = .ok (.i2l, 1) := by decide +kernel
theorem dX12_readBit_86 : decode cX12_readBit 86 = .ok (.lcmp, 1) := by decide +kernel
theorem dX12_readBit_87 : decode cX12_readBit 87 = .ok (.ifCond .ge 7, 3) := by decide +kernel
theorem dX12_readBit_90 : decode cX12_readBit 90 = .ok (.iconst 1, 1) := by decide +kernel
theorem dX12_readBit_91 : decode cX12_readBit 91 = .ok (.goto 4, 3) := by decide +kernel
theorem dX12_readBit_94 : decode cX12_readBit 94 = .ok (.iconst 0, 1) := by decide +kernel
theorem dX12_readBit_95 : decode cX12_readBit 95 = .ok (.istore 4, 2) := by decide +kernel
theorem dX12_readBit_97 : decode cX12_readBit 97 = .ok (.iload_n 3, 1) := by decide +kernel
theorem dX12_readBit_98 : decode cX12_readBit 98 = .ok (.ifCond .eq 16, 3) := by decide +kernel
theorem dX12_readBit_101 : decode cX12_readBit 101 = .ok (.iload 4, 2) := by decide +kernel
theorem dX12_readBit_103 : decode cX12_readBit 103 = .ok (.ifCond .ne 7, 3) := by decide +kernel
theorem dX12_readBit_106 : decode cX12_readBit 106 = .ok (.iconst 1, 1) := by decide +kernel
theorem dX12_readBit_107 : decode cX12_readBit 107 = .ok (.goto 9, 3) := by decide +kernel
theorem dX12_readBit_110 : decode cX12_readBit 110 = .ok (.iconst 0, 1) := by decide +kernel
theorem dX12_readBit_111 : decode cX12_readBit 111 = .ok (.goto 5, 3) := by decide +kernel
theorem dX12_readBit_114 : decode cX12_readBit 114 = .ok (.iload 4, 2) := by decide +kernel
theorem dX12_readBit_116 : decode cX12_readBit 116 = .ok (.istore 5, 2) := by decide +kernel
theorem dX12_readBit_118 : decode cX12_readBit 118 = .ok (.iload 5, 2) := by decide +kernel
theorem dX12_readBit_120 : decode cX12_readBit 120 = .ok (.ifCond .eq 14, 3) := by decide +kernel
theorem dX12_readBit_123 : decode cX12_readBit 123 = .ok (.iconst 1, 1) := by decide +kernel
theorem dX12_readBit_124 : decode cX12_readBit 124 = .ok (.aload_n 0, 1) := by decide +kernel
theorem dX12_readBit_125 : decode cX12_readBit 125 = .ok (.getfield 87, 3) := by decide +kernel
theorem dX12_readBit_128 : decode cX12_readBit 128 = .ok (.iload_n 1, 1) := by decide +kernel
theorem dX12_readBit_129 : decode cX12_readBit 129 = .ok (.iaload, 1) := by decide +kernel
theorem dX12_readBit_130 : decode cX12_readBit 130 = .ok (.isub, 1) := by decide +kernel
theorem dX12_readBit_131 : decode cX12_readBit 131 = .ok (.goto 9, 3) := by decide +kernel
theorem dX12_readBit_134 : decode cX12_readBit 134 = .ok (.aload_n 0, 1) := by decide +kernel
theorem dX12_readBit_135 : decode cX12_readBit 135 = .ok (.getfield 87, 3) := by decide +kernel
theorem dX12_readBit_138 : decode cX12_readBit 138 = .ok (.iload_n 1, 1) := by decide +kernel
theorem dX12_readBit_139 : decode cX12_readBit 139 = .ok (.iaload, 1) := by decide +kernel
theorem dX12_readBit_140 : decode cX12_readBit 140 = .ok (.istore 6, 2) := by decide +kernel
theorem dX12_readBit_142 : decode cX12_readBit 142 = .ok (.aload_n 0, 1) := by decide +kernel
theorem dX12_readBit_143 : decode cX12_readBit 143 = .ok (.iload_n 3, 1) := by decide +kernel
theorem dX12_readBit_144 : decode cX12_readBit 144 = .ok (.ifCond .eq 8, 3) := by decide +kernel
theorem dX12_readBit_147 : decode cX12_readBit 147 = .ok (.iload_n 2, 1) := by decide +kernel
theorem dX12_readBit_148 : decode cX12_readBit 148 = .ok (.i2l, 1) := by decide +kernel
theorem dX12_readBit_149 : decode cX12_readBit 149 = .ok (.goto 7, 3) := by decide +kernel
theorem dX12_readBit_152 : decode cX12_readBit 152 = .ok (.aload_n 0, 1) := by decide +kernel
theorem dX12_readBit_153 : decode cX12_readBit 153 = .ok (.getfield 171, 3) := by decide +kernel
theorem dX12_readBit_156 : decode cX12_readBit 156 = .ok (.putfield 171, 3) := by decide +kernel
theorem dX12_readBit_159 : decode cX12_readBit 159 = .ok (.aload_n 0, 1) := by decide +kernel
theorem dX12_readBit_160 : decode cX12_readBit 160 = .ok (.iload_n 1, 1) := by decide +kernel
theorem dX12_readBit_161 : decode cX12_readBit 161 = .ok (.iload 5, 2) := by decide +kernel
theorem dX12_readBit_163 : decode cX12_readBit 163 = .ok (.invokevirtual 189, 3) := by decide +kernel
theorem dX12_readBit_166 : decode cX12_readBit 166 = .ok (.aload_n 0, 1) := by decide +kernel
theorem dX12_readBit_167 : decode cX12_readBit 167 = .ok (.getfield 171, 3) := by decide +kernel
theorem dX12_readBit_170 : decode cX12_readBit 170 = .ok (.ldc2_w 169, 3) := by decide +kernel
theorem dX12_readBit_173 : decode cX12_readBit 173 = .ok (.lcmp, 1) := by decide +kernel
theorem dX12_readBit_174 : decode cX12_readBit 174 = .ok (.ifCond .ge 51, 3) := by decide +kernel
theorem dX12_readBit_177 : decode cX12_readBit 177 = .ok (.aload_n 0, 1) := by decide +kernel
theorem dX12_readBit_178 : decode cX12_readBit 178 = .ok (.getfield 178, 3) := by decide +kernel
theorem dX12_readBit_181 : decode cX12_readBit 181 = .ok (.ifCond .ne 7, 3) := by decide +kernel
theorem dX12_readBit_184 : decode cX12_readBit 184 = .ok (.aload_n 0, 1) := by decide +kernel
theorem dX12_readBit_185 : decode cX12_readBit 185 = .ok (.invokevirtual 216, 3) := by decide +kernel
theorem dX12_readBit_188 : decode cX12_readBit 188 = .ok (.aload_n 0, 1) := by decide +kernel
theorem dX12_readBit_189 : decode cX12_readBit 189 = .ok (.ldc2_w 193, 3) := by decide +kernel
theorem dX12_readBit_192 : decode cX12_readBit 192 = .ok (.aload_n 0, 1) := by decide +kernel
theorem dX12_readBit_193 : decode cX12_readBit 193 = .ok (.getfield 171, 3) := by decide +kernel
theorem dX12_readBit_196 : decode cX12_readBit 196 = .ok (.lmul, 1) := by decide +kernel
theorem dX12_readBit_197 : decode cX12_readBit 197 = .ok (.putfield 171, 3) := by decide +kernel
theorem dX12_readBit_200 : decode cX12_readBit 200 = .ok (.aload_n 0, 1) := by decide +kernel
theorem dX12_readBit_201 : decode cX12_readBit 201 = .ok (.ldc2_w 193, 3) := by decide +kernel
theorem dX12_readBit_204 : decode cX12_readBit 204 = .ok (.aload_n 0, 1) := by decide +kernel
theorem dX12_readBit_205 : decode cX12_readBit 205 = .ok (.getfield 175, 3) := by decide +kernel
theorem dX12_readBit_208 : decode cX12_readBit 208 = .ok (.lmul, 1) := by decide +kernel
theorem dX12_readBit_209 : decode cX12_readBit 209 = .ok (.putfield 175, 3) := by decide +kernel
theorem dX12_readBit_212 : decode cX12_readBit 212 = .ok (.aload_n 0, 1) := by decide +kernel
theorem dX12_readBit_213 : decode cX12_readBit 213 = .ok (.dup, 1) := by decide +kernel
theorem dX12_readBit_214 : decode cX12_readBit 214 = .ok (.getfield 178, 3) := by decide +kernel
theorem dX12_readBit_217 : decode cX12_readBit 217 = .ok (.iconst 1, 1) := by decide +kernel
theorem dX12_readBit_218 : decode cX12_readBit 218 = .ok (.isub, 1) := by decide +kernel
theorem dX12_readBit_219 : decode cX12_readBit 219 = .ok (.putfield 178, 3) := by decide +kernel
theorem dX12_readBit_222 : decode cX12_readBit 222 = .ok (.goto (-56), 3) := by decide +kernel
theorem dX12_readBit_225 : decode cX12_readBit 225 = .ok (.iload 6, 2) := by decide +kernel
theorem dX12_readBit_227 : decode cX12_readBit 227 = .ok (.ireturn, 1) := by decide +kernel
theorem dX12_code_0 : decode cX12_code 0 = .ok (.aload_n 0, 1) := by decide +kernel
theorem dX12_code_1 : decode cX12_code 1 = .ok (.getfield 163, 3) := by decide +kernel
theorem dX12_code_4 : decode cX12_code 4 = .ok (.ifCond .ne 10, 3) := by decide +kernel
theorem dX12_code_7 : decode cX12_code 7 = .ok (.aload_n 0, 1) := by decide +kernel
theorem dX12_code_8 : decode cX12_code 8 = .ok (.iload_n 1, 1) := by decide +kernel
theorem dX12_code_9 : decode cX12_code 9 = .ok (.iload_n 2, 1) := by decide +kernel
theorem dX12_code_10 : decode cX12_code 10 = .ok (.invokevirtual 221, 3) := by decide +kernel
theorem dX12_code_13 : decode cX12_code 13 = .ok (.ireturn, 1) := by decide +kernel
theorem dX12_code_14 : decode cX12_code 14 = .ok (.aload_n 0, 1) := by decide +kernel
theorem dX12_code_15 : decode cX12_code 15 = .ok (.iload_n 1, 1) := by decide +kernel
theorem dX12_code_16 : decode cX12_code 16 = .ok (.invokevirtual 224, 3) := by decide +kernel
theorem dX12_code_19 : decode cX12_code 19 = .ok (.istore_n 3, 1) := by decide +kernel
theorem dX12_code_20 : decode cX12_code 20 = .ok (.aload_n 0, 1) := by decide +kernel
theorem dX12_code_21 : decode cX12_code 21 = .ok (.getfield 163, 3) := by decide +kernel
theorem dX12_code_24 : decode cX12_code 24 = .ok (.iconst 1, 1) := by decide +kernel
theorem dX12_code_25 : decode cX12_code 25 = .ok (.if_icmp .ne 5, 3) := by decide +kernel
