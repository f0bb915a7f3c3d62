theorem dL_law_538 : decode cL_law 538 = .ok (.istore 16, 2) := by decide +kernel
theorem dL_law_540 : decode cL_law 540 = .ok (.aload_n 1, 1) := by decide +kernel
theorem dL_law_541 : decode cL_law 541 = .ok (.iload 13, 2) := by decide +kernel
theorem dL_law_543 : decode cL_law 543 = .ok (.invokestatic 171, 3) := by decide +kernel
theorem dL_law_546 : decode cL_law 546 = .ok (.iload 17, 2) := by decide +kernel
theorem dL_law_548 : decode cL_law 548 = .ok (.if_icmp .ne 32, 3) := by decide +kernel
theorem dL_law_551 : decode cL_law 551 = .ok (.iload 16, 2) := by decide +kernel
theorem dL_law_553 : decode cL_law 553 = .ok (.ifCond .ne 23, 3) := by decide +kernel
theorem dL_law_556 : decode cL_law 556 = .ok (.aload_n 1, 1) := by decide +kernel
theorem dL_law_557 : decode cL_law 557 = .ok (.iload 13, 2) := by decide +kernel
theorem dL_law_559 : decode cL_law 559 = .ok (.invokestatic 167, 3) := by decide +kernel
theorem dL_law_562 : decode cL_law 562 = .ok (.ifCond .ne 18, 3) := by decide +kernel
theorem dL_law_565 : decode cL_law 565 = .ok (.aload_n 1, 1) := by decide +kernel
theorem dL_law_566 : decode cL_law 566 = .ok (.iload 13, 2) := by decide +kernel
theorem dL_law_568 : decode cL_law 568 = .ok (.invokestatic 169, 3) := by decide +kernel
theorem dL_law_571 : decode cL_law 571 = .ok (.bipush 99, 2) := by decide +kernel
theorem dL_law_573 : decode cL_law 573 = .ok (.if_icmp .ne 7, 3) := by decide +kernel
theorem dL_law_576 : decode cL_law 576 = .ok (.iconst 1, 1) := by decide +kernel
theorem dL_law_577 : decode cL_law 577 = .ok (.goto 4, 3) := by decide +kernel
theorem dL_law_580 : decode cL_law 580 = .ok (.iconst 0, 1) := by decide +kernel
theorem dL_law_581 : decode cL_law 581 = .ok (.istore 5, 2) := by decide +kernel
theorem dL_law_583 : decode cL_law 583 = .ok (.goto 538, 3) := by decide +kernel
theorem dL_law_586 : decode cL_law 586 = .ok (.iload 15, 2) := by decide +kernel
theorem dL_law_588 : decode cL_law 588 = .ok (.bipush 13, 2) := by decide +kernel
theorem dL_law_590 : decode cL_law 590 = .ok (.if_icmp .ge 83, 3) := by decide +kernel
theorem dL_law_593 : decode cL_law 593 = .ok (.iload 14, 2) := by decide +kernel
theorem dL_law_595 : decode cL_law 595 = .ok (.iload_n 2, 1) := by decide +kernel
theorem dL_law_596 : decode cL_law 596 = .ok (.iload_n 3, 1) := by decide +kernel
theorem dL_law_597 : decode cL_law 597 = .ok (.iadd, 1) := by decide +kernel
theorem dL_law_598 : decode cL_law 598 = .ok (.iconst 1, 1) := by decide +kernel
theorem dL_law_599 : decode cL_law 599 = .ok (.iadd, 1) := by decide +kernel
theorem dL_law_600 : decode cL_law 600 = .ok (.irem, 1) := by decide +kernel
theorem dL_law_601 : decode cL_law 601 = .ok (.istore 17, 2) := by decide +kernel
theorem dL_law_603 : decode cL_law 603 = .ok (.iload 14, 2) := by decide +kernel
theorem dL_law_605 : decode cL_law 605 = .ok (.bipush 101, 2) := by decide +kernel
theorem dL_law_607 : decode cL_law 607 = .ok (.irem, 1) := by decide +kernel
theorem dL_law_608 : decode cL_law 608 = .ok (.istore 18, 2) := by decide +kernel
theorem dL_law_610 : decode cL_law 610 = .ok (.aload_n 1, 1) := by decide +kernel
theorem dL_law_611 : decode cL_law 611 = .ok (.iload 17, 2) := by decide +kernel
theorem dL_law_613 : decode cL_law 613 = .ok (.invokestatic 173, 3) := by decide +kernel
theorem dL_law_616 : decode cL_law 616 = .ok (.istore 19, 2) := by decide +kernel
theorem dL_law_618 : decode cL_law 618 = .ok (.aload_n 1, 1) := by decide +kernel
theorem dL_law_619 : decode cL_law 619 = .ok (.iload 17, 2) := by decide +kernel
theorem dL_law_621 : decode cL_law 621 = .ok (.iload 18, 2) := by decide +kernel
theorem dL_law_623 : decode cL_law 623 = .ok (.invokestatic 175, 3) := by decide +kernel
theorem dL_law_626 : decode cL_law 626 = .ok (.istore 20, 2) := by decide +kernel
theorem dL_law_628 : decode cL_law 628 = .ok (.iload 20, 2) := by decide +kernel
theorem dL_law_630 : decode cL_law 630 = .ok (.ifCond .ge 7, 3) := by decide +kernel
theorem dL_law_633 : decode cL_law 633 = .ok (.iconst 1, 1) := by decide +kernel
theorem dL_law_634 : decode cL_law 634 = .ok (.goto 4, 3) := by decide +kernel
theorem dL_law_637 : decode cL_law 637 = .ok (.iconst 0, 1) := by decide +kernel
theorem dL_law_638 : decode cL_law 638 = .ok (.istore 16, 2) := by decide +kernel
theorem dL_law_640 : decode cL_law 640 = .ok (.iload 20, 2) := by decide +kernel
theorem dL_law_642 : decode cL_law 642 = .ok (.ifCond .lt 21, 3) := by decide +kernel
theorem dL_law_645 : decode cL_law 645 = .ok (.iload 20, 2) := by decide +kernel
theorem dL_law_647 : decode cL_law 647 = .ok (.iload 19, 2) := by decide +kernel
theorem dL_law_649 : decode cL_law 649 = .ok (.if_icmp .ne 18, 3) := by decide +kernel
theorem dL_law_652 : decode cL_law 652 = .ok (.aload_n 1, 1) := by decide +kernel
theorem dL_law_653 : decode cL_law 653 = .ok (.iload 17, 2) := by decide +kernel
theorem dL_law_655 : decode cL_law 655 = .ok (.invokestatic 173, 3) := by decide +kernel
theorem dL_law_658 : decode cL_law 658 = .ok (.iload 18, 2) := by decide +kernel
theorem dL_law_660 : decode cL_law 660 = .ok (.if_icmp .ne 7, 3) := by decide +kernel
theorem dL_law_663 : decode cL_law 663 = .ok (.iconst 1, 1) := by decide +kernel
theorem dL_law_664 : decode cL_law 664 = .ok (.goto 4, 3) := by decide +kernel
theorem dL_law_667 : decode cL_law 667 = .ok (.iconst 0, 1) := by decide +kernel
theorem dL_law_668 : decode cL_law 668 = .ok (.istore 5, 2) := by decide +kernel
theorem dL_law_670 : decode cL_law 670 = .ok (.goto 451, 3) := by decide +kernel
theorem dL_law_673 : decode cL_law 673 = .ok (.iload 15, 2) := by decide +kernel
theorem dL_law_675 : decode cL_law 675 = .ok (.bipush 13, 2) := by decide +kernel
theorem dL_law_677 : decode cL_law 677 = .ok (.if_icmp .ne 76, 3) := by decide +kernel
theorem dL_law_680 : decode cL_law 680 = .ok (.aload_n 1, 1) := by decide +kernel
theorem dL_law_681 : decode cL_law 681 = .ok (.iload 13, 2) := by decide +kernel
theorem dL_law_683 : decode cL_law 683 = .ok (.iload 14, 2) := by decide +kernel
theorem dL_law_685 : decode cL_law 685 = .ok (.sipush 500, 3) := by decide +kernel
theorem dL_law_688 : decode cL_law 688 = .ok (.irem, 1) := by decide +kernel
theorem dL_law_689 : decode cL_law 689 = .ok (.iconst 1, 1) := by decide +kernel
theorem dL_law_690 : decode cL_law 690 = .ok (.iload 14, 2) := by decide +kernel
theorem dL_law_692 : decode cL_law 692 = .ok (.bipush 10, 2) := by decide +kernel
theorem dL_law_694 : decode cL_law 694 = .ok (.irem, 1) := by decide +kernel
theorem dL_law_695 : decode cL_law 695 = .ok (.iadd, 1) := by decide +kernel
theorem dL_law_696 : decode cL_law 696 = .ok (.iload 14, 2) := by decide +kernel
theorem dL_law_698 : decode cL_law 698 = .ok (.iconst 3, 1) := by decide +kernel
theorem dL_law_699 : decode cL_law 699 = .ok (.irem, 1) := by decide +kernel
theorem dL_law_700 : decode cL_law 700 = .ok (.ifCond .ne 7, 3) := by decide +kernel
theorem dL_law_703 : decode cL_law 703 = .ok (.iconst 0, 1) := by decide +kernel
theorem dL_law_704 : decode cL_law 704 = .ok (.goto 9, 3) := by decide +kernel
theorem dL_law_707 : decode cL_law 707 = .ok (.iload 14, 2) := by decide +kernel
theorem dL_law_709 : decode cL_law 709 = .ok (.sipush 700, 3) := by decide +kernel
theorem dL_law_712 : decode cL_law 712 = .ok (.irem, 1) := by decide +kernel
theorem dL_law_713 : decode cL_law 713 = .ok (.invokestatic 177, 3) := by decide +kernel
theorem dL_law_716 : decode cL_law 716 = .ok (.istore 17, 2) := by decide +kernel
theorem dL_law_718 : decode cL_law 718 = .ok (.iconst 1, 1) := by decide +kernel
theorem dL_law_719 : decode cL_law 719 = .ok (.istore 16, 2) := by decide +kernel
theorem dL_law_721 : decode cL_law 721 = .ok (.iload 17, 2) := by decide +kernel
theorem dL_law_723 : decode cL_law 723 = .ok (.ifCond .lt 20, 3) := by decide +kernel
theorem dL_law_726 : decode cL_law 726 = .ok (.aload_n 1, 1) := by decide +kernel
theorem dL_law_727 : decode cL_law 727 = .ok (.iload 13, 2) := by decide +kernel
theorem dL_law_729 : decode cL_law 729 = .ok (.iload 14, 2) := by decide +kernel
theorem dL_law_731 : decode cL_law 731 = .ok (.sipush 500, 3) := by decide +kernel
theorem dL_law_734 : decode cL_law 734 = .ok (.irem, 1) := by decide +kernel
theorem dL_law_735 : decode cL_law 735 = .ok (.iconst 1, 1) := by decide +kernel
theorem dL_law_736 : decode cL_law 736 = .ok (.iadd, 1) := by decide +kernel
theorem dL_law_737 : decode cL_law 737 = .ok (.invokestatic 180, 3) := by decide +kernel
theorem dL_law_740 : decode cL_law 740 = .ok (.ifCond .le 7, 3) := by decide +kernel
theorem dL_law_743 : decode cL_law 743 = .ok (.iconst 1, 1) := by decide +kernel
theorem dL_law_744 : decode cL_law 744 = .ok (.goto 4, 3) := by decide +kernel
theorem dL_law_747 : decode cL_law 747 = .ok (.iconst 0, 1) := by decide +kernel
theorem dL_law_748 : decode cL_law 748 = .ok (.istore 5, 2) := by decide +kernel
theorem dL_law_750 : decode cL_law 750 = .ok (.goto 371, 3) := by decide +kernel
theorem dL_law_753 : decode cL_law 753 = .ok (.iload 15, 2) := by decide +kernel
theorem dL_law_755 : decode cL_law 755 = .ok (.bipush 16, 2) := by decide +kernel
theorem dL_law_757 : decode cL_law 757 = .ok (.if_icmp .ge 144, 3) := by decide +kernel
theorem dL_law_760 : decode cL_law 760 = .ok (.aload_n 1, 1) := by decide +kernel
theorem dL_law_761 : decode cL_law 761 = .ok (.iload 13, 2) := by decide +kernel
theorem dL_law_763 : decode cL_law 763 = .ok (.invokestatic 182, 3) := by decide +kernel
theorem dL_law_766 : decode cL_law 766 = .ok (.istore 17, 2) := by decide +kernel
theorem dL_law_768 : decode cL_law 768 = .ok (.aload_n 1, 1) := by decide +kernel
theorem dL_law_769 : decode cL_law 769 = .ok (.iload 13, 2) := by decide +kernel
theorem dL_law_771 : decode cL_law 771 = .ok (.invokestatic 184, 3) := by decide +kernel
theorem dL_law_774 : decode cL_law 774 = .ok (.istore 18, 2) := by decide +kernel
theorem dL_law_776 : decode cL_law 776 = .ok (.aload_n 1, 1) := by decide +kernel
theorem dL_law_777 : decode cL_law 777 = .ok (.invokevirtual 186, 3) := by decide +kernel
theorem dL_law_780 : decode cL_law 780 = .ok (.istore 19, 2) := by decide +kernel
theorem dL_law_782 : decode cL_law 782 = .ok (.aload_n 1, 1) := by decide +kernel
theorem dL_law_783 : decode cL_law 783 = .ok (.iload 13, 2) := by decide +kernel
theorem dL_law_785 : decode cL_law 785 = .ok (.invokestatic 189, 3) := by decide +kernel
theorem dL_law_788 : decode cL_law 788 = .ok (.istore 20, 2) := by decide +kernel
theorem dL_law_790 : decode cL_law 790 = .ok (.iload 20, 2) := by decide +kernel
theorem dL_law_792 : decode cL_law 792 = .ok (.bipush (-2), 2) := by decide +kernel
theorem dL_law_794 : decode cL_law 794 = .ok (.if_icmp .ge 7, 3) := by decide +kernel
theorem dL_law_797 : decode cL_law 797 = .ok (.iconst 1, 1) := by decide +kernel
theorem dL_law_798 : decode cL_law 798 = .ok (.goto 4, 3) := by decide +kernel
theorem dL_law_801 : decode cL_law 801 = .ok (.iconst 0, 1) := by decide +kernel
theorem dL_law_802 : decode cL_law 802 = .ok (.istore 16, 2) := by decide +kernel
theorem dL_law_804 : decode cL_law 804 = .ok (.iload 16, 2) := by decide +kernel
theorem dL_law_806 : decode cL_law 806 = .ok (.ifCond .eq 24, 3) := by decide +kernel
theorem dL_law_809 : decode cL_law 809 = .ok (.iload 20, 2) := by decide +kernel
theorem dL_law_811 : decode cL_law 811 = .ok (.bipush (-75), 2) := by decide +kernel
theorem dL_law_813 : decode cL_law 813 = .ok (.if_icmp .eq 9, 3) := by decide +kernel
theorem dL_law_816 : decode cL_law 816 = .ok (.iload 18, 2) := by decide +kernel
theorem dL_law_818 : decode cL_law 818 = .ok (.iconst 1, 1) := by decide +kernel
theorem dL_law_819 : decode cL_law 819 = .ok (.if_icmp .ne 7, 3) := by decide +kernel
theorem dL_law_822 : decode cL_law 822 = .ok (.iconst 1, 1) := by decide +kernel
theorem dL_law_823 : decode cL_law 823 = .ok (.goto 73, 3) := by decide +kernel
theorem dL_law_826 : decode cL_law 826 = .ok (.iconst 0, 1) := by decide +kernel
theorem dL_law_827 : decode cL_law 827 = .ok (.goto 69, 3) := by decide +kernel
theorem dL_law_830 : decode cL_law 830 = .ok (.iload 20, 2) := by decide +kernel
theorem dL_law_832 : decode cL_law 832 = .ok (.iload 17, 2) := by decide +kernel
theorem dL_law_834 : decode cL_law 834 = .ok (.if_icmp .ne 61, 3) := by decide +kernel
theorem dL_law_837 : decode cL_law 837 = .ok (.aload_n 1, 1) := by decide +kernel
theorem dL_law_838 : decode cL_law 838 = .ok (.iload 13, 2) := by decide +kernel
theorem dL_law_840 : decode cL_law 840 = .ok (.invokestatic 184, 3) := by decide +kernel
theorem dL_law_843 : decode cL_law 843 = .ok (.iconst 1, 1) := by decide +kernel
theorem dL_law_844 : decode cL_law 844 = .ok (.if_icmp .ne 51, 3) := by decide +kernel
theorem dL_law_847 : decode cL_law 847 = .ok (.aload_n 1, 1) := by decide +kernel
theorem dL_law_848 : decode cL_law 848 = .ok (.invokevirtual 186, 3) := by decide +kernel
theorem dL_law_851 : decode cL_law 851 = .ok (.iload 19, 2) := by decide +kernel
theorem dL_law_853 : decode cL_law 853 = .ok (.iload 20, 2) := by decide +kernel
theorem dL_law_855 : decode cL_law 855 = .ok (.ifCond .lt 7, 3) := by decide +kernel
theorem dL_law_858 : decode cL_law 858 = .ok (.iconst 1, 1) := by decide +kernel
theorem dL_law_859 : decode cL_law 859 = .ok (.goto 4, 3) := by decide +kernel
theorem dL_law_862 : decode cL_law 862 = .ok (.iconst 0, 1) := by decide +kernel
theorem dL_law_863 : decode cL_law 863 = .ok (.iadd, 1) := by decide +kernel
theorem dL_law_864 : decode cL_law 864 = .ok (.if_icmp .ne 31, 3) := by decide +kernel
theorem dL_law_867 : decode cL_law 867 = .ok (.iload 20, 2) := by decide +kernel
theorem dL_law_869 : decode cL_law 869 = .ok (.ifCond .lt 22, 3) := by decide +kernel
theorem dL_law_872 : decode cL_law 872 = .ok (.aload_n 1, 1) := by decide +kernel
theorem dL_law_873 : decode cL_law 873 = .ok (.iload 20, 2) := by decide +kernel
theorem dL_law_875 : decode cL_law 875 = .ok (.invokestatic 191, 3) := by decide +kernel
theorem dL_law_878 : decode cL_law 878 = .ok (.iconst 1, 1) := by decide +kernel
theorem dL_law_879 : decode cL_law 879 = .ok (.if_icmp .ne 16, 3) := by decide +kernel
theorem dL_law_882 : decode cL_law 882 = .ok (.aload_n 1, 1) := by decide +kernel
theorem dL_law_883 : decode cL_law 883 = .ok (.iload 20, 2) := by decide +kernel
theorem dL_law_885 : decode cL_law 885 = .ok (.invokestatic 167, 3) := by decide +kernel
theorem dL_law_888 : decode cL_law 888 = .ok (.ifCond .ne 7, 3) := by decide +kernel
theorem dL_law_891 : decode cL_law 891 = .ok (.iconst 1, 1) := by decide +kernel
theorem dL_law_892 : decode cL_law 892 = .ok (.goto 4, 3) := by decide +kernel
theorem dL_law_895 : decode cL_law 895 = .ok (.iconst 0, 1) := by decide +kernel
theorem dL_law_896 : decode cL_law 896 = .ok (.istore 5, 2) := by decide +kernel
theorem dL_law_898 : decode cL_law 898 = .ok (.goto 223, 3) := by decide +kernel
theorem dL_law_901 : decode cL_law 901 = .ok (.iload 15, 2) := by decide +kernel
theorem dL_law_903 : decode cL_law 903 = .ok (.bipush 16, 2) := by decide +kernel
theorem dL_law_905 : decode cL_law 905 = .ok (.if_icmp .ne 53, 3) := by decide +kernel
theorem dL_law_908 : decode cL_law 908 = .ok (.aload_n 1, 1) := by decide +kernel
theorem dL_law_909 : decode cL_law 909 = .ok (.iload 13, 2) := by decide +kernel
theorem dL_law_911 : decode cL_law 911 = .ok (.invokestatic 191, 3) := by decide +kernel
theorem dL_law_914 : decode cL_law 914 = .ok (.istore 17, 2) := by decide +kernel
theorem dL_law_916 : decode cL_law 916 = .ok (.aload_n 1, 1) := by decide +kernel
theorem dL_law_917 : decode cL_law 917 = .ok (.iload 13, 2) := by decide +kernel
theorem dL_law_919 : decode cL_law 919 = .ok (.invokestatic 193, 3) := by decide +kernel
theorem dL_law_922 : decode cL_law 922 = .ok (.istore 18, 2) := by decide +kernel
theorem dL_law_924 : decode cL_law 924 = .ok (.iconst 1, 1) := by decide +kernel
theorem dL_law_925 : decode cL_law 925 = .ok (.istore 16, 2) := by decide +kernel
theorem dL_law_927 : decode cL_law 927 = .ok (.iload 18, 2) := by decide +kernel
theorem dL_law_929 : decode cL_law 929 = .ok (.ifCond .lt 19, 3) := by decide +kernel
theorem dL_law_932 : decode cL_law 932 = .ok (.iload 18, 2) := by decide +kernel
theorem dL_law_934 : decode cL_law 934 = .ok (.iload 17, 2) := by decide +kernel
theorem dL_law_936 : decode cL_law 936 = .ok (.if_icmp .ne 16, 3) := by decide +kernel
theorem dL_law_939 : decode cL_law 939 = .ok (.aload_n 1, 1) := by decide +kernel
theorem dL_law_940 : decode cL_law 940 = .ok (.iload 13, 2) := by decide +kernel
theorem dL_law_942 : decode cL_law 942 = .ok (.invokestatic 184, 3) := by decide +kernel
theorem dL_law_945 : decode cL_law 945 = .ok (.ifCond .ne 7, 3) := by decide +kernel
theorem dL_law_948 : decode cL_law 948 = .ok (.iconst 1, 1) := by decide +kernel
theorem dL_law_949 : decode cL_law 949 = .ok (.goto 4, 3) := by decide +kernel
theorem dL_law_952 : decode cL_law 952 = .ok (.iconst 0, 1) := by decide +kernel
theorem dL_law_953 : decode cL_law 953 = .ok (.istore 5, 2) := by decide +kernel
theorem dL_law_955 : decode cL_law 955 = .ok (.goto 166, 3) := by decide +kernel
theorem dL_law_958 : decode cL_law 958 = .ok (.iload 15, 2) := by decide +kernel
theorem dL_law_960 : decode cL_law 960 = .ok (.bipush 19, 2) := by decide +kernel
theorem dL_law_962 : decode cL_law 962 = .ok (.if_icmp .ge 47, 3) := by decide +kernel
theorem dL_law_965 : decode cL_law 965 = .ok (.aload_n 1, 1) := by decide +kernel
theorem dL_law_966 : decode cL_law 966 = .ok (.iload 13, 2) := by decide +kernel
theorem dL_law_968 : decode cL_law 968 = .ok (.invokestatic 195, 3) := by decide +kernel
theorem dL_law_971 : decode cL_law 971 = .ok (.istore 17, 2) := by decide +kernel
theorem dL_law_973 : decode cL_law 973 = .ok (.iload 17, 2) := by decide +kernel
theorem dL_law_975 : decode cL_law 975 = .ok (.ifCond .ge 7, 3) := by decide +kernel
theorem dL_law_978 : decode cL_law 978 = .ok (.iconst 1, 1) := by decide +kernel
theorem dL_law_979 : decode cL_law 979 = .ok (.goto 4, 3) := by decide +kernel
theorem dL_law_982 : decode cL_law 982 = .ok (.iconst 0, 1) := by decide +kernel
theorem dL_law_983 : decode cL_law 983 = .ok (.istore 16, 2) := by decide +kernel
theorem dL_law_985 : decode cL_law 985 = .ok (.iload 17, 2) := by decide +kernel
theorem dL_law_987 : decode cL_law 987 = .ok (.ifCond .lt 12, 3) := by decide +kernel
theorem dL_law_990 : decode cL_law 990 = .ok (.aload_n 1, 1) := by decide +kernel
theorem dL_law_991 : decode cL_law 991 = .ok (.iload 13, 2) := by decide +kernel
theorem dL_law_993 : decode cL_law 993 = .ok (.invokestatic 191, 3) := by decide +kernel
theorem dL_law_996 : decode cL_law 996 = .ok (.ifCond .ne 7, 3) := by decide +kernel
theorem dL_law_999 : decode cL_law 999 = .ok (.iconst 1, 1) := by decide +kernel
theorem dL_law_1000 : decode cL_law 1000 = .ok (.goto 4, 3) := by decide +kernel
theorem dL_law_1003 : decode cL_law 1003 = .ok (.iconst 0, 1) := by decide +kernel
theorem dL_law_1004 : decode cL_law 1004 = .ok (.istore 5, 2) := by decide +kernel
theorem dL_law_1006 : decode cL_law 1006 = .ok (.goto 115, 3) := by decide +kernel
theorem dL_law_1009 : decode cL_law 1009 = .ok (.aload_n 1, 1) := by decide +kernel
theorem dL_law_1010 : decode cL_law 1010 = .ok (.invokevirtual 197, 3) := by decide +kernel
theorem dL_law_1013 : decode cL_law 1013 = .ok (.istore 17, 2) := by decide +kernel
theorem dL_law_1015 : decode cL_law 1015 = .ok (.aload_n 1, 1) := by decide +kernel
theorem dL_law_1016 : decode cL_law 1016 = .ok (.invokevirtual 200, 3) := by decide +kernel
theorem dL_law_1019 : decode cL_law 1019 = .ok (.istore 18, 2) := by decide +kernel
theorem dL_law_1021 : decode cL_law 1021 = .ok (.aload_n 1, 1) := by decide +kernel
theorem dL_law_1022 : decode cL_law 1022 = .ok (.invokestatic 203, 3) := by decide +kernel
theorem dL_law_1025 : decode cL_law 1025 = .ok (.istore 19, 2) := by decide +kernel
theorem dL_law_1027 : decode cL_law 1027 = .ok (.aload_n 1, 1) := by decide +kernel
theorem dL_law_1028 : decode cL_law 1028 = .ok (.iconst 0, 1) := by decide +kernel
theorem dL_law_1029 : decode cL_law 1029 = .ok (.invokestatic 206, 3) := by decide +kernel
theorem dL_law_1032 : decode cL_law 1032 = .ok (.istore 20, 2) := by decide +kernel
theorem dL_law_1034 : decode cL_law 1034 = .ok (.iload 19, 2) := by decide +kernel
theorem dL_law_1036 : decode cL_law 1036 = .ok (.bipush (-76), 2) := by decide +kernel
theorem dL_law_1038 : decode cL_law 1038 = .ok (.if_icmp .eq 19, 3) := by decide +kernel
theorem dL_law_1041 : decode cL_law 1041 = .ok (.iload 19, 2) := by decide +kernel
theorem dL_law_1043 : decode cL_law 1043 = .ok (.iload 17, 2) := by decide +kernel
theorem dL_law_1045 : decode cL_law 1045 = .ok (.if_icmp .ne 73, 3) := by decide +kernel
theorem dL_law_1048 : decode cL_law 1048 = .ok (.aload_n 1, 1) := by decide +kernel
theorem dL_law_1049 : decode cL_law 1049 = .ok (.invokestatic 208, 3) := by decide +kernel
theorem dL_law_1052 : decode cL_law 1052 = .ok (.iload 18, 2) := by decide +kernel
theorem dL_law_1054 : decode cL_law 1054 = .ok (.if_icmp .ne 64, 3) := by decide +kernel
theorem dL_law_1057 : decode cL_law 1057 = .ok (.aload_n 1, 1) := by decide +kernel
theorem dL_law_1058 : decode cL_law 1058 = .ok (.invokevirtual 210, 3) := by decide +kernel
theorem dL_law_1061 : decode cL_law 1061 = .ok (.iload 18, 2) := by decide +kernel
theorem dL_law_1063 : decode cL_law 1063 = .ok (.if_icmp .ne 55, 3) := by decide +kernel
theorem dL_law_1066 : decode cL_law 1066 = .ok (.iload 18, 2) := by decide +kernel
theorem dL_law_1068 : decode cL_law 1068 = .ok (.ifCond .eq 13, 3) := by decide +kernel
theorem dL_law_1071 : decode cL_law 1071 = .ok (.aload_n 1, 1) := by decide +kernel
theorem dL_law_1072 : decode cL_law 1072 = .ok (.iload 20, 2) := by decide +kernel
theorem dL_law_1074 : decode cL_law 1074 = .ok (.invokestatic 167, 3) := by decide +kernel
theorem dL_law_1077 : decode cL_law 1077 = .ok (.iconst 1, 1) := by decide +kernel
theorem dL_law_1078 : decode cL_law 1078 = .ok (.if_icmp .ne 40, 3) := by decide +kernel
theorem dL_law_1081 : decode cL_law 1081 = .ok (.aload_n 1, 1) := by decide +kernel
theorem dL_law_1082 : decode cL_law 1082 = .ok (.invokevirtual 197, 3) := by decide +kernel
theorem dL_law_1085 : decode cL_law 1085 = .ok (.iload 17, 2) := by decide +kernel
theorem dL_law_1087 : decode cL_law 1087 = .ok (.if_icmp .lt 31, 3) := by decide +kernel
theorem dL_law_1090 : decode cL_law 1090 = .ok (.iload 18, 2) := by decide +kernel
theorem dL_law_1092 : decode cL_law 1092 = .ok (.ifCond .gt 13, 3) := by decide +kernel
theorem dL_law_1095 : decode cL_law 1095 = .ok (.aload_n 1, 1) := by decide +kernel
theorem dL_law_1096 : decode cL_law 1096 = .ok (.invokestatic 159, 3) := by decide +kernel
theorem dL_law_1099 : decode cL_law 1099 = .ok (.lload 11, 2) := by decide +kernel
theorem dL_law_1101 : decode cL_law 1101 = .ok (.lcmp, 1) := by decide +kernel
theorem dL_law_1102 : decode cL_law 1102 = .ok (.ifCond .ne 16, 3) := by decide +kernel
theorem dL_law_1105 : decode cL_law 1105 = .ok (.aload_n 1, 1) := by decide +kernel
theorem dL_law_1106 : decode cL_law 1106 = .ok (.invokestatic 213, 3) := by decide +kernel
theorem dL_law_1109 : decode cL_law 1109 = .ok (.iload 17, 2) := by decide +kernel
theorem dL_law_1111 : decode cL_law 1111 = .ok (.if_icmp .ne 7, 3) := by decide +kernel
theorem dL_law_1114 : decode cL_law 1114 = .ok (.iconst 1, 1) := by decide +kernel
theorem dL_law_1115 : decode cL_law 1115 = .ok (.goto 4, 3) := by decide +kernel
theorem dL_law_1118 : decode cL_law 1118 = .ok (.iconst 0, 1) := by decide +kernel
theorem dL_law_1119 : decode cL_law 1119 = .ok (.istore 5, 2) := by decide +kernel
theorem dL_law_1121 : decode cL_law 1121 = .ok (.iinc 9 3, 3) := by decide +kernel
theorem dL_law_1124 : decode cL_law 1124 = .ok (.iload 5, 2) := by decide +kernel
theorem dL_law_1126 : decode cL_law 1126 = .ok (.iload 16, 2) := by decide +kernel
theorem dL_law_1128 : decode cL_law 1128 = .ok (.ifCond .eq 13, 3) := by decide +kernel
theorem dL_law_1131 : decode cL_law 1131 = .ok (.aload_n 1, 1) := by decide +kernel
theorem dL_law_1132 : decode cL_law 1132 = .ok (.invokestatic 159, 3) := by decide +kernel
theorem dL_law_1135 : decode cL_law 1135 = .ok (.lload 11, 2) := by decide +kernel
theorem dL_law_1137 : decode cL_law 1137 = .ok (.lcmp, 1) := by decide +kernel
theorem dL_law_1138 : decode cL_law 1138 = .ok (.ifCond .ne 22, 3) := by decide +kernel
theorem dL_law_1141 : decode cL_law 1141 = .ok (.aload_n 1, 1) := by decide +kernel
theorem dL_law_1142 : decode cL_law 1142 = .ok (.iload 4, 2) := by decide +kernel
theorem dL_law_1144 : decode cL_law 1144 = .ok (.aload 7, 2) := by decide +kernel
theorem dL_law_1146 : decode cL_law 1146 = .ok (.aload 8, 2) := by decide +kernel
theorem dL_law_1148 : decode cL_law 1148 = .ok (.aload 6, 2) := by decide +kernel
theorem dL_law_1150 : decode cL_law 1150 = .ok (.invokestatic 216, 3) := by decide +kernel
theorem dL_law_1153 : decode cL_law 1153 = .ok (.ifCond .eq 7, 3) := by decide +kernel
theorem dL_law_1156 : decode cL_law 1156 = .ok (.iconst 1, 1) := by decide +kernel
theorem dL_law_1157 : decode cL_law 1157 = .ok (.goto 4, 3) := by decide +kernel
theorem dL_law_1160 : decode cL_law 1160 = .ok (.iconst 0, 1) := by decide +kernel
theorem dL_law_1161 : decode cL_law 1161 = .ok (.iand, 1) := by decide +kernel
theorem dL_law_1162 : decode cL_law 1162 = .ok (.istore 5, 2) := by decide +kernel
theorem dL_law_1164 : decode cL_law 1164 = .ok (.iinc 10 1, 3) := by decide +kernel
theorem dL_law_1167 : decode cL_law 1167 = .ok (.goto (-811), 3) := by decide +kernel
theorem dL_law_1170 : decode cL_law 1170 = .ok (.iload 5, 2) := by decide +kernel
theorem dL_law_1172 : decode cL_law 1172 = .ok (.ireturn, 1) := by decide +kernel
set_option maxRecDepth 20000 in
theorem ggL_sum_X5_trips : GoodIn wsL_sum wsX5_trips := goodIn_r _ [8, 9, 72, 73, 74, 75, 76, 77] (by decide +kernel) (by decide +kernel)
set_option maxRecDepth 20000 in
theorem gL_sum_X5_trips : GoodIn wsL_sum (wsV RL 186 RX5 yX5_trips wsX5_trips) := goodIn_app (goodIn_of _ (by decide +kernel)) ggL_sum_X5_trips
set_option maxRecDepth 20000 in
theorem ggL_sum_X5_lines : GoodIn wsL_sum wsX5_lines := goodIn_r _ [13, 14, 72, 73, 74, 75, 76, 77, 78, 79, 80, 81, 82, 83, 84, 85, 86, 87] (by decide +kernel) (by decide +kernel)
set_option maxRecDepth 20000 in
theorem gL_sum_X5_lines : GoodIn wsL_sum (wsV RL 220 RX5 yX5_lines wsX5_lines) := goodIn_app (goodIn_of _ (by decide +kernel)) ggL_sum_X5_lines
set_option maxRecDepth 20000 in
theorem ggL_sum_L_isClosed : GoodIn wsL_sum wsL_isClosed := goodIn_ca (goodIn_r _ [18, 19, 20, 21, 22, 7, 23, 24, 25, 26, 27, 28, 29, 30, 14, 31, 32, 33, 34, 35, 36, 37, 38, 39, 72, 73, 74, 75, 76, 77, 88, 89, 90, 91, 92, 78, 79, 80, 81, 82, 83, 84, 85, 86, 87] (by decide +kernel) (by decide +kernel)) (goodIn_sub (fun _ h => List.mem_cons_of_mem _ (List.mem_append_left _ (List.mem_append_right _ h))) (by decide +kernel))
set_option maxRecDepth 20000 in
theorem gL_sum_L_isClosed : GoodIn wsL_sum (va_wsS RL 167 yL_isClosed wsL_isClosed) := goodIn_app (goodIn_of _ (by decide +kernel)) ggL_sum_L_isClosed
set_option maxRecDepth 20000 in
theorem ggL_sum_L_isLocked : GoodIn wsL_sum wsL_isLocked := goodIn_ca (goodIn_r _ [42, 19, 43, 44, 45, 7, 46, 24, 25, 26, 27, 28, 29, 30, 14, 31, 32, 33, 34, 35, 36, 37, 38, 39, 72, 73, 74, 75, 76, 77, 88, 89, 90, 91, 92, 78, 79, 80, 81, 82, 83, 84, 85, 86, 87] (by decide +kernel) (by decide +kernel)) (goodIn_sub (fun _ h => List.mem_cons_of_mem _ (List.mem_append_left _ (List.mem_append_right _ h))) (by decide +kernel))
set_option maxRecDepth 20000 in
theorem gL_sum_L_isLocked : GoodIn wsL_sum (va_wsS RL 191 yL_isLocked wsL_isLocked) := goodIn_app (goodIn_of _ (by decide +kernel)) ggL_sum_L_isLocked
set_option maxRecDepth 20000 in
theorem ggL_sum_X5_nodes : GoodIn wsL_sum wsX5_nodes := goodIn_r _ [50, 14, 72, 73, 74, 75, 76, 77, 78, 79, 80, 81, 82, 83, 84, 85, 86, 87] (by decide +kernel) (by decide +kernel)
set_option maxRecDepth 20000 in
theorem gL_sum_X5_nodes : GoodIn wsL_sum (wsV RL 227 RX5 yX5_nodes wsX5_nodes) := goodIn_app (goodIn_of _ (by decide +kernel)) ggL_sum_X5_nodes
set_option maxRecDepth 20000 in
theorem ggL_sum_L_loadOf : GoodIn wsL_sum wsL_loadOf := goodIn_ca (goodIn_ca (goodIn_r _ [53, 19, 54, 55, 56, 7, 57, 14, 58, 59, 60, 61, 29, 30, 62, 63, 64, 34, 65, 66, 67, 68, 69, 70, 71, 72, 73, 74, 75, 76, 77, 78, 79, 80, 81, 82, 83, 84, 85, 86, 87] (by decide +kernel) (by decide +kernel)) (goodIn_sub (fun _ h => List.mem_cons_of_mem _ (List.mem_append_left _ (List.mem_append_right _ h))) (by decide +kernel))) (goodIn_sub (fun _ h => List.mem_cons_of_mem _ (List.mem_append_right _ h)) (by decide +kernel))
set_option maxRecDepth 20000 in
theorem gL_sum_L_loadOf : GoodIn wsL_sum (va_wsS RL 173 yL_loadOf wsL_loadOf) := goodIn_app (goodIn_of _ (by decide +kernel)) ggL_sum_L_loadOf
theorem dL_sum_0 : decode cL_sum 0 = .ok (.aload_n 0, 1) := by decide +kernel
theorem dL_sum_1 : decode cL_sum 1 = .ok (.invokevirtual 186, 3) := by decide +kernel
theorem dL_sum_4 : decode cL_sum 4 = .ok (.i2l, 1) := by decide +kernel
theorem dL_sum_5 : decode cL_sum 5 = .ok (.lstore_n 1, 1) := by decide +kernel
theorem dL_sum_6 : decode cL_sum 6 = .ok (.iconst 0, 1) := by decide +kernel
theorem dL_sum_7 : decode cL_sum 7 = .ok (.istore_n 3, 1) := by decide +kernel
theorem dL_sum_8 : decode cL_sum 8 = .ok (.iload_n 3, 1) := by decide +kernel
theorem dL_sum_9 : decode cL_sum 9 = .ok (.aload_n 0, 1) := by decide +kernel
theorem dL_sum_10 : decode cL_sum 10 = .ok (.invokevirtual 220, 3) := by decide +kernel
theorem dL_sum_13 : decode cL_sum 13 = .ok (.if_icmp .ge 33, 3) := by decide +kernel
theorem dL_sum_16 : decode cL_sum 16 = .ok (.ldc2_w 223, 3) := by decide +kernel
theorem dL_sum_19 : decode cL_sum 19 = .ok (.lload_n 1, 1) := by decide +kernel
theorem dL_sum_20 : decode cL_sum 20 = .ok (.lmul, 1) := by decide +kernel
theorem dL_sum_21 : decode cL_sum 21 = .ok (.aload_n 0, 1) := by decide +kernel
theorem dL_sum_22 : decode cL_sum 22 = .ok (.iload_n 3, 1) := by decide +kernel
theorem dL_sum_23 : decode cL_sum 23 = .ok (.invokestatic 167, 3) := by decide +kernel
theorem dL_sum_26 : decode cL_sum 26 = .ok (.i2l, 1) := by decide +kernel
theorem dL_sum_27 : decode cL_sum 27 = .ok (.ladd, 1) := by decide +kernel
theorem dL_sum_28 : decode cL_sum 28 = .ok (.ldc2_w 225, 3) := by decide +kernel
theorem dL_sum_31 : decode cL_sum 31 = .ok (.aload_n 0, 1) := by decide +kernel
theorem dL_sum_32 : decode cL_sum 32 = .ok (.iload_n 3, 1) := by decide +kernel
theorem dL_sum_33 : decode cL_sum 33 = .ok (.invokestatic 191, 3) := by decide +kernel
theorem dL_sum_36 : decode cL_sum 36 = .ok (.i2l, 1) := by decide +kernel
theorem dL_sum_37 : decode cL_sum 37 = .ok (.lmul, 1) := by decide +kernel
theorem dL_sum_38 : decode cL_sum 38 = .ok (.ladd, 1) := by decide +kernel
theorem dL_sum_39 : decode cL_sum 39 = .ok (.lstore_n 1, 1) := by decide +kernel
theorem dL_sum_40 : decode cL_sum 40 = .ok (.iinc 3 1, 3) := by decide +kernel
theorem dL_sum_43 : decode cL_sum 43 = .ok (.goto (-35), 3) := by decide +kernel
theorem dL_sum_46 : decode cL_sum 46 = .ok (.iconst 0, 1) := by decide +kernel
theorem dL_sum_47 : decode cL_sum 47 = .ok (.istore_n 3, 1) := by decide +kernel
theorem dL_sum_48 : decode cL_sum 48 = .ok (.iload_n 3, 1) := by decide +kernel
theorem dL_sum_49 : decode cL_sum 49 = .ok (.aload_n 0, 1) := by decide +kernel
theorem dL_sum_50 : decode cL_sum 50 = .ok (.invokevirtual 227, 3) := by decide +kernel
theorem dL_sum_53 : decode cL_sum 53 = .ok (.if_icmp .ge 22, 3) := by decide +kernel
theorem dL_sum_56 : decode cL_sum 56 = .ok (.ldc2_w 230, 3) := by decide +kernel
theorem dL_sum_59 : decode cL_sum 59 = .ok (.lload_n 1, 1) := by decide +kernel
theorem dL_sum_60 : decode cL_sum 60 = .ok (.lmul, 1) := by decide +kernel
theorem dL_sum_61 : decode cL_sum 61 = .ok (.aload_n 0, 1) := by decide +kernel
theorem dL_sum_62 : decode cL_sum 62 = .ok (.iload_n 3, 1) := by decide +kernel
theorem dL_sum_63 : decode cL_sum 63 = .ok (.invokestatic 173, 3) := by decide +kernel
theorem dL_sum_66 : decode cL_sum 66 = .ok (.i2l, 1) := by decide +kernel
theorem dL_sum_67 : decode cL_sum 67 = .ok (.ladd, 1) := by decide +kernel
theorem dL_sum_68 : decode cL_sum 68 = .ok (.lstore_n 1, 1) := by decide +kernel
theorem dL_sum_69 : decode cL_sum 69 = .ok (.iinc 3 1, 3) := by decide +kernel
theorem dL_sum_72 : decode cL_sum 72 = .ok (.goto (-24), 3) := by decide +kernel
theorem dL_sum_75 : decode cL_sum 75 = .ok (.lload_n 1, 1) := by decide +kernel
theorem dL_sum_76 : decode cL_sum 76 = .ok (.lreturn, 1) := by decide +kernel
set_option maxRecDepth 20000 in
theorem ggL_value_X5_nodes : GoodIn wsL_value wsX5_nodes := goodIn_r _ [5, 6, 91, 92, 93, 94, 95, 96, 97, 98, 99, 100, 101, 102, 103, 104, 105, 106] (by decide +kernel) (by decide +kernel)
set_option maxRecDepth 20000 in
theorem gL_value_X5_nodes : GoodIn wsL_value (wsV RL 227 RX5 yX5_nodes wsX5_nodes) := goodIn_app (goodIn_of _ (by decide +kernel)) ggL_value_X5_nodes
set_option maxRecDepth 20000 in
theorem ggL_value_L_isSource : GoodIn wsL_value wsL_isSource := goodIn_ca (goodIn_r _ [10, 11, 12, 13, 14, 4, 15, 6, 16, 17, 18, 19, 20, 21, 22, 23, 24, 25, 26, 27, 28, 29, 30, 91, 92, 93, 94, 95, 96, 97, 98, 99, 100, 101, 102, 103, 104, 105, 106] (by decide +kernel) (by decide +kernel)) (goodIn_sub (fun _ h => List.mem_cons_of_mem _ (List.mem_append_left _ (List.mem_append_left _ (List.mem_append_right _ h)))) (by decide +kernel))
set_option maxRecDepth 20000 in
theorem gL_value_L_isSource : GoodIn wsL_value (va_wsS RL 232 yL_isSource wsL_isSource) := goodIn_app (goodIn_of _ (by decide +kernel)) ggL_value_L_isSource
set_option maxRecDepth 20000 in
theorem ggL_value_L_isLive : GoodIn wsL_value wsL_isLive := goodIn_ca (goodIn_ca (goodIn_r _ [33, 11, 34, 35, 36, 4, 37, 6, 16, 17, 18, 19, 20, 21, 22, 23, 24, 25, 26, 27, 38, 39, 40, 41, 42, 43, 44, 45, 46, 47, 48, 49, 50, 51, 52, 53, 54, 55, 56, 57, 58, 29, 30, 59, 60, 61, 62, 63, 64, 65, 66, 67, 68, 69, 91, 92, 93, 94, 95, 96, 97, 98, 99, 100, 101, 102, 103, 104, 105, 106, 107, 108, 109, 110, 111] (by decide +kernel) (by decide +kernel)) (goodIn_sub (fun _ h => List.mem_cons_of_mem _ (List.mem_append_left _ (List.mem_append_left _ (List.mem_append_right _ h)))) (by decide +kernel))) (goodIn_sub (fun _ h => List.mem_cons_of_mem _ (List.mem_append_left _ (List.mem_append_right _ h))) (by decide +kernel))
set_option maxRecDepth 20000 in
theorem gL_value_L_isLive : GoodIn wsL_value (va_wsS RL 234 yL_isLive wsL_isLive) := goodIn_app (goodIn_of _ (by decide +kernel)) ggL_value_L_isLive
set_option maxRecDepth 20000 in
theorem ggL_value_L_weight : GoodIn wsL_value wsL_weight := goodIn_ca (goodIn_ca (goodIn_ca (goodIn_r _ [72, 11, 73, 74, 75, 76, 4, 77, 6, 16, 17, 18, 19, 20, 21, 22, 23, 24, 25, 26, 27, 78, 79, 80, 81, 82, 83, 28, 29, 30, 84, 47, 48, 85, 86, 87, 88, 89, 90, 91, 92, 93, 94, 95, 96, 97, 98, 99, 100, 101, 102, 103, 104, 105, 106] (by decide +kernel) (by decide +kernel)) (goodIn_sub (fun _ h => List.mem_cons_of_mem _ (List.mem_append_left _ (List.mem_append_left _ (List.mem_append_right _ h)))) (by decide +kernel))) (goodIn_sub (fun _ h => List.mem_cons_of_mem _ (List.mem_append_right _ h)) (by decide +kernel))) (goodIn_sub (fun _ h => List.mem_cons_of_mem _ (List.mem_append_left _ (List.mem_append_right _ h))) (by decide +kernel))
set_option maxRecDepth 20000 in
theorem gL_value_L_weight : GoodIn wsL_value (va_wsS RL 236 yL_weight wsL_weight) := goodIn_app (goodIn_of _ (by decide +kernel)) ggL_value_L_weight
theorem dL_value_0 : decode cL_value 0 = .ok (.iconst 0, 1) := by decide +kernel
theorem dL_value_1 : decode cL_value 1 = .ok (.istore_n 1, 1) := by decide +kernel
theorem dL_value_2 : decode cL_value 2 = .ok (.iconst 0, 1) := by decide +kernel
theorem dL_value_3 : decode cL_value 3 = .ok (.istore_n 2, 1) := by decide +kernel
theorem dL_value_4 : decode cL_value 4 = .ok (.iload_n 2, 1) := by decide +kernel
theorem dL_value_5 : decode cL_value 5 = .ok (.aload_n 0, 1) := by decide +kernel
theorem dL_value_6 : decode cL_value 6 = .ok (.invokevirtual 227, 3) := by decide +kernel
theorem dL_value_9 : decode cL_value 9 = .ok (.if_icmp .ge 38, 3) := by decide +kernel
theorem dL_value_12 : decode cL_value 12 = .ok (.iload_n 1, 1) := by decide +kernel
theorem dL_value_13 : decode cL_value 13 = .ok (.aload_n 0, 1) := by decide +kernel
theorem dL_value_14 : decode cL_value 14 = .ok (.iload_n 2, 1) := by decide +kernel
theorem dL_value_15 : decode cL_value 15 = .ok (.invokestatic 232, 3) := by decide +kernel
theorem dL_value_18 : decode cL_value 18 = .ok (.ifCond .ne 20, 3) := by decide +kernel
theorem dL_value_21 : decode cL_value 21 = .ok (.aload_n 0, 1) := by decide +kernel
theorem dL_value_22 : decode cL_value 22 = .ok (.iload_n 2, 1) := by decide +kernel
theorem dL_value_23 : decode cL_value 23 = .ok (.invokestatic 234, 3) := by decide +kernel
theorem dL_value_26 : decode cL_value 26 = .ok (.iconst 1, 1) := by decide +kernel
theorem dL_value_27 : decode cL_value 27 = .ok (.if_icmp .ne 11, 3) := by decide +kernel
theorem dL_value_30 : decode cL_value 30 = .ok (.aload_n 0, 1) := by decide +kernel
theorem dL_value_31 : decode cL_value 31 = .ok (.iload_n 2, 1) := by decide +kernel
theorem dL_value_32 : decode cL_value 32 = .ok (.invokestatic 236, 3) := by decide +kernel
theorem dL_value_35 : decode cL_value 35 = .ok (.goto 4, 3) := by decide +kernel
theorem dL_value_38 : decode cL_value 38 = .ok (.iconst 0, 1) := by decide +kernel
theorem dL_value_39 : decode cL_value 39 = .ok (.iadd, 1) := by decide +kernel
theorem dL_value_40 : decode cL_value 40 = .ok (.istore_n 1, 1) := by decide +kernel
theorem dL_value_41 : decode cL_value 41 = .ok (.iinc 2 1, 3) := by decide +kernel
theorem dL_value_44 : decode cL_value 44 = .ok (.goto (-40), 3) := by decide +kernel
theorem dL_value_47 : decode cL_value 47 = .ok (.iload_n 1, 1) := by decide +kernel
theorem dL_value_48 : decode cL_value 48 = .ok (.ireturn, 1) := by decide +kernel
set_option maxRecDepth 20000 in
theorem ggL_isRight_X5_nodes : GoodIn wsL_isRight wsX5_nodes := goodIn_r _ [7, 8, 335, 336, 337, 338, 339, 340, 341, 342, 343, 344, 345, 346, 347, 348, 349, 350] (by decide +kernel) (by decide +kernel)
set_option maxRecDepth 20000 in
theorem gL_isRight_X5_nodes : GoodIn wsL_isRight (wsV RL 227 RX5 yX5_nodes wsX5_nodes) := goodIn_app (goodIn_of _ (by decide +kernel)) ggL_isRight_X5_nodes
set_option maxRecDepth 20000 in
theorem ggL_isRight_L_islandOf : GoodIn wsL_isRight wsL_islandOf := goodIn_ca (goodIn_ca (goodIn_r _ [12, 13, 14, 15, 16, 6, 17, 18, 19, 20, 21, 22, 23, 8, 24, 25, 26, 27, 28, 29, 30, 31, 32, 33, 34, 35, 36, 37, 38, 39, 40, 41, 42, 43, 44, 45, 46, 47, 48, 49, 50, 51, 52, 53, 54, 55, 56, 57, 58, 59, 335, 336, 337, 338, 339, 340, 341, 342, 343, 344, 345, 346, 347, 348, 349, 350, 351, 352, 353, 354, 355] (by decide +kernel) (by decide +kernel)) (goodIn_sub (fun _ h => List.mem_cons_of_mem _ (List.mem_append_left _ (List.mem_append_left _ (List.mem_append_left _ (List.mem_append_left _ (List.mem_append_right _ h)))))) (by decide +kernel))) (goodIn_sub (fun _ h => List.mem_cons_of_mem _ (List.mem_append_left _ (List.mem_append_left _ (List.mem_append_left _ (List.mem_append_left _ (List.mem_append_left _ (List.mem_append_left _ (List.mem_append_right _ h)))))))) (by decide +kernel))
set_option maxRecDepth 20000 in
theorem gL_isRight_L_islandOf : GoodIn wsL_isRight (va_wsS RL 238 yL_islandOf wsL_islandOf) := goodIn_app (goodIn_of _ (by decide +kernel)) ggL_isRight_L_islandOf
set_option maxRecDepth 20000 in
theorem ggL_isRight_L_sourceOf : GoodIn wsL_isRight wsL_sourceOf := goodIn_ca (goodIn_ca (goodIn_ca (goodIn_r _ [62, 13, 63, 64, 65, 66, 6, 67, 68, 69, 8, 18, 19, 20, 21, 22, 23, 24, 25, 26, 27, 28, 29, 30, 31, 32, 33, 34, 35, 36, 37, 38, 39, 40, 41, 42, 43, 44, 45, 46, 47, 48, 49, 50, 51, 52, 53, 54, 55, 56, 57, 58, 70, 71, 72, 73, 74, 335, 336, 337, 338, 339, 340, 341, 342, 343, 344, 345, 346, 347, 348, 349, 350, 351, 352, 353, 354, 355] (by decide +kernel) (by decide +kernel)) (goodIn_sub (fun _ h => List.mem_cons_of_mem _ (List.mem_append_left _ (List.mem_append_left _ (List.mem_append_left _ (List.mem_append_right _ h))))) (by decide +kernel))) (goodIn_sub (fun _ h => List.mem_cons_of_mem _ (List.mem_append_left _ (List.mem_append_left _ (List.mem_append_left _ (List.mem_append_left _ (List.mem_append_right _ h)))))) (by decide +kernel))) (goodIn_sub (fun _ h => List.mem_cons_of_mem _ (List.mem_append_left _ (List.mem_append_left _ (List.mem_append_left _ (List.mem_append_left _ (List.mem_append_left _ (List.mem_append_left _ (List.mem_append_right _ h)))))))) (by decide +kernel))
set_option maxRecDepth 20000 in
theorem gL_isRight_L_sourceOf : GoodIn wsL_isRight (va_wsS RL 240 yL_sourceOf wsL_sourceOf) := goodIn_app (goodIn_of _ (by decide +kernel)) ggL_isRight_L_sourceOf
set_option maxRecDepth 20000 in
theorem ggL_isRight_L_loadOf : GoodIn wsL_isRight wsL_loadOf := goodIn_ca (goodIn_ca (goodIn_r _ [77, 13, 78, 79, 80, 6, 81, 8, 18, 19, 20, 21, 22, 23, 24, 25, 26, 27, 28, 29, 82, 83, 84, 85, 86, 335, 336, 337, 338, 339, 340, 341, 342, 343, 344, 345, 346, 347, 348, 349, 350] (by decide +kernel) (by decide +kernel)) (goodIn_sub (fun _ h => List.mem_cons_of_mem _ (List.mem_append_left _ (List.mem_append_left _ (List.mem_append_left _ (List.mem_append_left _ (List.mem_append_right _ h)))))) (by decide +kernel))) (goodIn_sub (fun _ h => List.mem_cons_of_mem _ (List.mem_append_left _ (List.mem_append_left _ (List.mem_append_left _ (List.mem_append_left _ (List.mem_append_left _ (List.mem_append_left _ (List.mem_append_right _ h)))))))) (by decide +kernel))
set_option maxRecDepth 20000 in
theorem gL_isRight_L_loadOf : GoodIn wsL_isRight (va_wsS RL 173 yL_loadOf wsL_loadOf) := goodIn_app (goodIn_of _ (by decide +kernel)) ggL_isRight_L_loadOf
set_option maxRecDepth 20000 in
theorem ggL_isRight_L_isLive : GoodIn wsL_isRight wsL_isLive := goodIn_ca (goodIn_ca (goodIn_r _ [89, 13, 90, 91, 92, 6, 93, 8, 18, 19, 20, 21, 22, 23, 24, 25, 26, 27, 28, 29, 30, 31, 32, 33, 34, 35, 36, 37, 38, 39, 40, 41, 42, 43, 44, 45, 46, 47, 48, 49, 50, 51, 52, 53, 54, 55, 56, 57, 58, 70, 71, 72, 73, 74, 335, 336, 337, 338, 339, 340, 341, 342, 343, 344, 345, 346, 347, 348, 349, 350, 351, 352, 353, 354, 355] (by decide +kernel) (by decide +kernel)) (goodIn_sub (fun _ h => List.mem_cons_of_mem _ (List.mem_append_left _ (List.mem_append_left _ (List.mem_append_left _ (List.mem_append_left _ (List.mem_append_right _ h)))))) (by decide +kernel))) (goodIn_sub (fun _ h => List.mem_cons_of_mem _ (List.mem_append_left _ (List.mem_append_left _ (List.mem_append_left _ (List.mem_append_left _ (List.mem_append_left _ (List.mem_append_left _ (List.mem_append_right _ h)))))))) (by decide +kernel))
set_option maxRecDepth 20000 in
theorem gL_isRight_L_isLive : GoodIn wsL_isRight (va_wsS RL 234 yL_isLive wsL_isLive) := goodIn_app (goodIn_of _ (by decide +kernel)) ggL_isRight_L_isLive
set_option maxRecDepth 20000 in
theorem ggL_isRight_L_isSource : GoodIn wsL_isRight wsL_isSource := goodIn_ca (goodIn_r _ [96, 13, 97, 98, 99, 6, 100, 8, 18, 19, 20, 21, 22, 23, 24, 25, 26, 27, 28, 29, 101, 51, 52, 335, 336, 337, 338, 339, 340, 341, 342, 343, 344, 345, 346, 347, 348, 349, 350] (by decide +kernel) (by decide +kernel)) (goodIn_sub (fun _ h => List.mem_cons_of_mem _ (List.mem_append_left _ (List.mem_append_left _ (List.mem_append_left _ (List.mem_append_left _ (List.mem_append_right _ h)))))) (by decide +kernel))
set_option maxRecDepth 20000 in
theorem gL_isRight_L_isSource : GoodIn wsL_isRight (va_wsS RL 232 yL_isSource wsL_isSource) := goodIn_app (goodIn_of _ (by decide +kernel)) ggL_isRight_L_isSource
set_option maxRecDepth 20000 in
theorem ggL_isRight_L_islandByRounds : GoodIn wsL_isRight wsL_islandByRounds := goodIn_ca (goodIn_ca (goodIn_r _ [104, 13, 105, 106, 107, 6, 108, 8, 34, 18, 19, 20, 21, 22, 23, 24, 25, 26, 27, 28, 29, 109, 110, 111, 112, 50, 57, 58, 39, 40, 51, 52, 59, 41, 42, 43, 44, 45, 335, 336, 337, 338, 339, 340, 351, 352, 353, 354, 355, 341, 342, 343, 344, 345, 346, 347, 348, 349, 350] (by decide +kernel) (by decide +kernel)) (goodIn_sub (fun _ h => List.mem_cons_of_mem _ (List.mem_append_left _ (List.mem_append_left _ (List.mem_append_left _ (List.mem_append_left _ (List.mem_append_right _ h)))))) (by decide +kernel))) (goodIn_sub (fun _ h => List.mem_cons_of_mem _ (List.mem_append_left _ (List.mem_append_left _ (List.mem_append_left _ (List.mem_append_left _ (List.mem_append_left _ (List.mem_append_left _ (List.mem_append_right _ h)))))))) (by decide +kernel))
set_option maxRecDepth 20000 in
theorem gL_isRight_L_islandByRounds : GoodIn wsL_isRight (va_wsS RL 242 yL_islandByRounds wsL_islandByRounds) := goodIn_app (goodIn_of _ (by decide +kernel)) ggL_isRight_L_islandByRounds
set_option maxRecDepth 20000 in
theorem ggL_isRight_L_islandLoad : GoodIn wsL_isRight wsL_islandLoad := goodIn_ca (goodIn_ca (goodIn_r _ [115, 13, 116, 117, 118, 6, 119, 8, 18, 19, 20, 21, 22, 23, 24, 25, 26, 27, 28, 29, 30, 31, 32, 33, 34, 35, 36, 37, 38, 39, 40, 41, 42, 43, 44, 45, 46, 47, 48, 49, 50, 51, 52, 53, 54, 55, 56, 57, 58, 120, 121, 122, 123, 86, 335, 336, 337, 338, 339, 340, 341, 342, 343, 344, 345, 346, 347, 348, 349, 350, 351, 352, 353, 354, 355] (by decide +kernel) (by decide +kernel)) (goodIn_sub (fun _ h => List.mem_cons_of_mem _ (List.mem_append_left _ (List.mem_append_left _ (List.mem_append_left _ (List.mem_append_left _ (List.mem_append_right _ h)))))) (by decide +kernel))) (goodIn_sub (fun _ h => List.mem_cons_of_mem _ (List.mem_append_left _ (List.mem_append_left _ (List.mem_append_left _ (List.mem_append_left _ (List.mem_append_left _ (List.mem_append_left _ (List.mem_append_right _ h)))))))) (by decide +kernel))
set_option maxRecDepth 20000 in
theorem gL_isRight_L_islandLoad : GoodIn wsL_isRight (va_wsS RL 244 yL_islandLoad wsL_islandLoad) := goodIn_app (goodIn_of _ (by decide +kernel)) ggL_isRight_L_islandLoad
set_option maxRecDepth 20000 in
theorem ggL_isRight_L_current : GoodIn wsL_isRight wsL_current := goodIn_ca (goodIn_ca (goodIn_r _ [126, 13, 127, 128, 129, 6, 130, 131, 34, 132, 133, 134, 135, 22, 23, 8, 136, 137, 138, 27, 139, 50, 140, 141, 142, 143, 144, 145, 146, 147, 148, 149, 150, 51, 52, 151, 152, 153, 154, 155, 83, 84, 85, 29, 86, 156, 54, 55, 56, 57, 58, 157, 335, 336, 337, 338, 339, 340, 351, 352, 353, 354, 355, 341, 342, 343, 344, 345, 346, 347, 348, 349, 350, 356, 357, 358] (by decide +kernel) (by decide +kernel)) (goodIn_sub (fun _ h => List.mem_cons_of_mem _ (List.mem_append_left _ (List.mem_append_left _ (List.mem_append_left _ (List.mem_append_left _ (List.mem_append_right _ h)))))) (by decide +kernel))) (goodIn_sub (fun _ h => List.mem_cons_of_mem _ (List.mem_append_left _ (List.mem_append_left _ (List.mem_append_left _ (List.mem_append_left _ (List.mem_append_left _ (List.mem_append_left _ (List.mem_append_right _ h)))))))) (by decide +kernel))
set_option maxRecDepth 20000 in
theorem gL_isRight_L_current : GoodIn wsL_isRight (va_wsS RL 246 yL_current wsL_current) := goodIn_app (goodIn_of _ (by decide +kernel)) ggL_isRight_L_current
set_option maxRecDepth 20000 in
theorem ggL_isRight_L_isClosed : GoodIn wsL_isRight wsL_isClosed := goodIn_ca (goodIn_r _ [160, 13, 161, 162, 163, 6, 164, 34, 132, 133, 134, 135, 22, 23, 8, 136, 137, 138, 27, 139, 50, 101, 51, 52, 335, 336, 337, 338, 339, 340, 351, 352, 353, 354, 355, 341, 342, 343, 344, 345, 346, 347, 348, 349, 350] (by decide +kernel) (by decide +kernel)) (goodIn_sub (fun _ h => List.mem_cons_of_mem _ (List.mem_append_left _ (List.mem_append_left _ (List.mem_append_left _ (List.mem_append_left _ (List.mem_append_right _ h)))))) (by decide +kernel))
set_option maxRecDepth 20000 in
theorem gL_isRight_L_isClosed : GoodIn wsL_isRight (va_wsS RL 167 yL_isClosed wsL_isClosed) := goodIn_app (goodIn_of _ (by decide +kernel)) ggL_isRight_L_isClosed
set_option maxRecDepth 20000 in
theorem ggL_isRight_L_currentByCutting : GoodIn wsL_isRight wsL_currentByCutting := goodIn_ca (goodIn_ca (goodIn_r _ [167, 13, 168, 169, 170, 6, 171, 8, 34, 132, 133, 134, 135, 22, 23, 136, 137, 138, 27, 139, 50, 172, 173, 174, 175, 51, 52, 176, 177, 178, 179, 180, 181, 182, 183, 57, 184, 185, 36, 37, 38, 39, 40, 41, 42, 43, 44, 45, 46, 47, 48, 49, 53, 54, 55, 56, 58, 186, 71, 72, 73, 74, 187, 121, 122, 123, 29, 86, 335, 336, 337, 338, 339, 340, 351, 352, 353, 354, 355, 341, 342, 343, 344, 345, 346, 347, 348, 349, 350] (by decide +kernel) (by decide +kernel)) (goodIn_sub (fun _ h => List.mem_cons_of_mem _ (List.mem_append_left _ (List.mem_append_left _ (List.mem_append_left _ (List.mem_append_left _ (List.mem_append_right _ h)))))) (by decide +kernel))) (goodIn_sub (fun _ h => List.mem_cons_of_mem _ (List.mem_append_left _ (List.mem_append_left _ (List.mem_append_left _ (List.mem_append_left _ (List.mem_append_left _ (List.mem_append_left _ (List.mem_append_right _ h)))))))) (by decide +kernel))
