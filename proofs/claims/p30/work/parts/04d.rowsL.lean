theorem dL_law_595 : decode cL_law 595 = .ok (.invokestatic 28, 3) := by decide +kernel
theorem dL_law_598 : decode cL_law 598 = .ok (.ifCond .ge 7, 3) := by decide +kernel
theorem dL_law_601 : decode cL_law 601 = .ok (.iconst 0, 1) := by decide +kernel
theorem dL_law_602 : decode cL_law 602 = .ok (.goto 4, 3) := by decide +kernel
theorem dL_law_605 : decode cL_law 605 = .ok (.iconst 1, 1) := by decide +kernel
theorem dL_law_606 : decode cL_law 606 = .ok (.if_icmp .eq 5, 3) := by decide +kernel
theorem dL_law_609 : decode cL_law 609 = .ok (.iconst 0, 1) := by decide +kernel
theorem dL_law_610 : decode cL_law 610 = .ok (.ireturn, 1) := by decide +kernel
theorem dL_law_611 : decode cL_law 611 = .ok (.iinc 15 1, 3) := by decide +kernel
theorem dL_law_614 : decode cL_law 614 = .ok (.goto (-97), 3) := by decide +kernel
theorem dL_law_617 : decode cL_law 617 = .ok (.iinc 9 1, 3) := by decide +kernel
theorem dL_law_620 : decode cL_law 620 = .ok (.goto (-495), 3) := by decide +kernel
theorem dL_law_623 : decode cL_law 623 = .ok (.aload_n 1, 1) := by decide +kernel
theorem dL_law_624 : decode cL_law 624 = .ok (.iconst 1, 1) := by decide +kernel
theorem dL_law_625 : decode cL_law 625 = .ok (.invokevirtual 70, 3) := by decide +kernel
theorem dL_law_628 : decode cL_law 628 = .ok (.aload_n 2, 1) := by decide +kernel
theorem dL_law_629 : decode cL_law 629 = .ok (.iconst 1, 1) := by decide +kernel
theorem dL_law_630 : decode cL_law 630 = .ok (.iaload, 1) := by decide +kernel
theorem dL_law_631 : decode cL_law 631 = .ok (.if_icmp .ne 42, 3) := by decide +kernel
theorem dL_law_634 : decode cL_law 634 = .ok (.aload_n 1, 1) := by decide +kernel
theorem dL_law_635 : decode cL_law 635 = .ok (.iconst 2, 1) := by decide +kernel
theorem dL_law_636 : decode cL_law 636 = .ok (.invokevirtual 70, 3) := by decide +kernel
theorem dL_law_639 : decode cL_law 639 = .ok (.iload 8, 2) := by decide +kernel
theorem dL_law_641 : decode cL_law 641 = .ok (.invokestatic 78, 3) := by decide +kernel
theorem dL_law_644 : decode cL_law 644 = .ok (.if_icmp .ne 29, 3) := by decide +kernel
theorem dL_law_647 : decode cL_law 647 = .ok (.aload_n 1, 1) := by decide +kernel
theorem dL_law_648 : decode cL_law 648 = .ok (.iconst 3, 1) := by decide +kernel
theorem dL_law_649 : decode cL_law 649 = .ok (.invokevirtual 70, 3) := by decide +kernel
theorem dL_law_652 : decode cL_law 652 = .ok (.aload_n 2, 1) := by decide +kernel
theorem dL_law_653 : decode cL_law 653 = .ok (.invokestatic 92, 3) := by decide +kernel
theorem dL_law_656 : decode cL_law 656 = .ok (.invokestatic 78, 3) := by decide +kernel
theorem dL_law_659 : decode cL_law 659 = .ok (.if_icmp .ne 14, 3) := by decide +kernel
theorem dL_law_662 : decode cL_law 662 = .ok (.aload_n 1, 1) := by decide +kernel
theorem dL_law_663 : decode cL_law 663 = .ok (.invokevirtual 96, 3) := by decide +kernel
theorem dL_law_666 : decode cL_law 666 = .ok (.aload_n 2, 1) := by decide +kernel
theorem dL_law_667 : decode cL_law 667 = .ok (.invokestatic 92, 3) := by decide +kernel
theorem dL_law_670 : decode cL_law 670 = .ok (.if_icmp .eq 5, 3) := by decide +kernel
theorem dL_law_673 : decode cL_law 673 = .ok (.iconst 0, 1) := by decide +kernel
theorem dL_law_674 : decode cL_law 674 = .ok (.ireturn, 1) := by decide +kernel
theorem dL_law_675 : decode cL_law 675 = .ok (.iload 7, 2) := by decide +kernel
theorem dL_law_677 : decode cL_law 677 = .ok (.iload 7, 2) := by decide +kernel
theorem dL_law_679 : decode cL_law 679 = .ok (.bipush 9, 2) := by decide +kernel
theorem dL_law_681 : decode cL_law 681 = .ok (.ishr, 1) := by decide +kernel
theorem dL_law_682 : decode cL_law 682 = .ok (.iconst 2, 1) := by decide +kernel
theorem dL_law_683 : decode cL_law 683 = .ok (.invokestatic 15, 3) := by decide +kernel
theorem dL_law_686 : decode cL_law 686 = .ok (.ifCond .ne 8, 3) := by decide +kernel
theorem dL_law_689 : decode cL_law 689 = .ok (.bipush 15, 2) := by decide +kernel
theorem dL_law_691 : decode cL_law 691 = .ok (.goto 5, 3) := by decide +kernel
theorem dL_law_694 : decode cL_law 694 = .ok (.bipush 6, 2) := by decide +kernel
theorem dL_law_696 : decode cL_law 696 = .ok (.invokestatic 15, 3) := by decide +kernel
theorem dL_law_699 : decode cL_law 699 = .ok (.istore 9, 2) := by decide +kernel
theorem dL_law_701 : decode cL_law 701 = .ok (.aload_n 1, 1) := by decide +kernel
theorem dL_law_702 : decode cL_law 702 = .ok (.iconst 1, 1) := by decide +kernel
theorem dL_law_703 : decode cL_law 703 = .ok (.iconst 1, 1) := by decide +kernel
theorem dL_law_704 : decode cL_law 704 = .ok (.bipush 55, 2) := by decide +kernel
theorem dL_law_706 : decode cL_law 706 = .ok (.invokevirtual 19, 3) := by decide +kernel
theorem dL_law_709 : decode cL_law 709 = .ok (.iconst 1, 1) := by decide +kernel
theorem dL_law_710 : decode cL_law 710 = .ok (.if_icmp .eq 5, 3) := by decide +kernel
theorem dL_law_713 : decode cL_law 713 = .ok (.iconst 0, 1) := by decide +kernel
theorem dL_law_714 : decode cL_law 714 = .ok (.ireturn, 1) := by decide +kernel
theorem dL_law_715 : decode cL_law 715 = .ok (.iconst 0, 1) := by decide +kernel
theorem dL_law_716 : decode cL_law 716 = .ok (.istore 10, 2) := by decide +kernel
theorem dL_law_718 : decode cL_law 718 = .ok (.iload 10, 2) := by decide +kernel
theorem dL_law_720 : decode cL_law 720 = .ok (.bipush 38, 2) := by decide +kernel
theorem dL_law_722 : decode cL_law 722 = .ok (.if_icmp .ge 17, 3) := by decide +kernel
theorem dL_law_725 : decode cL_law 725 = .ok (.aload_n 3, 1) := by decide +kernel
theorem dL_law_726 : decode cL_law 726 = .ok (.iload 10, 2) := by decide +kernel
theorem dL_law_728 : decode cL_law 728 = .ok (.aload_n 2, 1) := by decide +kernel
theorem dL_law_729 : decode cL_law 729 = .ok (.iload 10, 2) := by decide +kernel
theorem dL_law_731 : decode cL_law 731 = .ok (.iaload, 1) := by decide +kernel
theorem dL_law_732 : decode cL_law 732 = .ok (.iastore, 1) := by decide +kernel
theorem dL_law_733 : decode cL_law 733 = .ok (.iinc 10 1, 3) := by decide +kernel
theorem dL_law_736 : decode cL_law 736 = .ok (.goto (-18), 3) := by decide +kernel
theorem dL_law_739 : decode cL_law 739 = .ok (.bipush (-9), 2) := by decide +kernel
theorem dL_law_741 : decode cL_law 741 = .ok (.istore 10, 2) := by decide +kernel
theorem dL_law_743 : decode cL_law 743 = .ok (.iconst 0, 1) := by decide +kernel
theorem dL_law_744 : decode cL_law 744 = .ok (.istore 11, 2) := by decide +kernel
theorem dL_law_746 : decode cL_law 746 = .ok (.iload 11, 2) := by decide +kernel
theorem dL_law_748 : decode cL_law 748 = .ok (.iload 9, 2) := by decide +kernel
theorem dL_law_750 : decode cL_law 750 = .ok (.if_icmp .ge 347, 3) := by decide +kernel
theorem dL_law_753 : decode cL_law 753 = .ok (.aload_n 0, 1) := by decide +kernel
theorem dL_law_754 : decode cL_law 754 = .ok (.bipush 20, 2) := by decide +kernel
theorem dL_law_756 : decode cL_law 756 = .ok (.iload 6, 2) := by decide +kernel
theorem dL_law_758 : decode cL_law 758 = .ok (.iadd, 1) := by decide +kernel
theorem dL_law_759 : decode cL_law 759 = .ok (.invokestatic 9, 3) := by decide +kernel
theorem dL_law_762 : decode cL_law 762 = .ok (.iload 11, 2) := by decide +kernel
theorem dL_law_764 : decode cL_law 764 = .ok (.ishr, 1) := by decide +kernel
theorem dL_law_765 : decode cL_law 765 = .ok (.istore 12, 2) := by decide +kernel
theorem dL_law_767 : decode cL_law 767 = .ok (.iload 12, 2) := by decide +kernel
theorem dL_law_769 : decode cL_law 769 = .ok (.iconst 3, 1) := by decide +kernel
theorem dL_law_770 : decode cL_law 770 = .ok (.invokestatic 15, 3) := by decide +kernel
theorem dL_law_773 : decode cL_law 773 = .ok (.istore 13, 2) := by decide +kernel
theorem dL_law_775 : decode cL_law 775 = .ok (.iload 12, 2) := by decide +kernel
theorem dL_law_777 : decode cL_law 777 = .ok (.iconst 2, 1) := by decide +kernel
theorem dL_law_778 : decode cL_law 778 = .ok (.ishr, 1) := by decide +kernel
theorem dL_law_779 : decode cL_law 779 = .ok (.iload 12, 2) := by decide +kernel
theorem dL_law_781 : decode cL_law 781 = .ok (.bipush 6, 2) := by decide +kernel
theorem dL_law_783 : decode cL_law 783 = .ok (.ishr, 1) := by decide +kernel
theorem dL_law_784 : decode cL_law 784 = .ok (.bipush 40, 2) := by decide +kernel
theorem dL_law_786 : decode cL_law 786 = .ok (.invokestatic 15, 3) := by decide +kernel
theorem dL_law_789 : decode cL_law 789 = .ok (.ifCond .ne 8, 3) := by decide +kernel
theorem dL_law_792 : decode cL_law 792 = .ok (.bipush 8, 2) := by decide +kernel
theorem dL_law_794 : decode cL_law 794 = .ok (.goto 5, 3) := by decide +kernel
theorem dL_law_797 : decode cL_law 797 = .ok (.iload 5, 2) := by decide +kernel
theorem dL_law_799 : decode cL_law 799 = .ok (.invokestatic 15, 3) := by decide +kernel
theorem dL_law_802 : decode cL_law 802 = .ok (.istore 14, 2) := by decide +kernel
theorem dL_law_804 : decode cL_law 804 = .ok (.iload 12, 2) := by decide +kernel
theorem dL_law_806 : decode cL_law 806 = .ok (.iconst 4, 1) := by decide +kernel
theorem dL_law_807 : decode cL_law 807 = .ok (.ishr, 1) := by decide +kernel
theorem dL_law_808 : decode cL_law 808 = .ok (.iload 12, 2) := by decide +kernel
theorem dL_law_810 : decode cL_law 810 = .ok (.bipush 7, 2) := by decide +kernel
theorem dL_law_812 : decode cL_law 812 = .ok (.ishr, 1) := by decide +kernel
theorem dL_law_813 : decode cL_law 813 = .ok (.bipush 40, 2) := by decide +kernel
theorem dL_law_815 : decode cL_law 815 = .ok (.invokestatic 15, 3) := by decide +kernel
theorem dL_law_818 : decode cL_law 818 = .ok (.ifCond .ne 8, 3) := by decide +kernel
theorem dL_law_821 : decode cL_law 821 = .ok (.bipush 8, 2) := by decide +kernel
theorem dL_law_823 : decode cL_law 823 = .ok (.goto 5, 3) := by decide +kernel
theorem dL_law_826 : decode cL_law 826 = .ok (.iload 5, 2) := by decide +kernel
theorem dL_law_828 : decode cL_law 828 = .ok (.invokestatic 15, 3) := by decide +kernel
theorem dL_law_831 : decode cL_law 831 = .ok (.istore 15, 2) := by decide +kernel
theorem dL_law_833 : decode cL_law 833 = .ok (.iload 13, 2) := by decide +kernel
theorem dL_law_835 : decode cL_law 835 = .ok (.ifCond .ne 18, 3) := by decide +kernel
theorem dL_law_838 : decode cL_law 838 = .ok (.iload 12, 2) := by decide +kernel
theorem dL_law_840 : decode cL_law 840 = .ok (.iconst 5, 1) := by decide +kernel
theorem dL_law_841 : decode cL_law 841 = .ok (.ishr, 1) := by decide +kernel
theorem dL_law_842 : decode cL_law 842 = .ok (.iconst 3, 1) := by decide +kernel
theorem dL_law_843 : decode cL_law 843 = .ok (.invokestatic 15, 3) := by decide +kernel
theorem dL_law_846 : decode cL_law 846 = .ok (.ifCond .ne 7, 3) := by decide +kernel
theorem dL_law_849 : decode cL_law 849 = .ok (.bipush 6, 2) := by decide +kernel
theorem dL_law_851 : decode cL_law 851 = .ok (.istore 14, 2) := by decide +kernel
theorem dL_law_853 : decode cL_law 853 = .ok (.iload 13, 2) := by decide +kernel
theorem dL_law_855 : decode cL_law 855 = .ok (.iconst 1, 1) := by decide +kernel
theorem dL_law_856 : decode cL_law 856 = .ok (.if_icmp .ne 18, 3) := by decide +kernel
theorem dL_law_859 : decode cL_law 859 = .ok (.iload 12, 2) := by decide +kernel
theorem dL_law_861 : decode cL_law 861 = .ok (.iconst 5, 1) := by decide +kernel
theorem dL_law_862 : decode cL_law 862 = .ok (.ishr, 1) := by decide +kernel
theorem dL_law_863 : decode cL_law 863 = .ok (.iconst 3, 1) := by decide +kernel
theorem dL_law_864 : decode cL_law 864 = .ok (.invokestatic 15, 3) := by decide +kernel
theorem dL_law_867 : decode cL_law 867 = .ok (.ifCond .ne 7, 3) := by decide +kernel
theorem dL_law_870 : decode cL_law 870 = .ok (.bipush 6, 2) := by decide +kernel
theorem dL_law_872 : decode cL_law 872 = .ok (.istore 15, 2) := by decide +kernel
theorem dL_law_874 : decode cL_law 874 = .ok (.iconst 0, 1) := by decide +kernel
theorem dL_law_875 : decode cL_law 875 = .ok (.istore 16, 2) := by decide +kernel
theorem dL_law_877 : decode cL_law 877 = .ok (.iload 16, 2) := by decide +kernel
theorem dL_law_879 : decode cL_law 879 = .ok (.bipush 9, 2) := by decide +kernel
theorem dL_law_881 : decode cL_law 881 = .ok (.if_icmp .ge 82, 3) := by decide +kernel
theorem dL_law_884 : decode cL_law 884 = .ok (.iload 12, 2) := by decide +kernel
theorem dL_law_886 : decode cL_law 886 = .ok (.iconst 3, 1) := by decide +kernel
theorem dL_law_887 : decode cL_law 887 = .ok (.ishr, 1) := by decide +kernel
theorem dL_law_888 : decode cL_law 888 = .ok (.bipush 15, 2) := by decide +kernel
theorem dL_law_890 : decode cL_law 890 = .ok (.invokestatic 15, 3) := by decide +kernel
theorem dL_law_893 : decode cL_law 893 = .ok (.ifCond .le 70, 3) := by decide +kernel
theorem dL_law_896 : decode cL_law 896 = .ok (.iload 15, 2) := by decide +kernel
theorem dL_law_898 : decode cL_law 898 = .ok (.istore 17, 2) := by decide +kernel
theorem dL_law_900 : decode cL_law 900 = .ok (.aload_n 2, 1) := by decide +kernel
theorem dL_law_901 : decode cL_law 901 = .ok (.iload 13, 2) := by decide +kernel
theorem dL_law_903 : decode cL_law 903 = .ok (.iload 14, 2) := by decide +kernel
theorem dL_law_905 : decode cL_law 905 = .ok (.iload 15, 2) := by decide +kernel
theorem dL_law_907 : decode cL_law 907 = .ok (.invokestatic 99, 3) := by decide +kernel
theorem dL_law_910 : decode cL_law 910 = .ok (.istore 18, 2) := by decide +kernel
theorem dL_law_912 : decode cL_law 912 = .ok (.iload 18, 2) := by decide +kernel
theorem dL_law_914 : decode cL_law 914 = .ok (.ifCond .eq 6, 3) := by decide +kernel
theorem dL_law_917 : decode cL_law 917 = .ok (.goto 46, 3) := by decide +kernel
theorem dL_law_920 : decode cL_law 920 = .ok (.iload 13, 2) := by decide +kernel
theorem dL_law_922 : decode cL_law 922 = .ok (.iconst 1, 1) := by decide +kernel
theorem dL_law_923 : decode cL_law 923 = .ok (.if_icmp .ne 10, 3) := by decide +kernel
theorem dL_law_926 : decode cL_law 926 = .ok (.iload 16, 2) := by decide +kernel
theorem dL_law_928 : decode cL_law 928 = .ok (.bipush 6, 2) := by decide +kernel
theorem dL_law_930 : decode cL_law 930 = .ok (.if_icmp .ge 17, 3) := by decide +kernel
theorem dL_law_933 : decode cL_law 933 = .ok (.iload 17, 2) := by decide +kernel
theorem dL_law_935 : decode cL_law 935 = .ok (.iconst 1, 1) := by decide +kernel
theorem dL_law_936 : decode cL_law 936 = .ok (.iadd, 1) := by decide +kernel
theorem dL_law_937 : decode cL_law 937 = .ok (.iload 16, 2) := by decide +kernel
theorem dL_law_939 : decode cL_law 939 = .ok (.iadd, 1) := by decide +kernel
theorem dL_law_940 : decode cL_law 940 = .ok (.iload 5, 2) := by decide +kernel
theorem dL_law_942 : decode cL_law 942 = .ok (.invokestatic 15, 3) := by decide +kernel
theorem dL_law_945 : decode cL_law 945 = .ok (.istore 15, 2) := by decide +kernel
theorem dL_law_947 : decode cL_law 947 = .ok (.iload 16, 2) := by decide +kernel
theorem dL_law_949 : decode cL_law 949 = .ok (.bipush 6, 2) := by decide +kernel
theorem dL_law_951 : decode cL_law 951 = .ok (.if_icmp .le 6, 3) := by decide +kernel
theorem dL_law_954 : decode cL_law 954 = .ok (.iconst 0, 1) := by decide +kernel
theorem dL_law_955 : decode cL_law 955 = .ok (.istore 13, 2) := by decide +kernel
theorem dL_law_957 : decode cL_law 957 = .ok (.iinc 16 1, 3) := by decide +kernel
theorem dL_law_960 : decode cL_law 960 = .ok (.goto (-83), 3) := by decide +kernel
theorem dL_law_963 : decode cL_law 963 = .ok (.aload_n 1, 1) := by decide +kernel
theorem dL_law_964 : decode cL_law 964 = .ok (.iconst 1, 1) := by decide +kernel
theorem dL_law_965 : decode cL_law 965 = .ok (.iconst 4, 1) := by decide +kernel
theorem dL_law_966 : decode cL_law 966 = .ok (.iconst 3, 1) := by decide +kernel
theorem dL_law_967 : decode cL_law 967 = .ok (.iload 11, 2) := by decide +kernel
theorem dL_law_969 : decode cL_law 969 = .ok (.imul, 1) := by decide +kernel
theorem dL_law_970 : decode cL_law 970 = .ok (.iadd, 1) := by decide +kernel
theorem dL_law_971 : decode cL_law 971 = .ok (.iload 13, 2) := by decide +kernel
theorem dL_law_973 : decode cL_law 973 = .ok (.invokevirtual 25, 3) := by decide +kernel
theorem dL_law_976 : decode cL_law 976 = .ok (.iconst 1, 1) := by decide +kernel
theorem dL_law_977 : decode cL_law 977 = .ok (.if_icmp .ne 38, 3) := by decide +kernel
theorem dL_law_980 : decode cL_law 980 = .ok (.aload_n 1, 1) := by decide +kernel
theorem dL_law_981 : decode cL_law 981 = .ok (.iconst 1, 1) := by decide +kernel
theorem dL_law_982 : decode cL_law 982 = .ok (.iconst 5, 1) := by decide +kernel
theorem dL_law_983 : decode cL_law 983 = .ok (.iconst 3, 1) := by decide +kernel
theorem dL_law_984 : decode cL_law 984 = .ok (.iload 11, 2) := by decide +kernel
theorem dL_law_986 : decode cL_law 986 = .ok (.imul, 1) := by decide +kernel
theorem dL_law_987 : decode cL_law 987 = .ok (.iadd, 1) := by decide +kernel
theorem dL_law_988 : decode cL_law 988 = .ok (.iload 14, 2) := by decide +kernel
theorem dL_law_990 : decode cL_law 990 = .ok (.invokevirtual 25, 3) := by decide +kernel
theorem dL_law_993 : decode cL_law 993 = .ok (.iconst 1, 1) := by decide +kernel
theorem dL_law_994 : decode cL_law 994 = .ok (.if_icmp .ne 21, 3) := by decide +kernel
theorem dL_law_997 : decode cL_law 997 = .ok (.aload_n 1, 1) := by decide +kernel
theorem dL_law_998 : decode cL_law 998 = .ok (.iconst 1, 1) := by decide +kernel
theorem dL_law_999 : decode cL_law 999 = .ok (.bipush 6, 2) := by decide +kernel
theorem dL_law_1001 : decode cL_law 1001 = .ok (.iconst 3, 1) := by decide +kernel
theorem dL_law_1002 : decode cL_law 1002 = .ok (.iload 11, 2) := by decide +kernel
theorem dL_law_1004 : decode cL_law 1004 = .ok (.imul, 1) := by decide +kernel
theorem dL_law_1005 : decode cL_law 1005 = .ok (.iadd, 1) := by decide +kernel
theorem dL_law_1006 : decode cL_law 1006 = .ok (.iload 15, 2) := by decide +kernel
theorem dL_law_1008 : decode cL_law 1008 = .ok (.invokevirtual 25, 3) := by decide +kernel
theorem dL_law_1011 : decode cL_law 1011 = .ok (.iconst 1, 1) := by decide +kernel
theorem dL_law_1012 : decode cL_law 1012 = .ok (.if_icmp .eq 5, 3) := by decide +kernel
theorem dL_law_1015 : decode cL_law 1015 = .ok (.iconst 0, 1) := by decide +kernel
theorem dL_law_1016 : decode cL_law 1016 = .ok (.ireturn, 1) := by decide +kernel
theorem dL_law_1017 : decode cL_law 1017 = .ok (.iload 10, 2) := by decide +kernel
theorem dL_law_1019 : decode cL_law 1019 = .ok (.ifCond .ge 20, 3) := by decide +kernel
theorem dL_law_1022 : decode cL_law 1022 = .ok (.aload_n 2, 1) := by decide +kernel
theorem dL_law_1023 : decode cL_law 1023 = .ok (.iload 13, 2) := by decide +kernel
theorem dL_law_1025 : decode cL_law 1025 = .ok (.iload 14, 2) := by decide +kernel
theorem dL_law_1027 : decode cL_law 1027 = .ok (.iload 15, 2) := by decide +kernel
theorem dL_law_1029 : decode cL_law 1029 = .ok (.invokestatic 99, 3) := by decide +kernel
theorem dL_law_1032 : decode cL_law 1032 = .ok (.ifCond .ne 7, 3) := by decide +kernel
theorem dL_law_1035 : decode cL_law 1035 = .ok (.iload 11, 2) := by decide +kernel
theorem dL_law_1037 : decode cL_law 1037 = .ok (.istore 10, 2) := by decide +kernel
theorem dL_law_1039 : decode cL_law 1039 = .ok (.iload 10, 2) := by decide +kernel
theorem dL_law_1041 : decode cL_law 1041 = .ok (.ifCond .lt 6, 3) := by decide +kernel
theorem dL_law_1044 : decode cL_law 1044 = .ok (.goto 47, 3) := by decide +kernel
theorem dL_law_1047 : decode cL_law 1047 = .ok (.iload 13, 2) := by decide +kernel
theorem dL_law_1049 : decode cL_law 1049 = .ok (.ifCond .ne 12, 3) := by decide +kernel
theorem dL_law_1052 : decode cL_law 1052 = .ok (.aload_n 2, 1) := by decide +kernel
theorem dL_law_1053 : decode cL_law 1053 = .ok (.iload 14, 2) := by decide +kernel
theorem dL_law_1055 : decode cL_law 1055 = .ok (.iload 15, 2) := by decide +kernel
theorem dL_law_1057 : decode cL_law 1057 = .ok (.invokestatic 58, 3) := by decide +kernel
theorem dL_law_1060 : decode cL_law 1060 = .ok (.pop, 1) := by decide +kernel
theorem dL_law_1061 : decode cL_law 1061 = .ok (.iload 13, 2) := by decide +kernel
theorem dL_law_1063 : decode cL_law 1063 = .ok (.iconst 1, 1) := by decide +kernel
theorem dL_law_1064 : decode cL_law 1064 = .ok (.if_icmp .ne 12, 3) := by decide +kernel
theorem dL_law_1067 : decode cL_law 1067 = .ok (.aload_n 2, 1) := by decide +kernel
theorem dL_law_1068 : decode cL_law 1068 = .ok (.bipush 8, 2) := by decide +kernel
theorem dL_law_1070 : decode cL_law 1070 = .ok (.iload 14, 2) := by decide +kernel
theorem dL_law_1072 : decode cL_law 1072 = .ok (.iadd, 1) := by decide +kernel
theorem dL_law_1073 : decode cL_law 1073 = .ok (.iload 15, 2) := by decide +kernel
theorem dL_law_1075 : decode cL_law 1075 = .ok (.iastore, 1) := by decide +kernel
theorem dL_law_1076 : decode cL_law 1076 = .ok (.iload 13, 2) := by decide +kernel
theorem dL_law_1078 : decode cL_law 1078 = .ok (.iconst 2, 1) := by decide +kernel
theorem dL_law_1079 : decode cL_law 1079 = .ok (.if_icmp .ne 12, 3) := by decide +kernel
theorem dL_law_1082 : decode cL_law 1082 = .ok (.aload_n 2, 1) := by decide +kernel
theorem dL_law_1083 : decode cL_law 1083 = .ok (.iload 14, 2) := by decide +kernel
theorem dL_law_1085 : decode cL_law 1085 = .ok (.iload 15, 2) := by decide +kernel
theorem dL_law_1087 : decode cL_law 1087 = .ok (.invokestatic 60, 3) := by decide +kernel
theorem dL_law_1090 : decode cL_law 1090 = .ok (.pop, 1) := by decide +kernel
theorem dL_law_1091 : decode cL_law 1091 = .ok (.iinc 11 1, 3) := by decide +kernel
theorem dL_law_1094 : decode cL_law 1094 = .ok (.goto (-348), 3) := by decide +kernel
theorem dL_law_1097 : decode cL_law 1097 = .ok (.iconst 0, 1) := by decide +kernel
theorem dL_law_1098 : decode cL_law 1098 = .ok (.istore 11, 2) := by decide +kernel
theorem dL_law_1100 : decode cL_law 1100 = .ok (.iconst 0, 1) := by decide +kernel
theorem dL_law_1101 : decode cL_law 1101 = .ok (.istore 12, 2) := by decide +kernel
theorem dL_law_1103 : decode cL_law 1103 = .ok (.iload 12, 2) := by decide +kernel
theorem dL_law_1105 : decode cL_law 1105 = .ok (.iload 5, 2) := by decide +kernel
theorem dL_law_1107 : decode cL_law 1107 = .ok (.if_icmp .ge 28, 3) := by decide +kernel
theorem dL_law_1110 : decode cL_law 1110 = .ok (.aload_n 2, 1) := by decide +kernel
theorem dL_law_1111 : decode cL_law 1111 = .ok (.iload 12, 2) := by decide +kernel
theorem dL_law_1113 : decode cL_law 1113 = .ok (.invokestatic 84, 3) := by decide +kernel
theorem dL_law_1116 : decode cL_law 1116 = .ok (.iload 11, 2) := by decide +kernel
theorem dL_law_1118 : decode cL_law 1118 = .ok (.if_icmp .le 11, 3) := by decide +kernel
theorem dL_law_1121 : decode cL_law 1121 = .ok (.aload_n 2, 1) := by decide +kernel
theorem dL_law_1122 : decode cL_law 1122 = .ok (.iload 12, 2) := by decide +kernel
theorem dL_law_1124 : decode cL_law 1124 = .ok (.invokestatic 84, 3) := by decide +kernel
theorem dL_law_1127 : decode cL_law 1127 = .ok (.istore 11, 2) := by decide +kernel
theorem dL_law_1129 : decode cL_law 1129 = .ok (.iinc 12 1, 3) := by decide +kernel
theorem dL_law_1132 : decode cL_law 1132 = .ok (.goto (-29), 3) := by decide +kernel
theorem dL_law_1135 : decode cL_law 1135 = .ok (.bipush (-100), 2) := by decide +kernel
theorem dL_law_1137 : decode cL_law 1137 = .ok (.iload 10, 2) := by decide +kernel
theorem dL_law_1139 : decode cL_law 1139 = .ok (.isub, 1) := by decide +kernel
theorem dL_law_1140 : decode cL_law 1140 = .ok (.istore 12, 2) := by decide +kernel
theorem dL_law_1142 : decode cL_law 1142 = .ok (.aload_n 1, 1) := by decide +kernel
theorem dL_law_1143 : decode cL_law 1143 = .ok (.iconst 1, 1) := by decide +kernel
theorem dL_law_1144 : decode cL_law 1144 = .ok (.iconst 1, 1) := by decide +kernel
theorem dL_law_1145 : decode cL_law 1145 = .ok (.iconst 4, 1) := by decide +kernel
theorem dL_law_1146 : decode cL_law 1146 = .ok (.iload 9, 2) := by decide +kernel
theorem dL_law_1148 : decode cL_law 1148 = .ok (.iconst 1, 1) := by decide +kernel
theorem dL_law_1149 : decode cL_law 1149 = .ok (.invokevirtual 103, 3) := by decide +kernel
theorem dL_law_1152 : decode cL_law 1152 = .ok (.iload 10, 2) := by decide +kernel
theorem dL_law_1154 : decode cL_law 1154 = .ok (.if_icmp .ne 114, 3) := by decide +kernel
theorem dL_law_1157 : decode cL_law 1157 = .ok (.aload_n 1, 1) := by decide +kernel
theorem dL_law_1158 : decode cL_law 1158 = .ok (.iconst 1, 1) := by decide +kernel
theorem dL_law_1159 : decode cL_law 1159 = .ok (.iconst 1, 1) := by decide +kernel
theorem dL_law_1160 : decode cL_law 1160 = .ok (.iconst 4, 1) := by decide +kernel
theorem dL_law_1161 : decode cL_law 1161 = .ok (.iload 9, 2) := by decide +kernel
theorem dL_law_1163 : decode cL_law 1163 = .ok (.iconst 0, 1) := by decide +kernel
theorem dL_law_1164 : decode cL_law 1164 = .ok (.invokevirtual 103, 3) := by decide +kernel
theorem dL_law_1167 : decode cL_law 1167 = .ok (.iload 10, 2) := by decide +kernel
theorem dL_law_1169 : decode cL_law 1169 = .ok (.ifCond .ge 9, 3) := by decide +kernel
theorem dL_law_1172 : decode cL_law 1172 = .ok (.aload_n 2, 1) := by decide +kernel
theorem dL_law_1173 : decode cL_law 1173 = .ok (.iconst 1, 1) := by decide +kernel
theorem dL_law_1174 : decode cL_law 1174 = .ok (.iaload, 1) := by decide +kernel
theorem dL_law_1175 : decode cL_law 1175 = .ok (.goto 5, 3) := by decide +kernel
theorem dL_law_1178 : decode cL_law 1178 = .ok (.iload 12, 2) := by decide +kernel
theorem dL_law_1180 : decode cL_law 1180 = .ok (.if_icmp .ne 88, 3) := by decide +kernel
theorem dL_law_1183 : decode cL_law 1183 = .ok (.aload_n 1, 1) := by decide +kernel
theorem dL_law_1184 : decode cL_law 1184 = .ok (.iconst 1, 1) := by decide +kernel
theorem dL_law_1185 : decode cL_law 1185 = .ok (.iconst 1, 1) := by decide +kernel
theorem dL_law_1186 : decode cL_law 1186 = .ok (.iconst 4, 1) := by decide +kernel
theorem dL_law_1187 : decode cL_law 1187 = .ok (.iload 9, 2) := by decide +kernel
theorem dL_law_1189 : decode cL_law 1189 = .ok (.iconst 2, 1) := by decide +kernel
theorem dL_law_1190 : decode cL_law 1190 = .ok (.invokevirtual 103, 3) := by decide +kernel
theorem dL_law_1193 : decode cL_law 1193 = .ok (.iload 10, 2) := by decide +kernel
theorem dL_law_1195 : decode cL_law 1195 = .ok (.ifCond .ge 10, 3) := by decide +kernel
theorem dL_law_1198 : decode cL_law 1198 = .ok (.aload_n 2, 1) := by decide +kernel
theorem dL_law_1199 : decode cL_law 1199 = .ok (.invokestatic 92, 3) := by decide +kernel
theorem dL_law_1202 : decode cL_law 1202 = .ok (.goto 5, 3) := by decide +kernel
theorem dL_law_1205 : decode cL_law 1205 = .ok (.iload 12, 2) := by decide +kernel
theorem dL_law_1207 : decode cL_law 1207 = .ok (.if_icmp .ne 61, 3) := by decide +kernel
theorem dL_law_1210 : decode cL_law 1210 = .ok (.aload_n 1, 1) := by decide +kernel
theorem dL_law_1211 : decode cL_law 1211 = .ok (.iconst 1, 1) := by decide +kernel
