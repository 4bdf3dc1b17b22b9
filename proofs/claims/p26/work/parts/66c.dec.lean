theorem dL_law_591 : decode cL_law 591 = .ok (.ifCond .eq 28, 3) := by decide +kernel
theorem dL_law_594 : decode cL_law 594 = .ok (.aload_n 1, 1) := by decide +kernel
theorem dL_law_595 : decode cL_law 595 = .ok (.iload 5, 2) := by decide +kernel
theorem dL_law_597 : decode cL_law 597 = .ok (.iconst 0, 1) := by decide +kernel
theorem dL_law_598 : decode cL_law 598 = .ok (.invokevirtual 40, 3) := by decide +kernel
theorem dL_law_601 : decode cL_law 601 = .ok (.ifCond .ge 8, 3) := by decide +kernel
theorem dL_law_604 : decode cL_law 604 = .ok (.iload 5, 2) := by decide +kernel
theorem dL_law_606 : decode cL_law 606 = .ok (.goto 5, 3) := by decide +kernel
theorem dL_law_609 : decode cL_law 609 = .ok (.iload 4, 2) := by decide +kernel
theorem dL_law_611 : decode cL_law 611 = .ok (.istore 4, 2) := by decide +kernel
theorem dL_law_613 : decode cL_law 613 = .ok (.iinc 5 (-1), 3) := by decide +kernel
theorem dL_law_616 : decode cL_law 616 = .ok (.goto (-31), 3) := by decide +kernel
theorem dL_law_619 : decode cL_law 619 = .ok (.iload_n 2, 1) := by decide +kernel
theorem dL_law_620 : decode cL_law 620 = .ok (.ifCond .eq 11, 3) := by decide +kernel
theorem dL_law_623 : decode cL_law 623 = .ok (.aload_n 1, 1) := by decide +kernel
theorem dL_law_624 : decode cL_law 624 = .ok (.iload_n 3, 1) := by decide +kernel
theorem dL_law_625 : decode cL_law 625 = .ok (.invokevirtual 49, 3) := by decide +kernel
theorem dL_law_628 : decode cL_law 628 = .ok (.goto 4, 3) := by decide +kernel
theorem dL_law_632 : decode cL_law 632 = .ok (.istore 5, 2) := by decide +kernel
theorem dL_law_634 : decode cL_law 634 = .ok (.iload_n 2, 1) := by decide +kernel
theorem dL_law_635 : decode cL_law 635 = .ok (.ifCond .eq 12, 3) := by decide +kernel
theorem dL_law_638 : decode cL_law 638 = .ok (.aload_n 1, 1) := by decide +kernel
theorem dL_law_639 : decode cL_law 639 = .ok (.bipush 13, 2) := by decide +kernel
theorem dL_law_641 : decode cL_law 641 = .ok (.invokevirtual 37, 3) := by decide +kernel
theorem dL_law_644 : decode cL_law 644 = .ok (.goto 4, 3) := by decide +kernel
theorem dL_law_648 : decode cL_law 648 = .ok (.istore 6, 2) := by decide +kernel
theorem dL_law_650 : decode cL_law 650 = .ok (.iload_n 2, 1) := by decide +kernel
theorem dL_law_651 : decode cL_law 651 = .ok (.ifCond .eq 13, 3) := by decide +kernel
theorem dL_law_654 : decode cL_law 654 = .ok (.aload_n 1, 1) := by decide +kernel
theorem dL_law_655 : decode cL_law 655 = .ok (.iload 4, 2) := by decide +kernel
theorem dL_law_657 : decode cL_law 657 = .ok (.iload_n 3, 1) := by decide +kernel
theorem dL_law_658 : decode cL_law 658 = .ok (.invokevirtual 22, 3) := by decide +kernel
theorem dL_law_661 : decode cL_law 661 = .ok (.goto 4, 3) := by decide +kernel
theorem dL_law_665 : decode cL_law 665 = .ok (.istore 7, 2) := by decide +kernel
theorem dL_law_667 : decode cL_law 667 = .ok (.iload_n 2, 1) := by decide +kernel
theorem dL_law_668 : decode cL_law 668 = .ok (.ifCond .eq 82, 3) := by decide +kernel
theorem dL_law_671 : decode cL_law 671 = .ok (.iload 7, 2) := by decide +kernel
theorem dL_law_673 : decode cL_law 673 = .ok (.iload 5, 2) := by decide +kernel
theorem dL_law_675 : decode cL_law 675 = .ok (.ifCond .ne 26, 3) := by decide +kernel
theorem dL_law_678 : decode cL_law 678 = .ok (.iload_n 3, 1) := by decide +kernel
theorem dL_law_679 : decode cL_law 679 = .ok (.ifCond .ne 7, 3) := by decide +kernel
theorem dL_law_682 : decode cL_law 682 = .ok (.iconst 4, 1) := by decide +kernel
theorem dL_law_683 : decode cL_law 683 = .ok (.goto 23, 3) := by decide +kernel
theorem dL_law_686 : decode cL_law 686 = .ok (.iload_n 3, 1) := by decide +kernel
theorem dL_law_687 : decode cL_law 687 = .ok (.iconst 1, 1) := by decide +kernel
theorem dL_law_688 : decode cL_law 688 = .ok (.if_icmp .ne 8, 3) := by decide +kernel
theorem dL_law_691 : decode cL_law 691 = .ok (.bipush 6, 2) := by decide +kernel
theorem dL_law_693 : decode cL_law 693 = .ok (.goto 13, 3) := by decide +kernel
theorem dL_law_696 : decode cL_law 696 = .ok (.bipush 9, 2) := by decide +kernel
theorem dL_law_698 : decode cL_law 698 = .ok (.goto 8, 3) := by decide +kernel
theorem dL_law_701 : decode cL_law 701 = .ok (.bipush (-10), 2) := by decide +kernel
theorem dL_law_703 : decode cL_law 703 = .ok (.iload 5, 2) := by decide +kernel
theorem dL_law_705 : decode cL_law 705 = .ok (.isub, 1) := by decide +kernel
theorem dL_law_706 : decode cL_law 706 = .ok (.if_icmp .ne 44, 3) := by decide +kernel
theorem dL_law_709 : decode cL_law 709 = .ok (.iload 5, 2) := by decide +kernel
theorem dL_law_711 : decode cL_law 711 = .ok (.ifCond .gt 35, 3) := by decide +kernel
theorem dL_law_714 : decode cL_law 714 = .ok (.aload_n 1, 1) := by decide +kernel
theorem dL_law_715 : decode cL_law 715 = .ok (.iload 7, 2) := by decide +kernel
theorem dL_law_717 : decode cL_law 717 = .ok (.invokevirtual 34, 3) := by decide +kernel
theorem dL_law_720 : decode cL_law 720 = .ok (.ifCond .le 30, 3) := by decide +kernel
theorem dL_law_723 : decode cL_law 723 = .ok (.aload_n 1, 1) := by decide +kernel
theorem dL_law_724 : decode cL_law 724 = .ok (.iload 4, 2) := by decide +kernel
theorem dL_law_726 : decode cL_law 726 = .ok (.iconst 0, 1) := by decide +kernel
theorem dL_law_727 : decode cL_law 727 = .ok (.invokevirtual 40, 3) := by decide +kernel
theorem dL_law_730 : decode cL_law 730 = .ok (.bipush (-5), 2) := by decide +kernel
theorem dL_law_732 : decode cL_law 732 = .ok (.if_icmp .ne 18, 3) := by decide +kernel
theorem dL_law_735 : decode cL_law 735 = .ok (.aload_n 1, 1) := by decide +kernel
theorem dL_law_736 : decode cL_law 736 = .ok (.bipush 13, 2) := by decide +kernel
theorem dL_law_738 : decode cL_law 738 = .ok (.invokevirtual 37, 3) := by decide +kernel
theorem dL_law_741 : decode cL_law 741 = .ok (.iload 6, 2) := by decide +kernel
theorem dL_law_743 : decode cL_law 743 = .ok (.if_icmp .ne 7, 3) := by decide +kernel
theorem dL_law_746 : decode cL_law 746 = .ok (.iconst 1, 1) := by decide +kernel
theorem dL_law_747 : decode cL_law 747 = .ok (.goto 4, 3) := by decide +kernel
theorem dL_law_751 : decode cL_law 751 = .ok (.istore_n 2, 1) := by decide +kernel
theorem dL_law_752 : decode cL_law 752 = .ok (.iload_n 2, 1) := by decide +kernel
theorem dL_law_753 : decode cL_law 753 = .ok (.ifCond .eq 12, 3) := by decide +kernel
theorem dL_law_756 : decode cL_law 756 = .ok (.aload_n 1, 1) := by decide +kernel
theorem dL_law_757 : decode cL_law 757 = .ok (.bipush 20, 2) := by decide +kernel
theorem dL_law_759 : decode cL_law 759 = .ok (.invokevirtual 87, 3) := by decide +kernel
theorem dL_law_762 : decode cL_law 762 = .ok (.goto 4, 3) := by decide +kernel
theorem dL_law_766 : decode cL_law 766 = .ok (.istore 8, 2) := by decide +kernel
theorem dL_law_768 : decode cL_law 768 = .ok (.iload_n 2, 1) := by decide +kernel
theorem dL_law_769 : decode cL_law 769 = .ok (.ifCond .eq 23, 3) := by decide +kernel
theorem dL_law_772 : decode cL_law 772 = .ok (.aload_n 1, 1) := by decide +kernel
theorem dL_law_773 : decode cL_law 773 = .ok (.iload 8, 2) := by decide +kernel
theorem dL_law_775 : decode cL_law 775 = .ok (.bipush 10, 2) := by decide +kernel
theorem dL_law_777 : decode cL_law 777 = .ok (.idiv, 1) := by decide +kernel
theorem dL_law_778 : decode cL_law 778 = .ok (.iload 8, 2) := by decide +kernel
theorem dL_law_780 : decode cL_law 780 = .ok (.bipush 10, 2) := by decide +kernel
theorem dL_law_782 : decode cL_law 782 = .ok (.irem, 1) := by decide +kernel
theorem dL_law_783 : decode cL_law 783 = .ok (.bipush 20, 2) := by decide +kernel
theorem dL_law_785 : decode cL_law 785 = .ok (.iconst 0, 1) := by decide +kernel
theorem dL_law_786 : decode cL_law 786 = .ok (.invokevirtual 75, 3) := by decide +kernel
theorem dL_law_789 : decode cL_law 789 = .ok (.goto 4, 3) := by decide +kernel
theorem dL_law_793 : decode cL_law 793 = .ok (.istore 9, 2) := by decide +kernel
theorem dL_law_795 : decode cL_law 795 = .ok (.iload_n 2, 1) := by decide +kernel
theorem dL_law_796 : decode cL_law 796 = .ok (.ifCond .eq 23, 3) := by decide +kernel
theorem dL_law_799 : decode cL_law 799 = .ok (.aload_n 1, 1) := by decide +kernel
theorem dL_law_800 : decode cL_law 800 = .ok (.iload 8, 2) := by decide +kernel
theorem dL_law_802 : decode cL_law 802 = .ok (.bipush 10, 2) := by decide +kernel
theorem dL_law_804 : decode cL_law 804 = .ok (.idiv, 1) := by decide +kernel
theorem dL_law_805 : decode cL_law 805 = .ok (.iload 8, 2) := by decide +kernel
theorem dL_law_807 : decode cL_law 807 = .ok (.bipush 10, 2) := by decide +kernel
theorem dL_law_809 : decode cL_law 809 = .ok (.irem, 1) := by decide +kernel
theorem dL_law_810 : decode cL_law 810 = .ok (.bipush 20, 2) := by decide +kernel
theorem dL_law_812 : decode cL_law 812 = .ok (.iconst 2, 1) := by decide +kernel
theorem dL_law_813 : decode cL_law 813 = .ok (.invokevirtual 75, 3) := by decide +kernel
theorem dL_law_816 : decode cL_law 816 = .ok (.goto 4, 3) := by decide +kernel
theorem dL_law_820 : decode cL_law 820 = .ok (.istore 10, 2) := by decide +kernel
theorem dL_law_822 : decode cL_law 822 = .ok (.iconst 0, 1) := by decide +kernel
theorem dL_law_823 : decode cL_law 823 = .ok (.istore 11, 2) := by decide +kernel
theorem dL_law_825 : decode cL_law 825 = .ok (.iload 11, 2) := by decide +kernel
theorem dL_law_827 : decode cL_law 827 = .ok (.bipush 36, 2) := by decide +kernel
theorem dL_law_829 : decode cL_law 829 = .ok (.if_icmp .ge 104, 3) := by decide +kernel
theorem dL_law_832 : decode cL_law 832 = .ok (.iload_n 2, 1) := by decide +kernel
theorem dL_law_833 : decode cL_law 833 = .ok (.ifCond .eq 100, 3) := by decide +kernel
theorem dL_law_836 : decode cL_law 836 = .ok (.aload_n 1, 1) := by decide +kernel
theorem dL_law_837 : decode cL_law 837 = .ok (.iload 11, 2) := by decide +kernel
theorem dL_law_839 : decode cL_law 839 = .ok (.bipush 6, 2) := by decide +kernel
theorem dL_law_841 : decode cL_law 841 = .ok (.idiv, 1) := by decide +kernel
theorem dL_law_842 : decode cL_law 842 = .ok (.iload 11, 2) := by decide +kernel
theorem dL_law_844 : decode cL_law 844 = .ok (.bipush 6, 2) := by decide +kernel
theorem dL_law_846 : decode cL_law 846 = .ok (.irem, 1) := by decide +kernel
theorem dL_law_847 : decode cL_law 847 = .ok (.bipush 20, 2) := by decide +kernel
theorem dL_law_849 : decode cL_law 849 = .ok (.iconst 0, 1) := by decide +kernel
theorem dL_law_850 : decode cL_law 850 = .ok (.invokevirtual 75, 3) := by decide +kernel
theorem dL_law_853 : decode cL_law 853 = .ok (.istore 12, 2) := by decide +kernel
theorem dL_law_855 : decode cL_law 855 = .ok (.aload_n 1, 1) := by decide +kernel
theorem dL_law_856 : decode cL_law 856 = .ok (.iload 11, 2) := by decide +kernel
theorem dL_law_858 : decode cL_law 858 = .ok (.bipush 6, 2) := by decide +kernel
theorem dL_law_860 : decode cL_law 860 = .ok (.idiv, 1) := by decide +kernel
theorem dL_law_861 : decode cL_law 861 = .ok (.iload 11, 2) := by decide +kernel
theorem dL_law_863 : decode cL_law 863 = .ok (.bipush 6, 2) := by decide +kernel
theorem dL_law_865 : decode cL_law 865 = .ok (.irem, 1) := by decide +kernel
theorem dL_law_866 : decode cL_law 866 = .ok (.bipush 20, 2) := by decide +kernel
theorem dL_law_868 : decode cL_law 868 = .ok (.iconst 2, 1) := by decide +kernel
theorem dL_law_869 : decode cL_law 869 = .ok (.invokevirtual 75, 3) := by decide +kernel
theorem dL_law_872 : decode cL_law 872 = .ok (.istore 13, 2) := by decide +kernel
theorem dL_law_874 : decode cL_law 874 = .ok (.iload 12, 2) := by decide +kernel
theorem dL_law_876 : decode cL_law 876 = .ok (.iload 9, 2) := by decide +kernel
theorem dL_law_878 : decode cL_law 878 = .ok (.if_icmp .lt 43, 3) := by decide +kernel
theorem dL_law_881 : decode cL_law 881 = .ok (.iload 12, 2) := by decide +kernel
theorem dL_law_883 : decode cL_law 883 = .ok (.iload 9, 2) := by decide +kernel
theorem dL_law_885 : decode cL_law 885 = .ok (.if_icmp .ne 40, 3) := by decide +kernel
theorem dL_law_888 : decode cL_law 888 = .ok (.iload 13, 2) := by decide +kernel
theorem dL_law_890 : decode cL_law 890 = .ok (.iload 10, 2) := by decide +kernel
theorem dL_law_892 : decode cL_law 892 = .ok (.if_icmp .gt 29, 3) := by decide +kernel
theorem dL_law_895 : decode cL_law 895 = .ok (.iload 13, 2) := by decide +kernel
theorem dL_law_897 : decode cL_law 897 = .ok (.iload 10, 2) := by decide +kernel
theorem dL_law_899 : decode cL_law 899 = .ok (.if_icmp .ne 26, 3) := by decide +kernel
theorem dL_law_902 : decode cL_law 902 = .ok (.bipush 10, 2) := by decide +kernel
theorem dL_law_904 : decode cL_law 904 = .ok (.iload 11, 2) := by decide +kernel
theorem dL_law_906 : decode cL_law 906 = .ok (.bipush 6, 2) := by decide +kernel
theorem dL_law_908 : decode cL_law 908 = .ok (.idiv, 1) := by decide +kernel
theorem dL_law_909 : decode cL_law 909 = .ok (.imul, 1) := by decide +kernel
theorem dL_law_910 : decode cL_law 910 = .ok (.iload 11, 2) := by decide +kernel
theorem dL_law_912 : decode cL_law 912 = .ok (.bipush 6, 2) := by decide +kernel
theorem dL_law_914 : decode cL_law 914 = .ok (.irem, 1) := by decide +kernel
theorem dL_law_915 : decode cL_law 915 = .ok (.iadd, 1) := by decide +kernel
theorem dL_law_916 : decode cL_law 916 = .ok (.iload 8, 2) := by decide +kernel
theorem dL_law_918 : decode cL_law 918 = .ok (.if_icmp .lt 7, 3) := by decide +kernel
theorem dL_law_921 : decode cL_law 921 = .ok (.iconst 1, 1) := by decide +kernel
theorem dL_law_922 : decode cL_law 922 = .ok (.goto 4, 3) := by decide +kernel
theorem dL_law_926 : decode cL_law 926 = .ok (.istore_n 2, 1) := by decide +kernel
theorem dL_law_927 : decode cL_law 927 = .ok (.iinc 11 1, 3) := by decide +kernel
theorem dL_law_930 : decode cL_law 930 = .ok (.goto (-105), 3) := by decide +kernel
theorem dL_law_933 : decode cL_law 933 = .ok (.iload_n 2, 1) := by decide +kernel
theorem dL_law_934 : decode cL_law 934 = .ok (.ifCond .eq 11, 3) := by decide +kernel
theorem dL_law_937 : decode cL_law 937 = .ok (.aload_n 1, 1) := by decide +kernel
theorem dL_law_938 : decode cL_law 938 = .ok (.iconst 0, 1) := by decide +kernel
theorem dL_law_939 : decode cL_law 939 = .ok (.invokevirtual 37, 3) := by decide +kernel
theorem dL_law_942 : decode cL_law 942 = .ok (.goto 4, 3) := by decide +kernel
theorem dL_law_946 : decode cL_law 946 = .ok (.istore 11, 2) := by decide +kernel
theorem dL_law_948 : decode cL_law 948 = .ok (.iload_n 2, 1) := by decide +kernel
theorem dL_law_949 : decode cL_law 949 = .ok (.ifCond .eq 32, 3) := by decide +kernel
theorem dL_law_952 : decode cL_law 952 = .ok (.aload_n 1, 1) := by decide +kernel
theorem dL_law_953 : decode cL_law 953 = .ok (.iconst 1, 1) := by decide +kernel
theorem dL_law_954 : decode cL_law 954 = .ok (.invokevirtual 34, 3) := by decide +kernel
theorem dL_law_957 : decode cL_law 957 = .ok (.ifCond .lt 24, 3) := by decide +kernel
theorem dL_law_960 : decode cL_law 960 = .ok (.aload_n 1, 1) := by decide +kernel
theorem dL_law_961 : decode cL_law 961 = .ok (.invokevirtual 57, 3) := by decide +kernel
theorem dL_law_964 : decode cL_law 964 = .ok (.ifCond .lt 17, 3) := by decide +kernel
theorem dL_law_967 : decode cL_law 967 = .ok (.aload_n 1, 1) := by decide +kernel
theorem dL_law_968 : decode cL_law 968 = .ok (.iconst 0, 1) := by decide +kernel
theorem dL_law_969 : decode cL_law 969 = .ok (.invokevirtual 37, 3) := by decide +kernel
theorem dL_law_972 : decode cL_law 972 = .ok (.iload 11, 2) := by decide +kernel
theorem dL_law_974 : decode cL_law 974 = .ok (.if_icmp .ne 7, 3) := by decide +kernel
theorem dL_law_977 : decode cL_law 977 = .ok (.iconst 1, 1) := by decide +kernel
theorem dL_law_978 : decode cL_law 978 = .ok (.goto 4, 3) := by decide +kernel
theorem dL_law_982 : decode cL_law 982 = .ok (.istore_n 2, 1) := by decide +kernel
theorem dL_law_983 : decode cL_law 983 = .ok (.iload_n 2, 1) := by decide +kernel
theorem dL_law_984 : decode cL_law 984 = .ok (.ifCond .eq 217, 3) := by decide +kernel
theorem dL_law_987 : decode cL_law 987 = .ok (.aload_n 1, 1) := by decide +kernel
theorem dL_law_988 : decode cL_law 988 = .ok (.invokestatic 83, 3) := by decide +kernel
theorem dL_law_991 : decode cL_law 991 = .ok (.ifCond .eq 210, 3) := by decide +kernel
theorem dL_law_994 : decode cL_law 994 = .ok (.aload_n 1, 1) := by decide +kernel
theorem dL_law_995 : decode cL_law 995 = .ok (.iconst 2, 1) := by decide +kernel
theorem dL_law_996 : decode cL_law 996 = .ok (.bipush 6, 2) := by decide +kernel
theorem dL_law_998 : decode cL_law 998 = .ok (.invokevirtual 9, 3) := by decide +kernel
theorem dL_law_1001 : decode cL_law 1001 = .ok (.iconst (-1), 1) := by decide +kernel
theorem dL_law_1002 : decode cL_law 1002 = .ok (.if_icmp .ne 199, 3) := by decide +kernel
theorem dL_law_1005 : decode cL_law 1005 = .ok (.aload_n 1, 1) := by decide +kernel
theorem dL_law_1006 : decode cL_law 1006 = .ok (.iconst 0, 1) := by decide +kernel
theorem dL_law_1007 : decode cL_law 1007 = .ok (.bipush 6, 2) := by decide +kernel
theorem dL_law_1009 : decode cL_law 1009 = .ok (.invokevirtual 9, 3) := by decide +kernel
theorem dL_law_1012 : decode cL_law 1012 = .ok (.bipush (-2), 2) := by decide +kernel
theorem dL_law_1014 : decode cL_law 1014 = .ok (.if_icmp .ne 187, 3) := by decide +kernel
theorem dL_law_1017 : decode cL_law 1017 = .ok (.aload_n 1, 1) := by decide +kernel
theorem dL_law_1018 : decode cL_law 1018 = .ok (.iconst 0, 1) := by decide +kernel
theorem dL_law_1019 : decode cL_law 1019 = .ok (.iconst 0, 1) := by decide +kernel
theorem dL_law_1020 : decode cL_law 1020 = .ok (.invokevirtual 15, 3) := by decide +kernel
theorem dL_law_1023 : decode cL_law 1023 = .ok (.bipush (-2), 2) := by decide +kernel
theorem dL_law_1025 : decode cL_law 1025 = .ok (.if_icmp .ne 176, 3) := by decide +kernel
theorem dL_law_1028 : decode cL_law 1028 = .ok (.aload_n 1, 1) := by decide +kernel
theorem dL_law_1029 : decode cL_law 1029 = .ok (.sipush 201, 3) := by decide +kernel
theorem dL_law_1032 : decode cL_law 1032 = .ok (.invokevirtual 18, 3) := by decide +kernel
theorem dL_law_1035 : decode cL_law 1035 = .ok (.bipush (-2), 2) := by decide +kernel
theorem dL_law_1037 : decode cL_law 1037 = .ok (.if_icmp .ne 164, 3) := by decide +kernel
theorem dL_law_1040 : decode cL_law 1040 = .ok (.aload_n 1, 1) := by decide +kernel
theorem dL_law_1041 : decode cL_law 1041 = .ok (.iconst 4, 1) := by decide +kernel
theorem dL_law_1042 : decode cL_law 1042 = .ok (.iconst 0, 1) := by decide +kernel
theorem dL_law_1043 : decode cL_law 1043 = .ok (.invokevirtual 22, 3) := by decide +kernel
theorem dL_law_1046 : decode cL_law 1046 = .ok (.iconst (-1), 1) := by decide +kernel
theorem dL_law_1047 : decode cL_law 1047 = .ok (.if_icmp .ne 154, 3) := by decide +kernel
theorem dL_law_1050 : decode cL_law 1050 = .ok (.aload_n 1, 1) := by decide +kernel
theorem dL_law_1051 : decode cL_law 1051 = .ok (.iconst 0, 1) := by decide +kernel
theorem dL_law_1052 : decode cL_law 1052 = .ok (.iconst 3, 1) := by decide +kernel
theorem dL_law_1053 : decode cL_law 1053 = .ok (.invokevirtual 22, 3) := by decide +kernel
theorem dL_law_1056 : decode cL_law 1056 = .ok (.iconst (-1), 1) := by decide +kernel
theorem dL_law_1057 : decode cL_law 1057 = .ok (.if_icmp .ne 144, 3) := by decide +kernel
theorem dL_law_1060 : decode cL_law 1060 = .ok (.aload_n 1, 1) := by decide +kernel
theorem dL_law_1061 : decode cL_law 1061 = .ok (.iconst 3, 1) := by decide +kernel
theorem dL_law_1062 : decode cL_law 1062 = .ok (.invokevirtual 25, 3) := by decide +kernel
theorem dL_law_1065 : decode cL_law 1065 = .ok (.iconst (-1), 1) := by decide +kernel
theorem dL_law_1066 : decode cL_law 1066 = .ok (.if_icmp .ne 135, 3) := by decide +kernel
theorem dL_law_1069 : decode cL_law 1069 = .ok (.aload_n 1, 1) := by decide +kernel
theorem dL_law_1070 : decode cL_law 1070 = .ok (.bipush 12, 2) := by decide +kernel
theorem dL_law_1072 : decode cL_law 1072 = .ok (.invokevirtual 28, 3) := by decide +kernel
theorem dL_law_1075 : decode cL_law 1075 = .ok (.iconst (-1), 1) := by decide +kernel
theorem dL_law_1076 : decode cL_law 1076 = .ok (.if_icmp .ne 125, 3) := by decide +kernel
theorem dL_law_1079 : decode cL_law 1079 = .ok (.aload_n 1, 1) := by decide +kernel
theorem dL_law_1080 : decode cL_law 1080 = .ok (.iconst 4, 1) := by decide +kernel
theorem dL_law_1081 : decode cL_law 1081 = .ok (.invokevirtual 31, 3) := by decide +kernel
theorem dL_law_1084 : decode cL_law 1084 = .ok (.iconst (-1), 1) := by decide +kernel
theorem dL_law_1085 : decode cL_law 1085 = .ok (.if_icmp .ne 116, 3) := by decide +kernel
theorem dL_law_1088 : decode cL_law 1088 = .ok (.aload_n 1, 1) := by decide +kernel
theorem dL_law_1089 : decode cL_law 1089 = .ok (.sipush 201, 3) := by decide +kernel
theorem dL_law_1092 : decode cL_law 1092 = .ok (.invokevirtual 34, 3) := by decide +kernel
theorem dL_law_1095 : decode cL_law 1095 = .ok (.bipush (-2), 2) := by decide +kernel
theorem dL_law_1097 : decode cL_law 1097 = .ok (.if_icmp .ne 104, 3) := by decide +kernel
theorem dL_law_1100 : decode cL_law 1100 = .ok (.aload_n 1, 1) := by decide +kernel
theorem dL_law_1101 : decode cL_law 1101 = .ok (.iconst 2, 1) := by decide +kernel
theorem dL_law_1102 : decode cL_law 1102 = .ok (.iconst 0, 1) := by decide +kernel
theorem dL_law_1103 : decode cL_law 1103 = .ok (.invokevirtual 43, 3) := by decide +kernel
theorem dL_law_1106 : decode cL_law 1106 = .ok (.iconst (-1), 1) := by decide +kernel
theorem dL_law_1107 : decode cL_law 1107 = .ok (.if_icmp .ne 94, 3) := by decide +kernel
theorem dL_law_1110 : decode cL_law 1110 = .ok (.aload_n 1, 1) := by decide +kernel
theorem dL_law_1111 : decode cL_law 1111 = .ok (.iconst 0, 1) := by decide +kernel
theorem dL_law_1112 : decode cL_law 1112 = .ok (.iconst 5, 1) := by decide +kernel
theorem dL_law_1113 : decode cL_law 1113 = .ok (.invokevirtual 43, 3) := by decide +kernel
theorem dL_law_1116 : decode cL_law 1116 = .ok (.bipush (-2), 2) := by decide +kernel
theorem dL_law_1118 : decode cL_law 1118 = .ok (.if_icmp .ne 83, 3) := by decide +kernel
theorem dL_law_1121 : decode cL_law 1121 = .ok (.aload_n 1, 1) := by decide +kernel
theorem dL_law_1122 : decode cL_law 1122 = .ok (.iconst 0, 1) := by decide +kernel
theorem dL_law_1123 : decode cL_law 1123 = .ok (.iconst 3, 1) := by decide +kernel
theorem dL_law_1124 : decode cL_law 1124 = .ok (.invokevirtual 40, 3) := by decide +kernel
theorem dL_law_1127 : decode cL_law 1127 = .ok (.bipush (-2), 2) := by decide +kernel
theorem dL_law_1129 : decode cL_law 1129 = .ok (.if_icmp .ne 72, 3) := by decide +kernel
theorem dL_law_1132 : decode cL_law 1132 = .ok (.aload_n 1, 1) := by decide +kernel
theorem dL_law_1133 : decode cL_law 1133 = .ok (.iconst (-1), 1) := by decide +kernel
theorem dL_law_1134 : decode cL_law 1134 = .ok (.invokevirtual 46, 3) := by decide +kernel
theorem dL_law_1137 : decode cL_law 1137 = .ok (.bipush (-2), 2) := by decide +kernel
theorem dL_law_1139 : decode cL_law 1139 = .ok (.if_icmp .ne 62, 3) := by decide +kernel
theorem dL_law_1142 : decode cL_law 1142 = .ok (.aload_n 1, 1) := by decide +kernel
theorem dL_law_1143 : decode cL_law 1143 = .ok (.iconst 3, 1) := by decide +kernel
theorem dL_law_1144 : decode cL_law 1144 = .ok (.invokevirtual 49, 3) := by decide +kernel
theorem dL_law_1147 : decode cL_law 1147 = .ok (.iconst (-1), 1) := by decide +kernel
theorem dL_law_1148 : decode cL_law 1148 = .ok (.if_icmp .ne 53, 3) := by decide +kernel
theorem dL_law_1151 : decode cL_law 1151 = .ok (.aload_n 1, 1) := by decide +kernel
theorem dL_law_1152 : decode cL_law 1152 = .ok (.bipush 6, 2) := by decide +kernel
theorem dL_law_1154 : decode cL_law 1154 = .ok (.iconst 0, 1) := by decide +kernel
theorem dL_law_1155 : decode cL_law 1155 = .ok (.iconst 1, 1) := by decide +kernel
theorem dL_law_1156 : decode cL_law 1156 = .ok (.iconst 0, 1) := by decide +kernel
theorem dL_law_1157 : decode cL_law 1157 = .ok (.invokevirtual 75, 3) := by decide +kernel
theorem dL_law_1160 : decode cL_law 1160 = .ok (.bipush (-2), 2) := by decide +kernel
theorem dL_law_1162 : decode cL_law 1162 = .ok (.if_icmp .ne 39, 3) := by decide +kernel
theorem dL_law_1165 : decode cL_law 1165 = .ok (.aload_n 1, 1) := by decide +kernel
theorem dL_law_1166 : decode cL_law 1166 = .ok (.bipush 101, 2) := by decide +kernel
theorem dL_law_1168 : decode cL_law 1168 = .ok (.invokevirtual 87, 3) := by decide +kernel
theorem dL_law_1171 : decode cL_law 1171 = .ok (.bipush (-2), 2) := by decide +kernel
theorem dL_law_1173 : decode cL_law 1173 = .ok (.if_icmp .ne 28, 3) := by decide +kernel
theorem dL_law_1176 : decode cL_law 1176 = .ok (.aload_n 1, 1) := by decide +kernel
theorem dL_law_1177 : decode cL_law 1177 = .ok (.bipush 16, 2) := by decide +kernel
theorem dL_law_1179 : decode cL_law 1179 = .ok (.invokevirtual 37, 3) := by decide +kernel
theorem dL_law_1182 : decode cL_law 1182 = .ok (.bipush (-2), 2) := by decide +kernel
theorem dL_law_1184 : decode cL_law 1184 = .ok (.if_icmp .ne 17, 3) := by decide +kernel
theorem dL_law_1187 : decode cL_law 1187 = .ok (.aload_n 1, 1) := by decide +kernel
theorem dL_law_1188 : decode cL_law 1188 = .ok (.iconst 2, 1) := by decide +kernel
theorem dL_law_1189 : decode cL_law 1189 = .ok (.invokevirtual 63, 3) := by decide +kernel
theorem dL_law_1192 : decode cL_law 1192 = .ok (.bipush (-2), 2) := by decide +kernel
theorem dL_law_1194 : decode cL_law 1194 = .ok (.if_icmp .ne 7, 3) := by decide +kernel
theorem dL_law_1197 : decode cL_law 1197 = .ok (.iconst 1, 1) := by decide +kernel
theorem dL_law_1198 : decode cL_law 1198 = .ok (.goto 4, 3) := by decide +kernel
theorem dL_law_1202 : decode cL_law 1202 = .ok (.ireturn, 1) := by decide +kernel
