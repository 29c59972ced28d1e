theorem dL_law_686 : decode cL_law 686 = .ok (.bipush 7, 2) := by decide +kernel
theorem dL_law_688 : decode cL_law 688 = .ok (.if_icmp .ne 39, 3) := by decide +kernel
theorem dL_law_691 : decode cL_law 691 = .ok (.iload 8, 2) := by decide +kernel
theorem dL_law_693 : decode cL_law 693 = .ok (.istore 17, 2) := by decide +kernel
theorem dL_law_695 : decode cL_law 695 = .ok (.iload 11, 2) := by decide +kernel
theorem dL_law_697 : decode cL_law 697 = .ok (.iconst 4, 1) := by decide +kernel
theorem dL_law_698 : decode cL_law 698 = .ok (.ishr, 1) := by decide +kernel
theorem dL_law_699 : decode cL_law 699 = .ok (.bipush 30, 2) := by decide +kernel
theorem dL_law_701 : decode cL_law 701 = .ok (.invokestatic 27, 3) := by decide +kernel
theorem dL_law_704 : decode cL_law 704 = .ok (.istore 8, 2) := by decide +kernel
theorem dL_law_706 : decode cL_law 706 = .ok (.aload_n 1, 1) := by decide +kernel
theorem dL_law_707 : decode cL_law 707 = .ok (.iload 8, 2) := by decide +kernel
theorem dL_law_709 : decode cL_law 709 = .ok (.invokevirtual 74, 3) := by decide +kernel
theorem dL_law_712 : decode cL_law 712 = .ok (.iload 17, 2) := by decide +kernel
theorem dL_law_714 : decode cL_law 714 = .ok (.if_icmp .ne 7, 3) := by decide +kernel
theorem dL_law_717 : decode cL_law 717 = .ok (.iconst 1, 1) := by decide +kernel
theorem dL_law_718 : decode cL_law 718 = .ok (.goto 4, 3) := by decide +kernel
theorem dL_law_721 : decode cL_law 721 = .ok (.iconst 0, 1) := by decide +kernel
theorem dL_law_722 : decode cL_law 722 = .ok (.istore 7, 2) := by decide +kernel
theorem dL_law_724 : decode cL_law 724 = .ok (.goto 342, 3) := by decide +kernel
theorem dL_law_727 : decode cL_law 727 = .ok (.iload 12, 2) := by decide +kernel
theorem dL_law_729 : decode cL_law 729 = .ok (.bipush 8, 2) := by decide +kernel
theorem dL_law_731 : decode cL_law 731 = .ok (.if_icmp .ne 55, 3) := by decide +kernel
theorem dL_law_734 : decode cL_law 734 = .ok (.aload_n 1, 1) := by decide +kernel
theorem dL_law_735 : decode cL_law 735 = .ok (.iload 14, 2) := by decide +kernel
theorem dL_law_737 : decode cL_law 737 = .ok (.iconst 1, 1) := by decide +kernel
theorem dL_law_738 : decode cL_law 738 = .ok (.iload 11, 2) := by decide +kernel
theorem dL_law_740 : decode cL_law 740 = .ok (.bipush 6, 2) := by decide +kernel
theorem dL_law_742 : decode cL_law 742 = .ok (.ishr, 1) := by decide +kernel
theorem dL_law_743 : decode cL_law 743 = .ok (.iconst 4, 1) := by decide +kernel
theorem dL_law_744 : decode cL_law 744 = .ok (.invokestatic 27, 3) := by decide +kernel
theorem dL_law_747 : decode cL_law 747 = .ok (.iadd, 1) := by decide +kernel
theorem dL_law_748 : decode cL_law 748 = .ok (.bipush 40, 2) := by decide +kernel
theorem dL_law_750 : decode cL_law 750 = .ok (.iload 11, 2) := by decide +kernel
theorem dL_law_752 : decode cL_law 752 = .ok (.bipush 8, 2) := by decide +kernel
theorem dL_law_754 : decode cL_law 754 = .ok (.ishr, 1) := by decide +kernel
theorem dL_law_755 : decode cL_law 755 = .ok (.bipush 88, 2) := by decide +kernel
theorem dL_law_757 : decode cL_law 757 = .ok (.invokestatic 27, 3) := by decide +kernel
theorem dL_law_760 : decode cL_law 760 = .ok (.iadd, 1) := by decide +kernel
theorem dL_law_761 : decode cL_law 761 = .ok (.invokevirtual 77, 3) := by decide +kernel
theorem dL_law_764 : decode cL_law 764 = .ok (.pop, 1) := by decide +kernel
theorem dL_law_765 : decode cL_law 765 = .ok (.aload_n 1, 1) := by decide +kernel
theorem dL_law_766 : decode cL_law 766 = .ok (.iload 14, 2) := by decide +kernel
theorem dL_law_768 : decode cL_law 768 = .ok (.iconst 1, 1) := by decide +kernel
theorem dL_law_769 : decode cL_law 769 = .ok (.iload 11, 2) := by decide +kernel
theorem dL_law_771 : decode cL_law 771 = .ok (.bipush 7, 2) := by decide +kernel
theorem dL_law_773 : decode cL_law 773 = .ok (.ishr, 1) := by decide +kernel
theorem dL_law_774 : decode cL_law 774 = .ok (.iconst 5, 1) := by decide +kernel
theorem dL_law_775 : decode cL_law 775 = .ok (.invokestatic 27, 3) := by decide +kernel
theorem dL_law_778 : decode cL_law 778 = .ok (.ishl, 1) := by decide +kernel
theorem dL_law_779 : decode cL_law 779 = .ok (.invokevirtual 80, 3) := by decide +kernel
theorem dL_law_782 : decode cL_law 782 = .ok (.pop, 1) := by decide +kernel
theorem dL_law_783 : decode cL_law 783 = .ok (.goto 283, 3) := by decide +kernel
theorem dL_law_786 : decode cL_law 786 = .ok (.iload 12, 2) := by decide +kernel
theorem dL_law_788 : decode cL_law 788 = .ok (.bipush 9, 2) := by decide +kernel
theorem dL_law_790 : decode cL_law 790 = .ok (.if_icmp .ne 50, 3) := by decide +kernel
theorem dL_law_793 : decode cL_law 793 = .ok (.aload_n 1, 1) := by decide +kernel
theorem dL_law_794 : decode cL_law 794 = .ok (.iload 14, 2) := by decide +kernel
theorem dL_law_796 : decode cL_law 796 = .ok (.iload 16, 2) := by decide +kernel
theorem dL_law_798 : decode cL_law 798 = .ok (.iload 11, 2) := by decide +kernel
theorem dL_law_800 : decode cL_law 800 = .ok (.iconst 5, 1) := by decide +kernel
theorem dL_law_801 : decode cL_law 801 = .ok (.ishr, 1) := by decide +kernel
theorem dL_law_802 : decode cL_law 802 = .ok (.bipush 7, 2) := by decide +kernel
theorem dL_law_804 : decode cL_law 804 = .ok (.invokestatic 27, 3) := by decide +kernel
theorem dL_law_807 : decode cL_law 807 = .ok (.iconst 3, 1) := by decide +kernel
theorem dL_law_808 : decode cL_law 808 = .ok (.isub, 1) := by decide +kernel
theorem dL_law_809 : decode cL_law 809 = .ok (.invokevirtual 83, 3) := by decide +kernel
theorem dL_law_812 : decode cL_law 812 = .ok (.pop, 1) := by decide +kernel
theorem dL_law_813 : decode cL_law 813 = .ok (.aload_n 1, 1) := by decide +kernel
theorem dL_law_814 : decode cL_law 814 = .ok (.iload 14, 2) := by decide +kernel
theorem dL_law_816 : decode cL_law 816 = .ok (.iload 11, 2) := by decide +kernel
theorem dL_law_818 : decode cL_law 818 = .ok (.bipush 8, 2) := by decide +kernel
theorem dL_law_820 : decode cL_law 820 = .ok (.ishr, 1) := by decide +kernel
theorem dL_law_821 : decode cL_law 821 = .ok (.iconst 2, 1) := by decide +kernel
theorem dL_law_822 : decode cL_law 822 = .ok (.invokestatic 27, 3) := by decide +kernel
theorem dL_law_825 : decode cL_law 825 = .ok (.ifCond .ne 7, 3) := by decide +kernel
theorem dL_law_828 : decode cL_law 828 = .ok (.iconst 1, 1) := by decide +kernel
theorem dL_law_829 : decode cL_law 829 = .ok (.goto 4, 3) := by decide +kernel
theorem dL_law_832 : decode cL_law 832 = .ok (.iconst 0, 1) := by decide +kernel
theorem dL_law_833 : decode cL_law 833 = .ok (.invokevirtual 86, 3) := by decide +kernel
theorem dL_law_836 : decode cL_law 836 = .ok (.pop, 1) := by decide +kernel
theorem dL_law_837 : decode cL_law 837 = .ok (.goto 229, 3) := by decide +kernel
theorem dL_law_840 : decode cL_law 840 = .ok (.iload 12, 2) := by decide +kernel
theorem dL_law_842 : decode cL_law 842 = .ok (.bipush 10, 2) := by decide +kernel
theorem dL_law_844 : decode cL_law 844 = .ok (.if_icmp .ne 206, 3) := by decide +kernel
theorem dL_law_847 : decode cL_law 847 = .ok (.iload 14, 2) := by decide +kernel
theorem dL_law_849 : decode cL_law 849 = .ok (.aload 5, 2) := by decide +kernel
theorem dL_law_851 : decode cL_law 851 = .ok (.iconst 1, 1) := by decide +kernel
theorem dL_law_852 : decode cL_law 852 = .ok (.iload 13, 2) := by decide +kernel
theorem dL_law_854 : decode cL_law 854 = .ok (.isub, 1) := by decide +kernel
theorem dL_law_855 : decode cL_law 855 = .ok (.iaload, 1) := by decide +kernel
theorem dL_law_856 : decode cL_law 856 = .ok (.if_icmp .ne 7, 3) := by decide +kernel
theorem dL_law_859 : decode cL_law 859 = .ok (.iconst 3, 1) := by decide +kernel
theorem dL_law_860 : decode cL_law 860 = .ok (.goto 5, 3) := by decide +kernel
theorem dL_law_863 : decode cL_law 863 = .ok (.iload 14, 2) := by decide +kernel
theorem dL_law_865 : decode cL_law 865 = .ok (.istore 17, 2) := by decide +kernel
theorem dL_law_867 : decode cL_law 867 = .ok (.aload_n 1, 1) := by decide +kernel
theorem dL_law_868 : decode cL_law 868 = .ok (.iload 13, 2) := by decide +kernel
theorem dL_law_870 : decode cL_law 870 = .ok (.iload 17, 2) := by decide +kernel
theorem dL_law_872 : decode cL_law 872 = .ok (.invokevirtual 90, 3) := by decide +kernel
theorem dL_law_875 : decode cL_law 875 = .ok (.istore 18, 2) := by decide +kernel
theorem dL_law_877 : decode cL_law 877 = .ok (.aload_n 1, 1) := by decide +kernel
theorem dL_law_878 : decode cL_law 878 = .ok (.iload 13, 2) := by decide +kernel
theorem dL_law_880 : decode cL_law 880 = .ok (.invokevirtual 93, 3) := by decide +kernel
theorem dL_law_883 : decode cL_law 883 = .ok (.aload 5, 2) := by decide +kernel
theorem dL_law_885 : decode cL_law 885 = .ok (.iload 13, 2) := by decide +kernel
theorem dL_law_887 : decode cL_law 887 = .ok (.iaload, 1) := by decide +kernel
theorem dL_law_888 : decode cL_law 888 = .ok (.if_icmp .ne 28, 3) := by decide +kernel
theorem dL_law_891 : decode cL_law 891 = .ok (.aload_n 1, 1) := by decide +kernel
theorem dL_law_892 : decode cL_law 892 = .ok (.iload 13, 2) := by decide +kernel
theorem dL_law_894 : decode cL_law 894 = .ok (.iconst 0, 1) := by decide +kernel
theorem dL_law_895 : decode cL_law 895 = .ok (.invokevirtual 8, 3) := by decide +kernel
theorem dL_law_898 : decode cL_law 898 = .ok (.iconst (-1), 1) := by decide +kernel
theorem dL_law_899 : decode cL_law 899 = .ok (.if_icmp .ne 17, 3) := by decide +kernel
theorem dL_law_902 : decode cL_law 902 = .ok (.aload_n 1, 1) := by decide +kernel
theorem dL_law_903 : decode cL_law 903 = .ok (.iload 13, 2) := by decide +kernel
theorem dL_law_905 : decode cL_law 905 = .ok (.invokevirtual 96, 3) := by decide +kernel
theorem dL_law_908 : decode cL_law 908 = .ok (.iconst (-1), 1) := by decide +kernel
theorem dL_law_909 : decode cL_law 909 = .ok (.if_icmp .ne 7, 3) := by decide +kernel
theorem dL_law_912 : decode cL_law 912 = .ok (.iconst 1, 1) := by decide +kernel
theorem dL_law_913 : decode cL_law 913 = .ok (.goto 4, 3) := by decide +kernel
theorem dL_law_916 : decode cL_law 916 = .ok (.iconst 0, 1) := by decide +kernel
theorem dL_law_917 : decode cL_law 917 = .ok (.istore 7, 2) := by decide +kernel
theorem dL_law_919 : decode cL_law 919 = .ok (.aload 5, 2) := by decide +kernel
theorem dL_law_921 : decode cL_law 921 = .ok (.iload 13, 2) := by decide +kernel
theorem dL_law_923 : decode cL_law 923 = .ok (.iload 17, 2) := by decide +kernel
theorem dL_law_925 : decode cL_law 925 = .ok (.iastore, 1) := by decide +kernel
theorem dL_law_926 : decode cL_law 926 = .ok (.aload_n 1, 1) := by decide +kernel
theorem dL_law_927 : decode cL_law 927 = .ok (.iload 13, 2) := by decide +kernel
theorem dL_law_929 : decode cL_law 929 = .ok (.iload 17, 2) := by decide +kernel
theorem dL_law_931 : decode cL_law 931 = .ok (.invokevirtual 36, 3) := by decide +kernel
theorem dL_law_934 : decode cL_law 934 = .ok (.pop, 1) := by decide +kernel
theorem dL_law_935 : decode cL_law 935 = .ok (.iload 7, 2) := by decide +kernel
theorem dL_law_937 : decode cL_law 937 = .ok (.ifCond .eq 42, 3) := by decide +kernel
theorem dL_law_940 : decode cL_law 940 = .ok (.aload_n 1, 1) := by decide +kernel
theorem dL_law_941 : decode cL_law 941 = .ok (.iload 13, 2) := by decide +kernel
theorem dL_law_943 : decode cL_law 943 = .ok (.invokevirtual 96, 3) := by decide +kernel
theorem dL_law_946 : decode cL_law 946 = .ok (.iload 17, 2) := by decide +kernel
theorem dL_law_948 : decode cL_law 948 = .ok (.if_icmp .ne 31, 3) := by decide +kernel
theorem dL_law_951 : decode cL_law 951 = .ok (.aload_n 1, 1) := by decide +kernel
theorem dL_law_952 : decode cL_law 952 = .ok (.aload 6, 2) := by decide +kernel
theorem dL_law_954 : decode cL_law 954 = .ok (.iload 13, 2) := by decide +kernel
theorem dL_law_956 : decode cL_law 956 = .ok (.iload 17, 2) := by decide +kernel
theorem dL_law_958 : decode cL_law 958 = .ok (.aload_n 3, 1) := by decide +kernel
theorem dL_law_959 : decode cL_law 959 = .ok (.iload 13, 2) := by decide +kernel
theorem dL_law_961 : decode cL_law 961 = .ok (.iaload, 1) := by decide +kernel
theorem dL_law_962 : decode cL_law 962 = .ok (.aload 4, 2) := by decide +kernel
theorem dL_law_964 : decode cL_law 964 = .ok (.iload 13, 2) := by decide +kernel
theorem dL_law_966 : decode cL_law 966 = .ok (.iaload, 1) := by decide +kernel
theorem dL_law_967 : decode cL_law 967 = .ok (.invokestatic 99, 3) := by decide +kernel
theorem dL_law_970 : decode cL_law 970 = .ok (.iload 18, 2) := by decide +kernel
theorem dL_law_972 : decode cL_law 972 = .ok (.if_icmp .lt 7, 3) := by decide +kernel
theorem dL_law_975 : decode cL_law 975 = .ok (.iconst 1, 1) := by decide +kernel
theorem dL_law_976 : decode cL_law 976 = .ok (.goto 4, 3) := by decide +kernel
theorem dL_law_979 : decode cL_law 979 = .ok (.iconst 0, 1) := by decide +kernel
theorem dL_law_980 : decode cL_law 980 = .ok (.istore 7, 2) := by decide +kernel
theorem dL_law_982 : decode cL_law 982 = .ok (.iconst 0, 1) := by decide +kernel
theorem dL_law_983 : decode cL_law 983 = .ok (.istore 19, 2) := by decide +kernel
theorem dL_law_985 : decode cL_law 985 = .ok (.iload 19, 2) := by decide +kernel
theorem dL_law_987 : decode cL_law 987 = .ok (.aload_n 3, 1) := by decide +kernel
theorem dL_law_988 : decode cL_law 988 = .ok (.iload 13, 2) := by decide +kernel
theorem dL_law_990 : decode cL_law 990 = .ok (.iaload, 1) := by decide +kernel
theorem dL_law_991 : decode cL_law 991 = .ok (.if_icmp .ge 56, 3) := by decide +kernel
theorem dL_law_994 : decode cL_law 994 = .ok (.iconst 0, 1) := by decide +kernel
theorem dL_law_995 : decode cL_law 995 = .ok (.istore 20, 2) := by decide +kernel
theorem dL_law_997 : decode cL_law 997 = .ok (.iload 20, 2) := by decide +kernel
theorem dL_law_999 : decode cL_law 999 = .ok (.iload 19, 2) := by decide +kernel
theorem dL_law_1001 : decode cL_law 1001 = .ok (.if_icmp .ge 40, 3) := by decide +kernel
theorem dL_law_1004 : decode cL_law 1004 = .ok (.iload 7, 2) := by decide +kernel
theorem dL_law_1006 : decode cL_law 1006 = .ok (.ifCond .eq 26, 3) := by decide +kernel
theorem dL_law_1009 : decode cL_law 1009 = .ok (.aload_n 1, 1) := by decide +kernel
theorem dL_law_1010 : decode cL_law 1010 = .ok (.iload 13, 2) := by decide +kernel
theorem dL_law_1012 : decode cL_law 1012 = .ok (.iload 19, 2) := by decide +kernel
theorem dL_law_1014 : decode cL_law 1014 = .ok (.invokevirtual 8, 3) := by decide +kernel
theorem dL_law_1017 : decode cL_law 1017 = .ok (.aload_n 1, 1) := by decide +kernel
theorem dL_law_1018 : decode cL_law 1018 = .ok (.iload 13, 2) := by decide +kernel
theorem dL_law_1020 : decode cL_law 1020 = .ok (.iload 20, 2) := by decide +kernel
theorem dL_law_1022 : decode cL_law 1022 = .ok (.invokevirtual 8, 3) := by decide +kernel
theorem dL_law_1025 : decode cL_law 1025 = .ok (.if_icmp .eq 7, 3) := by decide +kernel
theorem dL_law_1028 : decode cL_law 1028 = .ok (.iconst 1, 1) := by decide +kernel
theorem dL_law_1029 : decode cL_law 1029 = .ok (.goto 4, 3) := by decide +kernel
theorem dL_law_1032 : decode cL_law 1032 = .ok (.iconst 0, 1) := by decide +kernel
theorem dL_law_1033 : decode cL_law 1033 = .ok (.istore 7, 2) := by decide +kernel
theorem dL_law_1035 : decode cL_law 1035 = .ok (.iinc 20 1, 3) := by decide +kernel
theorem dL_law_1038 : decode cL_law 1038 = .ok (.goto (-41), 3) := by decide +kernel
theorem dL_law_1041 : decode cL_law 1041 = .ok (.iinc 19 1, 3) := by decide +kernel
theorem dL_law_1044 : decode cL_law 1044 = .ok (.goto (-59), 3) := by decide +kernel
theorem dL_law_1047 : decode cL_law 1047 = .ok (.goto 19, 3) := by decide +kernel
theorem dL_law_1050 : decode cL_law 1050 = .ok (.aload_n 1, 1) := by decide +kernel
theorem dL_law_1051 : decode cL_law 1051 = .ok (.iconst 1, 1) := by decide +kernel
theorem dL_law_1052 : decode cL_law 1052 = .ok (.iload 11, 2) := by decide +kernel
theorem dL_law_1054 : decode cL_law 1054 = .ok (.iconst 4, 1) := by decide +kernel
theorem dL_law_1055 : decode cL_law 1055 = .ok (.ishr, 1) := by decide +kernel
theorem dL_law_1056 : decode cL_law 1056 = .ok (.bipush 40, 2) := by decide +kernel
theorem dL_law_1058 : decode cL_law 1058 = .ok (.invokestatic 27, 3) := by decide +kernel
theorem dL_law_1061 : decode cL_law 1061 = .ok (.iadd, 1) := by decide +kernel
theorem dL_law_1062 : decode cL_law 1062 = .ok (.invokevirtual 102, 3) := by decide +kernel
theorem dL_law_1065 : decode cL_law 1065 = .ok (.pop, 1) := by decide +kernel
theorem dL_law_1066 : decode cL_law 1066 = .ok (.iconst 0, 1) := by decide +kernel
theorem dL_law_1067 : decode cL_law 1067 = .ok (.istore 17, 2) := by decide +kernel
theorem dL_law_1069 : decode cL_law 1069 = .ok (.iload 17, 2) := by decide +kernel
theorem dL_law_1071 : decode cL_law 1071 = .ok (.iconst 2, 1) := by decide +kernel
theorem dL_law_1072 : decode cL_law 1072 = .ok (.if_icmp .ge 190, 3) := by decide +kernel
theorem dL_law_1075 : decode cL_law 1075 = .ok (.iload 7, 2) := by decide +kernel
theorem dL_law_1077 : decode cL_law 1077 = .ok (.ifCond .eq 185, 3) := by decide +kernel
theorem dL_law_1080 : decode cL_law 1080 = .ok (.iload 11, 2) := by decide +kernel
theorem dL_law_1082 : decode cL_law 1082 = .ok (.i2l, 1) := by decide +kernel
theorem dL_law_1083 : decode cL_law 1083 = .ok (.bipush 32, 2) := by decide +kernel
theorem dL_law_1085 : decode cL_law 1085 = .ok (.lshl, 1) := by decide +kernel
theorem dL_law_1086 : decode cL_law 1086 = .ok (.aload_n 0, 1) := by decide +kernel
theorem dL_law_1087 : decode cL_law 1087 = .ok (.iload 10, 2) := by decide +kernel
theorem dL_law_1089 : decode cL_law 1089 = .ok (.iconst 1, 1) := by decide +kernel
theorem dL_law_1090 : decode cL_law 1090 = .ok (.iadd, 1) := by decide +kernel
theorem dL_law_1091 : decode cL_law 1091 = .ok (.invokestatic 24, 3) := by decide +kernel
theorem dL_law_1094 : decode cL_law 1094 = .ok (.i2l, 1) := by decide +kernel
theorem dL_law_1095 : decode cL_law 1095 = .ok (.ldc2_w 105, 3) := by decide +kernel
theorem dL_law_1098 : decode cL_law 1098 = .ok (.lmul, 1) := by decide +kernel
theorem dL_law_1099 : decode cL_law 1099 = .ok (.lxor, 1) := by decide +kernel
theorem dL_law_1100 : decode cL_law 1100 = .ok (.lstore 18, 2) := by decide +kernel
theorem dL_law_1102 : decode cL_law 1102 = .ok (.iload 11, 2) := by decide +kernel
theorem dL_law_1104 : decode cL_law 1104 = .ok (.bipush 8, 2) := by decide +kernel
theorem dL_law_1106 : decode cL_law 1106 = .ok (.ishr, 1) := by decide +kernel
theorem dL_law_1107 : decode cL_law 1107 = .ok (.aload 4, 2) := by decide +kernel
theorem dL_law_1109 : decode cL_law 1109 = .ok (.iload 17, 2) := by decide +kernel
theorem dL_law_1111 : decode cL_law 1111 = .ok (.iaload, 1) := by decide +kernel
theorem dL_law_1112 : decode cL_law 1112 = .ok (.invokestatic 27, 3) := by decide +kernel
theorem dL_law_1115 : decode cL_law 1115 = .ok (.istore 20, 2) := by decide +kernel
theorem dL_law_1117 : decode cL_law 1117 = .ok (.aload_n 1, 1) := by decide +kernel
theorem dL_law_1118 : decode cL_law 1118 = .ok (.iload 17, 2) := by decide +kernel
theorem dL_law_1120 : decode cL_law 1120 = .ok (.lload 18, 2) := by decide +kernel
theorem dL_law_1122 : decode cL_law 1122 = .ok (.iload 20, 2) := by decide +kernel
theorem dL_law_1124 : decode cL_law 1124 = .ok (.invokevirtual 107, 3) := by decide +kernel
theorem dL_law_1127 : decode cL_law 1127 = .ok (.aload_n 1, 1) := by decide +kernel
theorem dL_law_1128 : decode cL_law 1128 = .ok (.iload 17, 2) := by decide +kernel
theorem dL_law_1130 : decode cL_law 1130 = .ok (.lload 18, 2) := by decide +kernel
theorem dL_law_1132 : decode cL_law 1132 = .ok (.iload 20, 2) := by decide +kernel
theorem dL_law_1134 : decode cL_law 1134 = .ok (.invokevirtual 111, 3) := by decide +kernel
theorem dL_law_1137 : decode cL_law 1137 = .ok (.isub, 1) := by decide +kernel
theorem dL_law_1138 : decode cL_law 1138 = .ok (.istore 21, 2) := by decide +kernel
theorem dL_law_1140 : decode cL_law 1140 = .ok (.aload_n 1, 1) := by decide +kernel
theorem dL_law_1141 : decode cL_law 1141 = .ok (.iload 17, 2) := by decide +kernel
theorem dL_law_1143 : decode cL_law 1143 = .ok (.invokevirtual 39, 3) := by decide +kernel
theorem dL_law_1146 : decode cL_law 1146 = .ok (.ifCond .eq 31, 3) := by decide +kernel
theorem dL_law_1149 : decode cL_law 1149 = .ok (.aload_n 1, 1) := by decide +kernel
theorem dL_law_1150 : decode cL_law 1150 = .ok (.iload 17, 2) := by decide +kernel
theorem dL_law_1152 : decode cL_law 1152 = .ok (.iload 20, 2) := by decide +kernel
theorem dL_law_1154 : decode cL_law 1154 = .ok (.iconst 0, 1) := by decide +kernel
theorem dL_law_1155 : decode cL_law 1155 = .ok (.invokevirtual 114, 3) := by decide +kernel
theorem dL_law_1158 : decode cL_law 1158 = .ok (.iload 21, 2) := by decide +kernel
theorem dL_law_1160 : decode cL_law 1160 = .ok (.if_icmp .gt 21, 3) := by decide +kernel
theorem dL_law_1163 : decode cL_law 1163 = .ok (.iload 21, 2) := by decide +kernel
theorem dL_law_1165 : decode cL_law 1165 = .ok (.aload_n 1, 1) := by decide +kernel
theorem dL_law_1166 : decode cL_law 1166 = .ok (.iload 17, 2) := by decide +kernel
theorem dL_law_1168 : decode cL_law 1168 = .ok (.iload 20, 2) := by decide +kernel
theorem dL_law_1170 : decode cL_law 1170 = .ok (.iconst 1, 1) := by decide +kernel
theorem dL_law_1171 : decode cL_law 1171 = .ok (.invokevirtual 114, 3) := by decide +kernel
theorem dL_law_1174 : decode cL_law 1174 = .ok (.if_icmp .gt 7, 3) := by decide +kernel
theorem dL_law_1177 : decode cL_law 1177 = .ok (.iconst 1, 1) := by decide +kernel
theorem dL_law_1178 : decode cL_law 1178 = .ok (.goto 4, 3) := by decide +kernel
theorem dL_law_1181 : decode cL_law 1181 = .ok (.iconst 0, 1) := by decide +kernel
theorem dL_law_1182 : decode cL_law 1182 = .ok (.istore 7, 2) := by decide +kernel
theorem dL_law_1184 : decode cL_law 1184 = .ok (.iload 7, 2) := by decide +kernel
theorem dL_law_1186 : decode cL_law 1186 = .ok (.ifCond .eq 67, 3) := by decide +kernel
theorem dL_law_1189 : decode cL_law 1189 = .ok (.aload_n 3, 1) := by decide +kernel
theorem dL_law_1190 : decode cL_law 1190 = .ok (.iload 17, 2) := by decide +kernel
theorem dL_law_1192 : decode cL_law 1192 = .ok (.iaload, 1) := by decide +kernel
theorem dL_law_1193 : decode cL_law 1193 = .ok (.iconst 4, 1) := by decide +kernel
theorem dL_law_1194 : decode cL_law 1194 = .ok (.if_icmp .gt 22, 3) := by decide +kernel
theorem dL_law_1197 : decode cL_law 1197 = .ok (.aload_n 1, 1) := by decide +kernel
theorem dL_law_1198 : decode cL_law 1198 = .ok (.iload 17, 2) := by decide +kernel
theorem dL_law_1200 : decode cL_law 1200 = .ok (.iload 14, 2) := by decide +kernel
theorem dL_law_1202 : decode cL_law 1202 = .ok (.invokevirtual 90, 3) := by decide +kernel
theorem dL_law_1205 : decode cL_law 1205 = .ok (.aload_n 1, 1) := by decide +kernel
theorem dL_law_1206 : decode cL_law 1206 = .ok (.iload 17, 2) := by decide +kernel
theorem dL_law_1208 : decode cL_law 1208 = .ok (.iload 14, 2) := by decide +kernel
theorem dL_law_1210 : decode cL_law 1210 = .ok (.invokevirtual 118, 3) := by decide +kernel
theorem dL_law_1213 : decode cL_law 1213 = .ok (.if_icmp .ne 40, 3) := by decide +kernel
theorem dL_law_1216 : decode cL_law 1216 = .ok (.aload_n 1, 1) := by decide +kernel
theorem dL_law_1217 : decode cL_law 1217 = .ok (.iload 17, 2) := by decide +kernel
theorem dL_law_1219 : decode cL_law 1219 = .ok (.iconst 1, 1) := by decide +kernel
theorem dL_law_1220 : decode cL_law 1220 = .ok (.iload 11, 2) := by decide +kernel
theorem dL_law_1222 : decode cL_law 1222 = .ok (.bipush 9, 2) := by decide +kernel
theorem dL_law_1224 : decode cL_law 1224 = .ok (.invokestatic 27, 3) := by decide +kernel
theorem dL_law_1227 : decode cL_law 1227 = .ok (.iadd, 1) := by decide +kernel
theorem dL_law_1228 : decode cL_law 1228 = .ok (.invokevirtual 121, 3) := by decide +kernel
theorem dL_law_1231 : decode cL_law 1231 = .ok (.aload_n 1, 1) := by decide +kernel
theorem dL_law_1232 : decode cL_law 1232 = .ok (.iload 17, 2) := by decide +kernel
theorem dL_law_1234 : decode cL_law 1234 = .ok (.iconst 1, 1) := by decide +kernel
theorem dL_law_1235 : decode cL_law 1235 = .ok (.iload 11, 2) := by decide +kernel
theorem dL_law_1237 : decode cL_law 1237 = .ok (.bipush 9, 2) := by decide +kernel
theorem dL_law_1239 : decode cL_law 1239 = .ok (.invokestatic 27, 3) := by decide +kernel
theorem dL_law_1242 : decode cL_law 1242 = .ok (.iadd, 1) := by decide +kernel
theorem dL_law_1243 : decode cL_law 1243 = .ok (.invokevirtual 124, 3) := by decide +kernel
theorem dL_law_1246 : decode cL_law 1246 = .ok (.if_icmp .ne 7, 3) := by decide +kernel
theorem dL_law_1249 : decode cL_law 1249 = .ok (.iconst 1, 1) := by decide +kernel
theorem dL_law_1250 : decode cL_law 1250 = .ok (.goto 4, 3) := by decide +kernel
theorem dL_law_1253 : decode cL_law 1253 = .ok (.iconst 0, 1) := by decide +kernel
theorem dL_law_1254 : decode cL_law 1254 = .ok (.istore 7, 2) := by decide +kernel
theorem dL_law_1256 : decode cL_law 1256 = .ok (.iinc 17 1, 3) := by decide +kernel
theorem dL_law_1259 : decode cL_law 1259 = .ok (.goto (-190), 3) := by decide +kernel
theorem dL_law_1262 : decode cL_law 1262 = .ok (.lconst 0, 1) := by decide +kernel
theorem dL_law_1263 : decode cL_law 1263 = .ok (.lstore 17, 2) := by decide +kernel
theorem dL_law_1265 : decode cL_law 1265 = .ok (.iconst 0, 1) := by decide +kernel
theorem dL_law_1266 : decode cL_law 1266 = .ok (.istore 19, 2) := by decide +kernel
theorem dL_law_1268 : decode cL_law 1268 = .ok (.iload 19, 2) := by decide +kernel
theorem dL_law_1270 : decode cL_law 1270 = .ok (.sipush 128, 3) := by decide +kernel
theorem dL_law_1273 : decode cL_law 1273 = .ok (.if_icmp .ge 118, 3) := by decide +kernel
theorem dL_law_1276 : decode cL_law 1276 = .ok (.iload 7, 2) := by decide +kernel
theorem dL_law_1278 : decode cL_law 1278 = .ok (.ifCond .eq 113, 3) := by decide +kernel
theorem dL_law_1281 : decode cL_law 1281 = .ok (.lload 17, 2) := by decide +kernel
theorem dL_law_1283 : decode cL_law 1283 = .ok (.aload_n 1, 1) := by decide +kernel
theorem dL_law_1284 : decode cL_law 1284 = .ok (.iload 14, 2) := by decide +kernel
theorem dL_law_1286 : decode cL_law 1286 = .ok (.iload 19, 2) := by decide +kernel
theorem dL_law_1288 : decode cL_law 1288 = .ok (.bipush 16, 2) := by decide +kernel
theorem dL_law_1290 : decode cL_law 1290 = .ok (.idiv, 1) := by decide +kernel
theorem dL_law_1291 : decode cL_law 1291 = .ok (.iload 19, 2) := by decide +kernel
theorem dL_law_1293 : decode cL_law 1293 = .ok (.bipush 16, 2) := by decide +kernel
theorem dL_law_1295 : decode cL_law 1295 = .ok (.irem, 1) := by decide +kernel
theorem dL_law_1296 : decode cL_law 1296 = .ok (.iconst 2, 1) := by decide +kernel
theorem dL_law_1297 : decode cL_law 1297 = .ok (.invokevirtual 19, 3) := by decide +kernel
theorem dL_law_1300 : decode cL_law 1300 = .ok (.i2l, 1) := by decide +kernel
theorem dL_law_1301 : decode cL_law 1301 = .ok (.ladd, 1) := by decide +kernel
theorem dL_law_1302 : decode cL_law 1302 = .ok (.lstore 17, 2) := by decide +kernel
theorem dL_law_1304 : decode cL_law 1304 = .ok (.aload_n 1, 1) := by decide +kernel
theorem dL_law_1305 : decode cL_law 1305 = .ok (.iload 14, 2) := by decide +kernel
theorem dL_law_1307 : decode cL_law 1307 = .ok (.iload 19, 2) := by decide +kernel
theorem dL_law_1309 : decode cL_law 1309 = .ok (.bipush 16, 2) := by decide +kernel
theorem dL_law_1311 : decode cL_law 1311 = .ok (.idiv, 1) := by decide +kernel
theorem dL_law_1312 : decode cL_law 1312 = .ok (.iload 19, 2) := by decide +kernel
theorem dL_law_1314 : decode cL_law 1314 = .ok (.bipush 16, 2) := by decide +kernel
theorem dL_law_1316 : decode cL_law 1316 = .ok (.irem, 1) := by decide +kernel
theorem dL_law_1317 : decode cL_law 1317 = .ok (.iconst 4, 1) := by decide +kernel
theorem dL_law_1318 : decode cL_law 1318 = .ok (.invokevirtual 19, 3) := by decide +kernel
theorem dL_law_1321 : decode cL_law 1321 = .ok (.aload_n 1, 1) := by decide +kernel
theorem dL_law_1322 : decode cL_law 1322 = .ok (.iload 14, 2) := by decide +kernel
theorem dL_law_1324 : decode cL_law 1324 = .ok (.iload 19, 2) := by decide +kernel
theorem dL_law_1326 : decode cL_law 1326 = .ok (.bipush 16, 2) := by decide +kernel
theorem dL_law_1328 : decode cL_law 1328 = .ok (.idiv, 1) := by decide +kernel
theorem dL_law_1329 : decode cL_law 1329 = .ok (.iload 19, 2) := by decide +kernel
theorem dL_law_1331 : decode cL_law 1331 = .ok (.bipush 16, 2) := by decide +kernel
theorem dL_law_1333 : decode cL_law 1333 = .ok (.irem, 1) := by decide +kernel
theorem dL_law_1334 : decode cL_law 1334 = .ok (.iconst 3, 1) := by decide +kernel
theorem dL_law_1335 : decode cL_law 1335 = .ok (.invokevirtual 19, 3) := by decide +kernel
theorem dL_law_1338 : decode cL_law 1338 = .ok (.if_icmp .gt 44, 3) := by decide +kernel
theorem dL_law_1341 : decode cL_law 1341 = .ok (.aload_n 1, 1) := by decide +kernel
theorem dL_law_1342 : decode cL_law 1342 = .ok (.iload 14, 2) := by decide +kernel
theorem dL_law_1344 : decode cL_law 1344 = .ok (.iload 19, 2) := by decide +kernel
theorem dL_law_1346 : decode cL_law 1346 = .ok (.bipush 16, 2) := by decide +kernel
theorem dL_law_1348 : decode cL_law 1348 = .ok (.idiv, 1) := by decide +kernel
theorem dL_law_1349 : decode cL_law 1349 = .ok (.iload 19, 2) := by decide +kernel
theorem dL_law_1351 : decode cL_law 1351 = .ok (.bipush 16, 2) := by decide +kernel
theorem dL_law_1353 : decode cL_law 1353 = .ok (.irem, 1) := by decide +kernel
theorem dL_law_1354 : decode cL_law 1354 = .ok (.iconst 1, 1) := by decide +kernel
theorem dL_law_1355 : decode cL_law 1355 = .ok (.invokevirtual 19, 3) := by decide +kernel
theorem dL_law_1358 : decode cL_law 1358 = .ok (.aload_n 1, 1) := by decide +kernel
theorem dL_law_1359 : decode cL_law 1359 = .ok (.iload 14, 2) := by decide +kernel
theorem dL_law_1361 : decode cL_law 1361 = .ok (.iload 19, 2) := by decide +kernel
theorem dL_law_1363 : decode cL_law 1363 = .ok (.bipush 16, 2) := by decide +kernel
theorem dL_law_1365 : decode cL_law 1365 = .ok (.idiv, 1) := by decide +kernel
theorem dL_law_1366 : decode cL_law 1366 = .ok (.iload 19, 2) := by decide +kernel
theorem dL_law_1368 : decode cL_law 1368 = .ok (.bipush 16, 2) := by decide +kernel
theorem dL_law_1370 : decode cL_law 1370 = .ok (.irem, 1) := by decide +kernel
theorem dL_law_1371 : decode cL_law 1371 = .ok (.iconst 0, 1) := by decide +kernel
theorem dL_law_1372 : decode cL_law 1372 = .ok (.invokevirtual 19, 3) := by decide +kernel
theorem dL_law_1375 : decode cL_law 1375 = .ok (.if_icmp .gt 7, 3) := by decide +kernel
theorem dL_law_1378 : decode cL_law 1378 = .ok (.iconst 1, 1) := by decide +kernel
theorem dL_law_1379 : decode cL_law 1379 = .ok (.goto 4, 3) := by decide +kernel
theorem dL_law_1382 : decode cL_law 1382 = .ok (.iconst 0, 1) := by decide +kernel
theorem dL_law_1383 : decode cL_law 1383 = .ok (.istore 7, 2) := by decide +kernel
theorem dL_law_1385 : decode cL_law 1385 = .ok (.iinc 19 1, 3) := by decide +kernel
theorem dL_law_1388 : decode cL_law 1388 = .ok (.goto (-120), 3) := by decide +kernel
theorem dL_law_1391 : decode cL_law 1391 = .ok (.iload 7, 2) := by decide +kernel
theorem dL_law_1393 : decode cL_law 1393 = .ok (.ifCond .eq 19, 3) := by decide +kernel
theorem dL_law_1396 : decode cL_law 1396 = .ok (.aload_n 1, 1) := by decide +kernel
theorem dL_law_1397 : decode cL_law 1397 = .ok (.iload 14, 2) := by decide +kernel
theorem dL_law_1399 : decode cL_law 1399 = .ok (.invokevirtual 127, 3) := by decide +kernel
theorem dL_law_1402 : decode cL_law 1402 = .ok (.lload 17, 2) := by decide +kernel
theorem dL_law_1404 : decode cL_law 1404 = .ok (.lcmp, 1) := by decide +kernel
theorem dL_law_1405 : decode cL_law 1405 = .ok (.ifCond .ne 7, 3) := by decide +kernel
theorem dL_law_1408 : decode cL_law 1408 = .ok (.iconst 1, 1) := by decide +kernel
theorem dL_law_1409 : decode cL_law 1409 = .ok (.goto 4, 3) := by decide +kernel
theorem dL_law_1412 : decode cL_law 1412 = .ok (.iconst 0, 1) := by decide +kernel
theorem dL_law_1413 : decode cL_law 1413 = .ok (.istore 7, 2) := by decide +kernel
theorem dL_law_1415 : decode cL_law 1415 = .ok (.iinc 10 1, 3) := by decide +kernel
theorem dL_law_1418 : decode cL_law 1418 = .ok (.goto (-1193), 3) := by decide +kernel
theorem dL_law_1421 : decode cL_law 1421 = .ok (.iload 7, 2) := by decide +kernel
theorem dL_law_1423 : decode cL_law 1423 = .ok (.ireturn, 1) := by decide +kernel
