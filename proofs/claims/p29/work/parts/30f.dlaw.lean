/-! decode rows of the law, as printed -/
theorem dL_law_737 : decode cL_law 737 = .ok (.iconst 1, 1) := by decide +kernel
theorem dL_law_738 : decode cL_law 738 = .ok (.goto 4, 3) := by decide +kernel
theorem dL_law_741 : decode cL_law 741 = .ok (.iconst 0, 1) := by decide +kernel
theorem dL_law_742 : decode cL_law 742 = .ok (.istore 13, 2) := by decide +kernel
theorem dL_law_744 : decode cL_law 744 = .ok (.iload 24, 2) := by decide +kernel
theorem dL_law_746 : decode cL_law 746 = .ok (.ifCond .eq 52, 3) := by decide +kernel
theorem dL_law_749 : decode cL_law 749 = .ok (.aload 9, 2) := by decide +kernel
theorem dL_law_751 : decode cL_law 751 = .ok (.iconst 2, 1) := by decide +kernel
theorem dL_law_752 : decode cL_law 752 = .ok (.aload_n 2, 1) := by decide +kernel
theorem dL_law_753 : decode cL_law 753 = .ok (.iconst 1, 1) := by decide +kernel
theorem dL_law_754 : decode cL_law 754 = .ok (.iaload, 1) := by decide +kernel
theorem dL_law_755 : decode cL_law 755 = .ok (.imul, 1) := by decide +kernel
theorem dL_law_756 : decode cL_law 756 = .ok (.iload 22, 2) := by decide +kernel
theorem dL_law_758 : decode cL_law 758 = .ok (.iastore, 1) := by decide +kernel
theorem dL_law_759 : decode cL_law 759 = .ok (.aload 9, 2) := by decide +kernel
theorem dL_law_761 : decode cL_law 761 = .ok (.iconst 2, 1) := by decide +kernel
theorem dL_law_762 : decode cL_law 762 = .ok (.aload_n 2, 1) := by decide +kernel
theorem dL_law_763 : decode cL_law 763 = .ok (.iconst 1, 1) := by decide +kernel
theorem dL_law_764 : decode cL_law 764 = .ok (.iaload, 1) := by decide +kernel
theorem dL_law_765 : decode cL_law 765 = .ok (.imul, 1) := by decide +kernel
theorem dL_law_766 : decode cL_law 766 = .ok (.iconst 1, 1) := by decide +kernel
theorem dL_law_767 : decode cL_law 767 = .ok (.iadd, 1) := by decide +kernel
theorem dL_law_768 : decode cL_law 768 = .ok (.iload 23, 2) := by decide +kernel
theorem dL_law_770 : decode cL_law 770 = .ok (.iastore, 1) := by decide +kernel
theorem dL_law_771 : decode cL_law 771 = .ok (.aload_n 2, 1) := by decide +kernel
theorem dL_law_772 : decode cL_law 772 = .ok (.aload_n 3, 1) := by decide +kernel
theorem dL_law_773 : decode cL_law 773 = .ok (.aload 4, 2) := by decide +kernel
theorem dL_law_775 : decode cL_law 775 = .ok (.aload 5, 2) := by decide +kernel
theorem dL_law_777 : decode cL_law 777 = .ok (.aload 6, 2) := by decide +kernel
theorem dL_law_779 : decode cL_law 779 = .ok (.aload 7, 2) := by decide +kernel
theorem dL_law_781 : decode cL_law 781 = .ok (.iload 18, 2) := by decide +kernel
theorem dL_law_783 : decode cL_law 783 = .ok (.iconst 3, 1) := by decide +kernel
theorem dL_law_784 : decode cL_law 784 = .ok (.aload_n 2, 1) := by decide +kernel
theorem dL_law_785 : decode cL_law 785 = .ok (.iconst 1, 1) := by decide +kernel
theorem dL_law_786 : decode cL_law 786 = .ok (.iaload, 1) := by decide +kernel
theorem dL_law_787 : decode cL_law 787 = .ok (.iconst 0, 1) := by decide +kernel
theorem dL_law_788 : decode cL_law 788 = .ok (.invokestatic 152, 3) := by decide +kernel
theorem dL_law_791 : decode cL_law 791 = .ok (.aload_n 2, 1) := by decide +kernel
theorem dL_law_792 : decode cL_law 792 = .ok (.iconst 1, 1) := by decide +kernel
theorem dL_law_793 : decode cL_law 793 = .ok (.dup2, 1) := by decide +kernel
theorem dL_law_794 : decode cL_law 794 = .ok (.iaload, 1) := by decide +kernel
theorem dL_law_795 : decode cL_law 795 = .ok (.iconst 1, 1) := by decide +kernel
theorem dL_law_796 : decode cL_law 796 = .ok (.iadd, 1) := by decide +kernel
theorem dL_law_797 : decode cL_law 797 = .ok (.iastore, 1) := by decide +kernel
theorem dL_law_798 : decode cL_law 798 = .ok (.goto 632, 3) := by decide +kernel
theorem dL_law_801 : decode cL_law 801 = .ok (.iload 16, 2) := by decide +kernel
theorem dL_law_803 : decode cL_law 803 = .ok (.bipush 16, 2) := by decide +kernel
theorem dL_law_805 : decode cL_law 805 = .ok (.if_icmp .ge 182, 3) := by decide +kernel
theorem dL_law_808 : decode cL_law 808 = .ok (.iload 21, 2) := by decide +kernel
theorem dL_law_810 : decode cL_law 810 = .ok (.ifCond .eq 177, 3) := by decide +kernel
theorem dL_law_813 : decode cL_law 813 = .ok (.aload_n 2, 1) := by decide +kernel
theorem dL_law_814 : decode cL_law 814 = .ok (.iconst 1, 1) := by decide +kernel
theorem dL_law_815 : decode cL_law 815 = .ok (.iaload, 1) := by decide +kernel
theorem dL_law_816 : decode cL_law 816 = .ok (.ifCond .ne 8, 3) := by decide +kernel
theorem dL_law_819 : decode cL_law 819 = .ok (.bipush (-11), 2) := by decide +kernel
theorem dL_law_821 : decode cL_law 821 = .ok (.goto 19, 3) := by decide +kernel
theorem dL_law_824 : decode cL_law 824 = .ok (.aload 12, 2) := by decide +kernel
theorem dL_law_826 : decode cL_law 826 = .ok (.iload 20, 2) := by decide +kernel
theorem dL_law_828 : decode cL_law 828 = .ok (.invokestatic 29, 3) := by decide +kernel
theorem dL_law_831 : decode cL_law 831 = .ok (.ifCond .eq 7, 3) := by decide +kernel
theorem dL_law_834 : decode cL_law 834 = .ok (.iconst 0, 1) := by decide +kernel
theorem dL_law_835 : decode cL_law 835 = .ok (.goto 5, 3) := by decide +kernel
theorem dL_law_838 : decode cL_law 838 = .ok (.bipush (-13), 2) := by decide +kernel
theorem dL_law_840 : decode cL_law 840 = .ok (.istore 22, 2) := by decide +kernel
theorem dL_law_842 : decode cL_law 842 = .ok (.iconst 0, 1) := by decide +kernel
theorem dL_law_843 : decode cL_law 843 = .ok (.istore 23, 2) := by decide +kernel
theorem dL_law_845 : decode cL_law 845 = .ok (.iload 23, 2) := by decide +kernel
theorem dL_law_847 : decode cL_law 847 = .ok (.bipush 8, 2) := by decide +kernel
theorem dL_law_849 : decode cL_law 849 = .ok (.if_icmp .ge 113, 3) := by decide +kernel
theorem dL_law_852 : decode cL_law 852 = .ok (.iload 22, 2) := by decide +kernel
theorem dL_law_854 : decode cL_law 854 = .ok (.ifCond .lt 108, 3) := by decide +kernel
theorem dL_law_857 : decode cL_law 857 = .ok (.aload_n 2, 1) := by decide +kernel
theorem dL_law_858 : decode cL_law 858 = .ok (.aload 6, 2) := by decide +kernel
theorem dL_law_860 : decode cL_law 860 = .ok (.aload 8, 2) := by decide +kernel
theorem dL_law_862 : decode cL_law 862 = .ok (.aload 9, 2) := by decide +kernel
theorem dL_law_864 : decode cL_law 864 = .ok (.aload 10, 2) := by decide +kernel
theorem dL_law_866 : decode cL_law 866 = .ok (.aload 11, 2) := by decide +kernel
theorem dL_law_868 : decode cL_law 868 = .ok (.aload 12, 2) := by decide +kernel
theorem dL_law_870 : decode cL_law 870 = .ok (.iload 20, 2) := by decide +kernel
theorem dL_law_872 : decode cL_law 872 = .ok (.iload 23, 2) := by decide +kernel
theorem dL_law_874 : decode cL_law 874 = .ok (.invokestatic 115, 3) := by decide +kernel
theorem dL_law_877 : decode cL_law 877 = .ok (.istore 24, 2) := by decide +kernel
theorem dL_law_879 : decode cL_law 879 = .ok (.iload 23, 2) := by decide +kernel
theorem dL_law_881 : decode cL_law 881 = .ok (.istore 25, 2) := by decide +kernel
theorem dL_law_883 : decode cL_law 883 = .ok (.iload 25, 2) := by decide +kernel
theorem dL_law_885 : decode cL_law 885 = .ok (.bipush 40, 2) := by decide +kernel
theorem dL_law_887 : decode cL_law 887 = .ok (.if_icmp .ge 69, 3) := by decide +kernel
theorem dL_law_890 : decode cL_law 890 = .ok (.iload 24, 2) := by decide +kernel
theorem dL_law_892 : decode cL_law 892 = .ok (.ifCond .le 64, 3) := by decide +kernel
theorem dL_law_895 : decode cL_law 895 = .ok (.aload 10, 2) := by decide +kernel
theorem dL_law_897 : decode cL_law 897 = .ok (.iload 25, 2) := by decide +kernel
theorem dL_law_899 : decode cL_law 899 = .ok (.iaload, 1) := by decide +kernel
theorem dL_law_900 : decode cL_law 900 = .ok (.ifCond .le 50, 3) := by decide +kernel
theorem dL_law_903 : decode cL_law 903 = .ok (.aload_n 2, 1) := by decide +kernel
theorem dL_law_904 : decode cL_law 904 = .ok (.aload 6, 2) := by decide +kernel
theorem dL_law_906 : decode cL_law 906 = .ok (.aload 9, 2) := by decide +kernel
theorem dL_law_908 : decode cL_law 908 = .ok (.aload 10, 2) := by decide +kernel
theorem dL_law_910 : decode cL_law 910 = .ok (.aload 11, 2) := by decide +kernel
theorem dL_law_912 : decode cL_law 912 = .ok (.aload 12, 2) := by decide +kernel
theorem dL_law_914 : decode cL_law 914 = .ok (.iload 25, 2) := by decide +kernel
theorem dL_law_916 : decode cL_law 916 = .ok (.invokestatic 37, 3) := by decide +kernel
theorem dL_law_919 : decode cL_law 919 = .ok (.ifCond .ge 31, 3) := by decide +kernel
theorem dL_law_922 : decode cL_law 922 = .ok (.aload_n 2, 1) := by decide +kernel
theorem dL_law_923 : decode cL_law 923 = .ok (.aload_n 3, 1) := by decide +kernel
theorem dL_law_924 : decode cL_law 924 = .ok (.aload 4, 2) := by decide +kernel
theorem dL_law_926 : decode cL_law 926 = .ok (.aload 5, 2) := by decide +kernel
theorem dL_law_928 : decode cL_law 928 = .ok (.aload 6, 2) := by decide +kernel
theorem dL_law_930 : decode cL_law 930 = .ok (.aload 7, 2) := by decide +kernel
theorem dL_law_932 : decode cL_law 932 = .ok (.iload 18, 2) := by decide +kernel
theorem dL_law_934 : decode cL_law 934 = .ok (.iconst 4, 1) := by decide +kernel
theorem dL_law_935 : decode cL_law 935 = .ok (.iload 25, 2) := by decide +kernel
theorem dL_law_937 : decode cL_law 937 = .ok (.iload 20, 2) := by decide +kernel
theorem dL_law_939 : decode cL_law 939 = .ok (.iconst 1, 1) := by decide +kernel
theorem dL_law_940 : decode cL_law 940 = .ok (.iadd, 1) := by decide +kernel
theorem dL_law_941 : decode cL_law 941 = .ok (.invokestatic 152, 3) := by decide +kernel
theorem dL_law_944 : decode cL_law 944 = .ok (.iinc 24 (-1), 3) := by decide +kernel
theorem dL_law_947 : decode cL_law 947 = .ok (.iinc 22 1, 3) := by decide +kernel
theorem dL_law_950 : decode cL_law 950 = .ok (.iinc 25 8, 3) := by decide +kernel
theorem dL_law_953 : decode cL_law 953 = .ok (.goto (-70), 3) := by decide +kernel
theorem dL_law_956 : decode cL_law 956 = .ok (.iinc 23 1, 3) := by decide +kernel
theorem dL_law_959 : decode cL_law 959 = .ok (.goto (-114), 3) := by decide +kernel
theorem dL_law_962 : decode cL_law 962 = .ok (.aload_n 1, 1) := by decide +kernel
theorem dL_law_963 : decode cL_law 963 = .ok (.iconst 4, 1) := by decide +kernel
theorem dL_law_964 : decode cL_law 964 = .ok (.iload 18, 2) := by decide +kernel
theorem dL_law_966 : decode cL_law 966 = .ok (.iload 20, 2) := by decide +kernel
theorem dL_law_968 : decode cL_law 968 = .ok (.iconst 0, 1) := by decide +kernel
theorem dL_law_969 : decode cL_law 969 = .ok (.invokestatic 148, 3) := by decide +kernel
theorem dL_law_972 : decode cL_law 972 = .ok (.iload 22, 2) := by decide +kernel
theorem dL_law_974 : decode cL_law 974 = .ok (.if_icmp .ne 7, 3) := by decide +kernel
theorem dL_law_977 : decode cL_law 977 = .ok (.iconst 1, 1) := by decide +kernel
theorem dL_law_978 : decode cL_law 978 = .ok (.goto 4, 3) := by decide +kernel
theorem dL_law_981 : decode cL_law 981 = .ok (.iconst 0, 1) := by decide +kernel
theorem dL_law_982 : decode cL_law 982 = .ok (.istore 13, 2) := by decide +kernel
theorem dL_law_984 : decode cL_law 984 = .ok (.goto 446, 3) := by decide +kernel
theorem dL_law_987 : decode cL_law 987 = .ok (.iload 16, 2) := by decide +kernel
theorem dL_law_989 : decode cL_law 989 = .ok (.bipush 19, 2) := by decide +kernel
theorem dL_law_991 : decode cL_law 991 = .ok (.if_icmp .ge 249, 3) := by decide +kernel
theorem dL_law_994 : decode cL_law 994 = .ok (.iload 21, 2) := by decide +kernel
theorem dL_law_996 : decode cL_law 996 = .ok (.ifCond .eq 244, 3) := by decide +kernel
theorem dL_law_999 : decode cL_law 999 = .ok (.iload 16, 2) := by decide +kernel
theorem dL_law_1001 : decode cL_law 1001 = .ok (.bipush 16, 2) := by decide +kernel
theorem dL_law_1003 : decode cL_law 1003 = .ok (.if_icmp .ne 7, 3) := by decide +kernel
theorem dL_law_1006 : decode cL_law 1006 = .ok (.iconst 1, 1) := by decide +kernel
theorem dL_law_1007 : decode cL_law 1007 = .ok (.goto 4, 3) := by decide +kernel
theorem dL_law_1010 : decode cL_law 1010 = .ok (.iconst 0, 1) := by decide +kernel
theorem dL_law_1011 : decode cL_law 1011 = .ok (.istore 22, 2) := by decide +kernel
theorem dL_law_1013 : decode cL_law 1013 = .ok (.aload_n 2, 1) := by decide +kernel
theorem dL_law_1014 : decode cL_law 1014 = .ok (.iconst 1, 1) := by decide +kernel
theorem dL_law_1015 : decode cL_law 1015 = .ok (.iaload, 1) := by decide +kernel
theorem dL_law_1016 : decode cL_law 1016 = .ok (.ifCond .ne 8, 3) := by decide +kernel
theorem dL_law_1019 : decode cL_law 1019 = .ok (.bipush (-11), 2) := by decide +kernel
theorem dL_law_1021 : decode cL_law 1021 = .ok (.goto 19, 3) := by decide +kernel
theorem dL_law_1024 : decode cL_law 1024 = .ok (.aload 12, 2) := by decide +kernel
theorem dL_law_1026 : decode cL_law 1026 = .ok (.iload 20, 2) := by decide +kernel
theorem dL_law_1028 : decode cL_law 1028 = .ok (.invokestatic 29, 3) := by decide +kernel
theorem dL_law_1031 : decode cL_law 1031 = .ok (.ifCond .eq 7, 3) := by decide +kernel
theorem dL_law_1034 : decode cL_law 1034 = .ok (.iconst 0, 1) := by decide +kernel
theorem dL_law_1035 : decode cL_law 1035 = .ok (.goto 5, 3) := by decide +kernel
theorem dL_law_1038 : decode cL_law 1038 = .ok (.bipush (-13), 2) := by decide +kernel
theorem dL_law_1040 : decode cL_law 1040 = .ok (.istore 23, 2) := by decide +kernel
theorem dL_law_1042 : decode cL_law 1042 = .ok (.iconst 0, 1) := by decide +kernel
theorem dL_law_1043 : decode cL_law 1043 = .ok (.istore 24, 2) := by decide +kernel
theorem dL_law_1045 : decode cL_law 1045 = .ok (.iload 24, 2) := by decide +kernel
theorem dL_law_1047 : decode cL_law 1047 = .ok (.bipush 8, 2) := by decide +kernel
theorem dL_law_1049 : decode cL_law 1049 = .ok (.if_icmp .ge 50, 3) := by decide +kernel
theorem dL_law_1052 : decode cL_law 1052 = .ok (.iload 23, 2) := by decide +kernel
theorem dL_law_1054 : decode cL_law 1054 = .ok (.ifCond .ne 45, 3) := by decide +kernel
theorem dL_law_1057 : decode cL_law 1057 = .ok (.iload 22, 2) := by decide +kernel
theorem dL_law_1059 : decode cL_law 1059 = .ok (.ifCond .ne 40, 3) := by decide +kernel
theorem dL_law_1062 : decode cL_law 1062 = .ok (.aload_n 2, 1) := by decide +kernel
theorem dL_law_1063 : decode cL_law 1063 = .ok (.aload 6, 2) := by decide +kernel
theorem dL_law_1065 : decode cL_law 1065 = .ok (.aload 8, 2) := by decide +kernel
theorem dL_law_1067 : decode cL_law 1067 = .ok (.aload 9, 2) := by decide +kernel
theorem dL_law_1069 : decode cL_law 1069 = .ok (.aload 10, 2) := by decide +kernel
theorem dL_law_1071 : decode cL_law 1071 = .ok (.aload 11, 2) := by decide +kernel
theorem dL_law_1073 : decode cL_law 1073 = .ok (.aload 12, 2) := by decide +kernel
theorem dL_law_1075 : decode cL_law 1075 = .ok (.iload 20, 2) := by decide +kernel
theorem dL_law_1077 : decode cL_law 1077 = .ok (.iload 24, 2) := by decide +kernel
theorem dL_law_1079 : decode cL_law 1079 = .ok (.invokestatic 115, 3) := by decide +kernel
theorem dL_law_1082 : decode cL_law 1082 = .ok (.ifCond .le 8, 3) := by decide +kernel
theorem dL_law_1085 : decode cL_law 1085 = .ok (.bipush (-13), 2) := by decide +kernel
theorem dL_law_1087 : decode cL_law 1087 = .ok (.goto 4, 3) := by decide +kernel
theorem dL_law_1090 : decode cL_law 1090 = .ok (.iconst 0, 1) := by decide +kernel
theorem dL_law_1091 : decode cL_law 1091 = .ok (.istore 23, 2) := by decide +kernel
theorem dL_law_1093 : decode cL_law 1093 = .ok (.iinc 24 1, 3) := by decide +kernel
theorem dL_law_1096 : decode cL_law 1096 = .ok (.goto (-51), 3) := by decide +kernel
theorem dL_law_1099 : decode cL_law 1099 = .ok (.iconst 0, 1) := by decide +kernel
theorem dL_law_1100 : decode cL_law 1100 = .ok (.istore 24, 2) := by decide +kernel
theorem dL_law_1102 : decode cL_law 1102 = .ok (.iload 24, 2) := by decide +kernel
theorem dL_law_1104 : decode cL_law 1104 = .ok (.bipush 40, 2) := by decide +kernel
theorem dL_law_1106 : decode cL_law 1106 = .ok (.if_icmp .ge 65, 3) := by decide +kernel
theorem dL_law_1109 : decode cL_law 1109 = .ok (.iload 23, 2) := by decide +kernel
theorem dL_law_1111 : decode cL_law 1111 = .ok (.ifCond .lt 60, 3) := by decide +kernel
theorem dL_law_1114 : decode cL_law 1114 = .ok (.aload_n 2, 1) := by decide +kernel
theorem dL_law_1115 : decode cL_law 1115 = .ok (.aload 6, 2) := by decide +kernel
theorem dL_law_1117 : decode cL_law 1117 = .ok (.aload 9, 2) := by decide +kernel
theorem dL_law_1119 : decode cL_law 1119 = .ok (.aload 10, 2) := by decide +kernel
theorem dL_law_1121 : decode cL_law 1121 = .ok (.aload 11, 2) := by decide +kernel
theorem dL_law_1123 : decode cL_law 1123 = .ok (.aload 12, 2) := by decide +kernel
theorem dL_law_1125 : decode cL_law 1125 = .ok (.iload 24, 2) := by decide +kernel
theorem dL_law_1127 : decode cL_law 1127 = .ok (.invokestatic 37, 3) := by decide +kernel
theorem dL_law_1130 : decode cL_law 1130 = .ok (.iload 20, 2) := by decide +kernel
theorem dL_law_1132 : decode cL_law 1132 = .ok (.if_icmp .ne 33, 3) := by decide +kernel
theorem dL_law_1135 : decode cL_law 1135 = .ok (.iinc 23 1, 3) := by decide +kernel
theorem dL_law_1138 : decode cL_law 1138 = .ok (.iload 22, 2) := by decide +kernel
