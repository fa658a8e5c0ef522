theorem dL_thrown_727 : decode cL_thrown 727 = .ok (.istore 7, 2) := by decide +kernel
theorem dL_thrown_729 : decode cL_thrown 729 = .ok (.iload 5, 2) := by decide +kernel
theorem dL_thrown_731 : decode cL_thrown 731 = .ok (.ifCond .eq 34, 3) := by decide +kernel
theorem dL_thrown_734 : decode cL_thrown 734 = .ok (.aload_n 0, 1) := by decide +kernel
theorem dL_thrown_735 : decode cL_thrown 735 = .ok (.iload 7, 2) := by decide +kernel
theorem dL_thrown_737 : decode cL_thrown 737 = .ok (.iload 4, 2) := by decide +kernel
theorem dL_thrown_739 : decode cL_thrown 739 = .ok (.invokestatic 192, 3) := by decide +kernel
theorem dL_thrown_742 : decode cL_thrown 742 = .ok (.sipush (-1002), 3) := by decide +kernel
theorem dL_thrown_745 : decode cL_thrown 745 = .ok (.if_icmp .ne 20, 3) := by decide +kernel
theorem dL_thrown_748 : decode cL_thrown 748 = .ok (.aload_n 0, 1) := by decide +kernel
theorem dL_thrown_749 : decode cL_thrown 749 = .ok (.iload 7, 2) := by decide +kernel
theorem dL_thrown_751 : decode cL_thrown 751 = .ok (.iconst (-1), 1) := by decide +kernel
theorem dL_thrown_752 : decode cL_thrown 752 = .ok (.invokestatic 282, 3) := by decide +kernel
theorem dL_thrown_755 : decode cL_thrown 755 = .ok (.sipush (-1002), 3) := by decide +kernel
theorem dL_thrown_758 : decode cL_thrown 758 = .ok (.if_icmp .ne 7, 3) := by decide +kernel
theorem dL_thrown_761 : decode cL_thrown 761 = .ok (.iconst 1, 1) := by decide +kernel
theorem dL_thrown_762 : decode cL_thrown 762 = .ok (.goto 4, 3) := by decide +kernel
theorem dL_thrown_765 : decode cL_thrown 765 = .ok (.iconst 0, 1) := by decide +kernel
theorem dL_thrown_766 : decode cL_thrown 766 = .ok (.istore 5, 2) := by decide +kernel
theorem dL_thrown_768 : decode cL_thrown 768 = .ok (.aload_n 0, 1) := by decide +kernel
theorem dL_thrown_769 : decode cL_thrown 769 = .ok (.iload 7, 2) := by decide +kernel
theorem dL_thrown_771 : decode cL_thrown 771 = .ok (.invokestatic 284, 3) := by decide +kernel
theorem dL_thrown_774 : decode cL_thrown 774 = .ok (.iconst 1, 1) := by decide +kernel
theorem dL_thrown_775 : decode cL_thrown 775 = .ok (.if_icmp .ne 98, 3) := by decide +kernel
theorem dL_thrown_778 : decode cL_thrown 778 = .ok (.iload 5, 2) := by decide +kernel
theorem dL_thrown_780 : decode cL_thrown 780 = .ok (.ifCond .eq 42, 3) := by decide +kernel
theorem dL_thrown_783 : decode cL_thrown 783 = .ok (.aload_n 0, 1) := by decide +kernel
theorem dL_thrown_784 : decode cL_thrown 784 = .ok (.iload 7, 2) := by decide +kernel
theorem dL_thrown_786 : decode cL_thrown 786 = .ok (.invokestatic 248, 3) := by decide +kernel
theorem dL_thrown_789 : decode cL_thrown 789 = .ok (.sipush (-1002), 3) := by decide +kernel
theorem dL_thrown_792 : decode cL_thrown 792 = .ok (.if_icmp .ne 30, 3) := by decide +kernel
theorem dL_thrown_795 : decode cL_thrown 795 = .ok (.aload_n 0, 1) := by decide +kernel
theorem dL_thrown_796 : decode cL_thrown 796 = .ok (.iload 7, 2) := by decide +kernel
theorem dL_thrown_798 : decode cL_thrown 798 = .ok (.iconst 0, 1) := by decide +kernel
theorem dL_thrown_799 : decode cL_thrown 799 = .ok (.invokestatic 192, 3) := by decide +kernel
theorem dL_thrown_802 : decode cL_thrown 802 = .ok (.sipush (-1003), 3) := by decide +kernel
theorem dL_thrown_805 : decode cL_thrown 805 = .ok (.if_icmp .ne 17, 3) := by decide +kernel
theorem dL_thrown_808 : decode cL_thrown 808 = .ok (.aload_n 0, 1) := by decide +kernel
theorem dL_thrown_809 : decode cL_thrown 809 = .ok (.iload 7, 2) := by decide +kernel
theorem dL_thrown_811 : decode cL_thrown 811 = .ok (.iconst 0, 1) := by decide +kernel
theorem dL_thrown_812 : decode cL_thrown 812 = .ok (.invokestatic 282, 3) := by decide +kernel
theorem dL_thrown_815 : decode cL_thrown 815 = .ok (.ifCond .ne 7, 3) := by decide +kernel
theorem dL_thrown_818 : decode cL_thrown 818 = .ok (.iconst 1, 1) := by decide +kernel
theorem dL_thrown_819 : decode cL_thrown 819 = .ok (.goto 4, 3) := by decide +kernel
theorem dL_thrown_822 : decode cL_thrown 822 = .ok (.iconst 0, 1) := by decide +kernel
theorem dL_thrown_823 : decode cL_thrown 823 = .ok (.istore 5, 2) := by decide +kernel
theorem dL_thrown_825 : decode cL_thrown 825 = .ok (.aload_n 0, 1) := by decide +kernel
theorem dL_thrown_826 : decode cL_thrown 826 = .ok (.iload 7, 2) := by decide +kernel
theorem dL_thrown_828 : decode cL_thrown 828 = .ok (.invokestatic 286, 3) := by decide +kernel
theorem dL_thrown_831 : decode cL_thrown 831 = .ok (.aload_n 0, 1) := by decide +kernel
theorem dL_thrown_832 : decode cL_thrown 832 = .ok (.aload_n 0, 1) := by decide +kernel
theorem dL_thrown_833 : decode cL_thrown 833 = .ok (.iload 7, 2) := by decide +kernel
theorem dL_thrown_835 : decode cL_thrown 835 = .ok (.invokestatic 246, 3) := by decide +kernel
theorem dL_thrown_838 : decode cL_thrown 838 = .ok (.invokestatic 232, 3) := by decide +kernel
theorem dL_thrown_841 : decode cL_thrown 841 = .ok (.iconst 1, 1) := by decide +kernel
theorem dL_thrown_842 : decode cL_thrown 842 = .ok (.isub, 1) := by decide +kernel
theorem dL_thrown_843 : decode cL_thrown 843 = .ok (.if_icmp .ge 195, 3) := by decide +kernel
theorem dL_thrown_846 : decode cL_thrown 846 = .ok (.iload 5, 2) := by decide +kernel
theorem dL_thrown_848 : decode cL_thrown 848 = .ok (.ifCond .eq 19, 3) := by decide +kernel
theorem dL_thrown_851 : decode cL_thrown 851 = .ok (.aload_n 0, 1) := by decide +kernel
theorem dL_thrown_852 : decode cL_thrown 852 = .ok (.iload 7, 2) := by decide +kernel
theorem dL_thrown_854 : decode cL_thrown 854 = .ok (.invokestatic 250, 3) := by decide +kernel
theorem dL_thrown_857 : decode cL_thrown 857 = .ok (.sipush (-1002), 3) := by decide +kernel
theorem dL_thrown_860 : decode cL_thrown 860 = .ok (.if_icmp .ne 7, 3) := by decide +kernel
theorem dL_thrown_863 : decode cL_thrown 863 = .ok (.iconst 1, 1) := by decide +kernel
theorem dL_thrown_864 : decode cL_thrown 864 = .ok (.goto 4, 3) := by decide +kernel
theorem dL_thrown_867 : decode cL_thrown 867 = .ok (.iconst 0, 1) := by decide +kernel
theorem dL_thrown_868 : decode cL_thrown 868 = .ok (.istore 5, 2) := by decide +kernel
theorem dL_thrown_870 : decode cL_thrown 870 = .ok (.goto 168, 3) := by decide +kernel
theorem dL_thrown_873 : decode cL_thrown 873 = .ok (.iload 5, 2) := by decide +kernel
theorem dL_thrown_875 : decode cL_thrown 875 = .ok (.ifCond .eq 43, 3) := by decide +kernel
theorem dL_thrown_878 : decode cL_thrown 878 = .ok (.aload_n 0, 1) := by decide +kernel
theorem dL_thrown_879 : decode cL_thrown 879 = .ok (.iload 7, 2) := by decide +kernel
theorem dL_thrown_881 : decode cL_thrown 881 = .ok (.invokestatic 250, 3) := by decide +kernel
theorem dL_thrown_884 : decode cL_thrown 884 = .ok (.sipush (-1002), 3) := by decide +kernel
theorem dL_thrown_887 : decode cL_thrown 887 = .ok (.if_icmp .ne 31, 3) := by decide +kernel
theorem dL_thrown_890 : decode cL_thrown 890 = .ok (.aload_n 0, 1) := by decide +kernel
theorem dL_thrown_891 : decode cL_thrown 891 = .ok (.iload 7, 2) := by decide +kernel
theorem dL_thrown_893 : decode cL_thrown 893 = .ok (.invokestatic 246, 3) := by decide +kernel
theorem dL_thrown_896 : decode cL_thrown 896 = .ok (.sipush (-1001), 3) := by decide +kernel
theorem dL_thrown_899 : decode cL_thrown 899 = .ok (.if_icmp .ne 19, 3) := by decide +kernel
theorem dL_thrown_902 : decode cL_thrown 902 = .ok (.aload_n 0, 1) := by decide +kernel
theorem dL_thrown_903 : decode cL_thrown 903 = .ok (.iload 7, 2) := by decide +kernel
theorem dL_thrown_905 : decode cL_thrown 905 = .ok (.invokestatic 286, 3) := by decide +kernel
theorem dL_thrown_908 : decode cL_thrown 908 = .ok (.sipush (-1001), 3) := by decide +kernel
theorem dL_thrown_911 : decode cL_thrown 911 = .ok (.if_icmp .ne 7, 3) := by decide +kernel
theorem dL_thrown_914 : decode cL_thrown 914 = .ok (.iconst 1, 1) := by decide +kernel
theorem dL_thrown_915 : decode cL_thrown 915 = .ok (.goto 4, 3) := by decide +kernel
theorem dL_thrown_918 : decode cL_thrown 918 = .ok (.iconst 0, 1) := by decide +kernel
theorem dL_thrown_919 : decode cL_thrown 919 = .ok (.istore 5, 2) := by decide +kernel
theorem dL_thrown_921 : decode cL_thrown 921 = .ok (.iconst 0, 1) := by decide +kernel
theorem dL_thrown_922 : decode cL_thrown 922 = .ok (.istore 8, 2) := by decide +kernel
theorem dL_thrown_924 : decode cL_thrown 924 = .ok (.iload 8, 2) := by decide +kernel
theorem dL_thrown_926 : decode cL_thrown 926 = .ok (.iload 4, 2) := by decide +kernel
theorem dL_thrown_928 : decode cL_thrown 928 = .ok (.if_icmp .ge 110, 3) := by decide +kernel
theorem dL_thrown_931 : decode cL_thrown 931 = .ok (.aload_n 0, 1) := by decide +kernel
theorem dL_thrown_932 : decode cL_thrown 932 = .ok (.iload 7, 2) := by decide +kernel
theorem dL_thrown_934 : decode cL_thrown 934 = .ok (.iload 8, 2) := by decide +kernel
theorem dL_thrown_936 : decode cL_thrown 936 = .ok (.invokestatic 282, 3) := by decide +kernel
theorem dL_thrown_939 : decode cL_thrown 939 = .ok (.iconst 1, 1) := by decide +kernel
theorem dL_thrown_940 : decode cL_thrown 940 = .ok (.if_icmp .ne 6, 3) := by decide +kernel
theorem dL_thrown_943 : decode cL_thrown 943 = .ok (.goto 89, 3) := by decide +kernel
theorem dL_thrown_946 : decode cL_thrown 946 = .ok (.iload 5, 2) := by decide +kernel
theorem dL_thrown_948 : decode cL_thrown 948 = .ok (.ifCond .eq 81, 3) := by decide +kernel
theorem dL_thrown_951 : decode cL_thrown 951 = .ok (.aload_n 0, 1) := by decide +kernel
theorem dL_thrown_952 : decode cL_thrown 952 = .ok (.iload 7, 2) := by decide +kernel
theorem dL_thrown_954 : decode cL_thrown 954 = .ok (.iload 8, 2) := by decide +kernel
theorem dL_thrown_956 : decode cL_thrown 956 = .ok (.invokestatic 192, 3) := by decide +kernel
theorem dL_thrown_959 : decode cL_thrown 959 = .ok (.sipush (-1004), 3) := by decide +kernel
theorem dL_thrown_962 : decode cL_thrown 962 = .ok (.if_icmp .ne 67, 3) := by decide +kernel
theorem dL_thrown_965 : decode cL_thrown 965 = .ok (.aload_n 0, 1) := by decide +kernel
theorem dL_thrown_966 : decode cL_thrown 966 = .ok (.invokestatic 172, 3) := by decide +kernel
theorem dL_thrown_969 : decode cL_thrown 969 = .ok (.iload 7, 2) := by decide +kernel
theorem dL_thrown_971 : decode cL_thrown 971 = .ok (.if_icmp .ne 58, 3) := by decide +kernel
theorem dL_thrown_974 : decode cL_thrown 974 = .ok (.aload_n 0, 1) := by decide +kernel
theorem dL_thrown_975 : decode cL_thrown 975 = .ok (.invokestatic 169, 3) := by decide +kernel
theorem dL_thrown_978 : decode cL_thrown 978 = .ok (.ifCond .le 51, 3) := by decide +kernel
theorem dL_thrown_981 : decode cL_thrown 981 = .ok (.aload_n 0, 1) := by decide +kernel
theorem dL_thrown_982 : decode cL_thrown 982 = .ok (.invokestatic 169, 3) := by decide +kernel
theorem dL_thrown_985 : decode cL_thrown 985 = .ok (.iconst 5, 1) := by decide +kernel
theorem dL_thrown_986 : decode cL_thrown 986 = .ok (.if_icmp .ge 43, 3) := by decide +kernel
theorem dL_thrown_989 : decode cL_thrown 989 = .ok (.aload_n 0, 1) := by decide +kernel
theorem dL_thrown_990 : decode cL_thrown 990 = .ok (.invokestatic 169, 3) := by decide +kernel
theorem dL_thrown_993 : decode cL_thrown 993 = .ok (.iconst 1, 1) := by decide +kernel
theorem dL_thrown_994 : decode cL_thrown 994 = .ok (.if_icmp .ne 7, 3) := by decide +kernel
theorem dL_thrown_997 : decode cL_thrown 997 = .ok (.iconst 1, 1) := by decide +kernel
theorem dL_thrown_998 : decode cL_thrown 998 = .ok (.goto 4, 3) := by decide +kernel
theorem dL_thrown_1001 : decode cL_thrown 1001 = .ok (.iconst 0, 1) := by decide +kernel
theorem dL_thrown_1002 : decode cL_thrown 1002 = .ok (.aload_n 0, 1) := by decide +kernel
theorem dL_thrown_1003 : decode cL_thrown 1003 = .ok (.iload 7, 2) := by decide +kernel
theorem dL_thrown_1005 : decode cL_thrown 1005 = .ok (.invokestatic 240, 3) := by decide +kernel
theorem dL_thrown_1008 : decode cL_thrown 1008 = .ok (.aload_n 0, 1) := by decide +kernel
theorem dL_thrown_1009 : decode cL_thrown 1009 = .ok (.iload 8, 2) := by decide +kernel
theorem dL_thrown_1011 : decode cL_thrown 1011 = .ok (.invokestatic 291, 3) := by decide +kernel
theorem dL_thrown_1014 : decode cL_thrown 1014 = .ok (.if_icmp .le 7, 3) := by decide +kernel
theorem dL_thrown_1017 : decode cL_thrown 1017 = .ok (.iconst 1, 1) := by decide +kernel
theorem dL_thrown_1018 : decode cL_thrown 1018 = .ok (.goto 4, 3) := by decide +kernel
theorem dL_thrown_1021 : decode cL_thrown 1021 = .ok (.iconst 0, 1) := by decide +kernel
theorem dL_thrown_1022 : decode cL_thrown 1022 = .ok (.if_icmp .ne 7, 3) := by decide +kernel
theorem dL_thrown_1025 : decode cL_thrown 1025 = .ok (.iconst 1, 1) := by decide +kernel
theorem dL_thrown_1026 : decode cL_thrown 1026 = .ok (.goto 4, 3) := by decide +kernel
theorem dL_thrown_1029 : decode cL_thrown 1029 = .ok (.iconst 0, 1) := by decide +kernel
theorem dL_thrown_1030 : decode cL_thrown 1030 = .ok (.istore 5, 2) := by decide +kernel
theorem dL_thrown_1032 : decode cL_thrown 1032 = .ok (.iinc 8 1, 3) := by decide +kernel
theorem dL_thrown_1035 : decode cL_thrown 1035 = .ok (.goto (-111), 3) := by decide +kernel
theorem dL_thrown_1038 : decode cL_thrown 1038 = .ok (.iinc 6 1, 3) := by decide +kernel
theorem dL_thrown_1041 : decode cL_thrown 1041 = .ok (.goto (-326), 3) := by decide +kernel
theorem dL_thrown_1044 : decode cL_thrown 1044 = .ok (.aload_n 0, 1) := by decide +kernel
theorem dL_thrown_1045 : decode cL_thrown 1045 = .ok (.invokestatic 169, 3) := by decide +kernel
theorem dL_thrown_1048 : decode cL_thrown 1048 = .ok (.istore 6, 2) := by decide +kernel
theorem dL_thrown_1050 : decode cL_thrown 1050 = .ok (.aload_n 0, 1) := by decide +kernel
theorem dL_thrown_1051 : decode cL_thrown 1051 = .ok (.invokestatic 172, 3) := by decide +kernel
theorem dL_thrown_1054 : decode cL_thrown 1054 = .ok (.istore 7, 2) := by decide +kernel
theorem dL_thrown_1056 : decode cL_thrown 1056 = .ok (.iload 5, 2) := by decide +kernel
theorem dL_thrown_1058 : decode cL_thrown 1058 = .ok (.ifCond .eq 102, 3) := by decide +kernel
theorem dL_thrown_1061 : decode cL_thrown 1061 = .ok (.aload_n 0, 1) := by decide +kernel
theorem dL_thrown_1062 : decode cL_thrown 1062 = .ok (.ldc_w 305, 3) := by decide +kernel
theorem dL_thrown_1065 : decode cL_thrown 1065 = .ok (.invokestatic 272, 3) := by decide +kernel
theorem dL_thrown_1068 : decode cL_thrown 1068 = .ok (.sipush (-1001), 3) := by decide +kernel
theorem dL_thrown_1071 : decode cL_thrown 1071 = .ok (.if_icmp .ne 89, 3) := by decide +kernel
theorem dL_thrown_1074 : decode cL_thrown 1074 = .ok (.aload_n 0, 1) := by decide +kernel
theorem dL_thrown_1075 : decode cL_thrown 1075 = .ok (.invokestatic 307, 3) := by decide +kernel
theorem dL_thrown_1078 : decode cL_thrown 1078 = .ok (.ifCond .ne 82, 3) := by decide +kernel
theorem dL_thrown_1081 : decode cL_thrown 1081 = .ok (.aload_n 0, 1) := by decide +kernel
theorem dL_thrown_1082 : decode cL_thrown 1082 = .ok (.ldc_w 309, 3) := by decide +kernel
theorem dL_thrown_1085 : decode cL_thrown 1085 = .ok (.invokestatic 272, 3) := by decide +kernel
theorem dL_thrown_1088 : decode cL_thrown 1088 = .ok (.sipush (-1002), 3) := by decide +kernel
theorem dL_thrown_1091 : decode cL_thrown 1091 = .ok (.if_icmp .ne 69, 3) := by decide +kernel
theorem dL_thrown_1094 : decode cL_thrown 1094 = .ok (.aload_n 0, 1) := by decide +kernel
theorem dL_thrown_1095 : decode cL_thrown 1095 = .ok (.invokestatic 311, 3) := by decide +kernel
theorem dL_thrown_1098 : decode cL_thrown 1098 = .ok (.iconst 1, 1) := by decide +kernel
theorem dL_thrown_1099 : decode cL_thrown 1099 = .ok (.if_icmp .ne 61, 3) := by decide +kernel
theorem dL_thrown_1102 : decode cL_thrown 1102 = .ok (.aload_n 0, 1) := by decide +kernel
theorem dL_thrown_1103 : decode cL_thrown 1103 = .ok (.ldc_w 313, 3) := by decide +kernel
theorem dL_thrown_1106 : decode cL_thrown 1106 = .ok (.invokestatic 272, 3) := by decide +kernel
theorem dL_thrown_1109 : decode cL_thrown 1109 = .ok (.sipush (-1002), 3) := by decide +kernel
theorem dL_thrown_1112 : decode cL_thrown 1112 = .ok (.if_icmp .ne 48, 3) := by decide +kernel
theorem dL_thrown_1115 : decode cL_thrown 1115 = .ok (.aload_n 0, 1) := by decide +kernel
theorem dL_thrown_1116 : decode cL_thrown 1116 = .ok (.invokestatic 311, 3) := by decide +kernel
theorem dL_thrown_1119 : decode cL_thrown 1119 = .ok (.ifCond .ne 41, 3) := by decide +kernel
theorem dL_thrown_1122 : decode cL_thrown 1122 = .ok (.aload_n 0, 1) := by decide +kernel
theorem dL_thrown_1123 : decode cL_thrown 1123 = .ok (.invokestatic 169, 3) := by decide +kernel
theorem dL_thrown_1126 : decode cL_thrown 1126 = .ok (.iload 6, 2) := by decide +kernel
theorem dL_thrown_1128 : decode cL_thrown 1128 = .ok (.if_icmp .ne 32, 3) := by decide +kernel
theorem dL_thrown_1131 : decode cL_thrown 1131 = .ok (.aload_n 0, 1) := by decide +kernel
theorem dL_thrown_1132 : decode cL_thrown 1132 = .ok (.invokestatic 172, 3) := by decide +kernel
theorem dL_thrown_1135 : decode cL_thrown 1135 = .ok (.iload 7, 2) := by decide +kernel
theorem dL_thrown_1137 : decode cL_thrown 1137 = .ok (.if_icmp .ne 23, 3) := by decide +kernel
theorem dL_thrown_1140 : decode cL_thrown 1140 = .ok (.aload_n 0, 1) := by decide +kernel
theorem dL_thrown_1141 : decode cL_thrown 1141 = .ok (.invokestatic 307, 3) := by decide +kernel
theorem dL_thrown_1144 : decode cL_thrown 1144 = .ok (.ifCond .ne 16, 3) := by decide +kernel
theorem dL_thrown_1147 : decode cL_thrown 1147 = .ok (.aload_n 0, 1) := by decide +kernel
theorem dL_thrown_1148 : decode cL_thrown 1148 = .ok (.invokestatic 278, 3) := by decide +kernel
theorem dL_thrown_1151 : decode cL_thrown 1151 = .ok (.lload_n 1, 1) := by decide +kernel
theorem dL_thrown_1152 : decode cL_thrown 1152 = .ok (.lcmp, 1) := by decide +kernel
theorem dL_thrown_1153 : decode cL_thrown 1153 = .ok (.ifCond .ne 7, 3) := by decide +kernel
theorem dL_thrown_1156 : decode cL_thrown 1156 = .ok (.iconst 1, 1) := by decide +kernel
theorem dL_thrown_1157 : decode cL_thrown 1157 = .ok (.goto 4, 3) := by decide +kernel
theorem dL_thrown_1160 : decode cL_thrown 1160 = .ok (.iconst 0, 1) := by decide +kernel
theorem dL_thrown_1161 : decode cL_thrown 1161 = .ok (.ireturn, 1) := by decide +kernel
theorem dL_law_0 : decode cL_law 0 = .ok (.new 8, 3) := by decide +kernel
theorem dL_law_3 : decode cL_law 3 = .ok (.dup, 1) := by decide +kernel
theorem dL_law_4 : decode cL_law 4 = .ok (.invokespecial 315, 3) := by decide +kernel
theorem dL_law_7 : decode cL_law 7 = .ok (.astore_n 1, 1) := by decide +kernel
theorem dL_law_8 : decode cL_law 8 = .ok (.aload_n 1, 1) := by decide +kernel
theorem dL_law_9 : decode cL_law 9 = .ok (.invokestatic 316, 3) := by decide +kernel
theorem dL_law_12 : decode cL_law 12 = .ok (.sipush (-1001), 3) := by decide +kernel
theorem dL_law_15 : decode cL_law 15 = .ok (.if_icmp .ne 29, 3) := by decide +kernel
theorem dL_law_18 : decode cL_law 18 = .ok (.aload_n 1, 1) := by decide +kernel
theorem dL_law_19 : decode cL_law 19 = .ok (.invokestatic 318, 3) := by decide +kernel
theorem dL_law_22 : decode cL_law 22 = .ok (.sipush (-1001), 3) := by decide +kernel
theorem dL_law_25 : decode cL_law 25 = .ok (.if_icmp .ne 19, 3) := by decide +kernel
theorem dL_law_28 : decode cL_law 28 = .ok (.aload_n 1, 1) := by decide +kernel
theorem dL_law_29 : decode cL_law 29 = .ok (.invokevirtual 320, 3) := by decide +kernel
theorem dL_law_32 : decode cL_law 32 = .ok (.ifCond .ne 12, 3) := by decide +kernel
theorem dL_law_35 : decode cL_law 35 = .ok (.aload_n 1, 1) := by decide +kernel
theorem dL_law_36 : decode cL_law 36 = .ok (.bipush 99, 2) := by decide +kernel
theorem dL_law_38 : decode cL_law 38 = .ok (.invokestatic 187, 3) := by decide +kernel
theorem dL_law_41 : decode cL_law 41 = .ok (.ifCond .eq 5, 3) := by decide +kernel
theorem dL_law_44 : decode cL_law 44 = .ok (.iconst 0, 1) := by decide +kernel
theorem dL_law_45 : decode cL_law 45 = .ok (.ireturn, 1) := by decide +kernel
theorem dL_law_46 : decode cL_law 46 = .ok (.iconst 0, 1) := by decide +kernel
theorem dL_law_47 : decode cL_law 47 = .ok (.istore_n 2, 1) := by decide +kernel
theorem dL_law_48 : decode cL_law 48 = .ok (.iload_n 2, 1) := by decide +kernel
theorem dL_law_49 : decode cL_law 49 = .ok (.bipush 60, 2) := by decide +kernel
theorem dL_law_51 : decode cL_law 51 = .ok (.if_icmp .ge 26, 3) := by decide +kernel
theorem dL_law_54 : decode cL_law 54 = .ok (.aload_n 1, 1) := by decide +kernel
theorem dL_law_55 : decode cL_law 55 = .ok (.bipush 65, 2) := by decide +kernel
theorem dL_law_57 : decode cL_law 57 = .ok (.iload_n 2, 1) := by decide +kernel
theorem dL_law_58 : decode cL_law 58 = .ok (.iadd, 1) := by decide +kernel
theorem dL_law_59 : decode cL_law 59 = .ok (.i2c, 1) := by decide +kernel
theorem dL_law_60 : decode cL_law 60 = .ok (.invokestatic 161, 3) := by decide +kernel
theorem dL_law_63 : decode cL_law 63 = .ok (.iload_n 2, 1) := by decide +kernel
theorem dL_law_64 : decode cL_law 64 = .ok (.iconst 1, 1) := by decide +kernel
theorem dL_law_65 : decode cL_law 65 = .ok (.iadd, 1) := by decide +kernel
theorem dL_law_66 : decode cL_law 66 = .ok (.if_icmp .eq 5, 3) := by decide +kernel
theorem dL_law_69 : decode cL_law 69 = .ok (.iconst 0, 1) := by decide +kernel
theorem dL_law_70 : decode cL_law 70 = .ok (.ireturn, 1) := by decide +kernel
theorem dL_law_71 : decode cL_law 71 = .ok (.iinc 2 1, 3) := by decide +kernel
theorem dL_law_74 : decode cL_law 74 = .ok (.goto (-26), 3) := by decide +kernel
theorem dL_law_77 : decode cL_law 77 = .ok (.aload_n 1, 1) := by decide +kernel
theorem dL_law_78 : decode cL_law 78 = .ok (.bipush 100, 2) := by decide +kernel
theorem dL_law_80 : decode cL_law 80 = .ok (.invokestatic 161, 3) := by decide +kernel
theorem dL_law_83 : decode cL_law 83 = .ok (.sipush (-1002), 3) := by decide +kernel
theorem dL_law_86 : decode cL_law 86 = .ok (.if_icmp .ne 48, 3) := by decide +kernel
theorem dL_law_89 : decode cL_law 89 = .ok (.aload_n 1, 1) := by decide +kernel
theorem dL_law_90 : decode cL_law 90 = .ok (.invokestatic 166, 3) := by decide +kernel
theorem dL_law_93 : decode cL_law 93 = .ok (.sipush (-1001), 3) := by decide +kernel
theorem dL_law_96 : decode cL_law 96 = .ok (.if_icmp .ne 38, 3) := by decide +kernel
theorem dL_law_99 : decode cL_law 99 = .ok (.aload_n 1, 1) := by decide +kernel
theorem dL_law_100 : decode cL_law 100 = .ok (.invokestatic 307, 3) := by decide +kernel
theorem dL_law_103 : decode cL_law 103 = .ok (.ifCond .ne 31, 3) := by decide +kernel
theorem dL_law_106 : decode cL_law 106 = .ok (.aload_n 1, 1) := by decide +kernel
theorem dL_law_107 : decode cL_law 107 = .ok (.bipush 100, 2) := by decide +kernel
theorem dL_law_109 : decode cL_law 109 = .ok (.invokestatic 161, 3) := by decide +kernel
theorem dL_law_112 : decode cL_law 112 = .ok (.iconst 1, 1) := by decide +kernel
theorem dL_law_113 : decode cL_law 113 = .ok (.if_icmp .ne 21, 3) := by decide +kernel
theorem dL_law_116 : decode cL_law 116 = .ok (.aload_n 1, 1) := by decide +kernel
theorem dL_law_117 : decode cL_law 117 = .ok (.invokestatic 166, 3) := by decide +kernel
theorem dL_law_120 : decode cL_law 120 = .ok (.sipush (-1001), 3) := by decide +kernel
theorem dL_law_123 : decode cL_law 123 = .ok (.if_icmp .ne 11, 3) := by decide +kernel
theorem dL_law_126 : decode cL_law 126 = .ok (.aload_n 1, 1) := by decide +kernel
theorem dL_law_127 : decode cL_law 127 = .ok (.invokestatic 307, 3) := by decide +kernel
theorem dL_law_130 : decode cL_law 130 = .ok (.iconst 1, 1) := by decide +kernel
theorem dL_law_131 : decode cL_law 131 = .ok (.if_icmp .eq 5, 3) := by decide +kernel
theorem dL_law_134 : decode cL_law 134 = .ok (.iconst 0, 1) := by decide +kernel
theorem dL_law_135 : decode cL_law 135 = .ok (.ireturn, 1) := by decide +kernel
theorem dL_law_136 : decode cL_law 136 = .ok (.iconst 0, 1) := by decide +kernel
theorem dL_law_137 : decode cL_law 137 = .ok (.istore_n 2, 1) := by decide +kernel
theorem dL_law_138 : decode cL_law 138 = .ok (.iload_n 2, 1) := by decide +kernel
theorem dL_law_139 : decode cL_law 139 = .ok (.bipush 12, 2) := by decide +kernel
theorem dL_law_141 : decode cL_law 141 = .ok (.if_icmp .ge 24, 3) := by decide +kernel
theorem dL_law_144 : decode cL_law 144 = .ok (.aload_n 1, 1) := by decide +kernel
theorem dL_law_145 : decode cL_law 145 = .ok (.iconst 2, 1) := by decide +kernel
theorem dL_law_146 : decode cL_law 146 = .ok (.iconst 3, 1) := by decide +kernel
theorem dL_law_147 : decode cL_law 147 = .ok (.bipush 12, 2) := by decide +kernel
theorem dL_law_149 : decode cL_law 149 = .ok (.iconst 0, 1) := by decide +kernel
theorem dL_law_150 : decode cL_law 150 = .ok (.invokestatic 189, 3) := by decide +kernel
theorem dL_law_153 : decode cL_law 153 = .ok (.iload_n 2, 1) := by decide +kernel
theorem dL_law_154 : decode cL_law 154 = .ok (.if_icmp .eq 5, 3) := by decide +kernel
theorem dL_law_157 : decode cL_law 157 = .ok (.iconst 0, 1) := by decide +kernel
theorem dL_law_158 : decode cL_law 158 = .ok (.ireturn, 1) := by decide +kernel
theorem dL_law_159 : decode cL_law 159 = .ok (.iinc 2 1, 3) := by decide +kernel
theorem dL_law_162 : decode cL_law 162 = .ok (.goto (-24), 3) := by decide +kernel
theorem dL_law_165 : decode cL_law 165 = .ok (.aload_n 1, 1) := by decide +kernel
theorem dL_law_166 : decode cL_law 166 = .ok (.iconst 2, 1) := by decide +kernel
theorem dL_law_167 : decode cL_law 167 = .ok (.iconst 3, 1) := by decide +kernel
theorem dL_law_168 : decode cL_law 168 = .ok (.bipush 12, 2) := by decide +kernel
theorem dL_law_170 : decode cL_law 170 = .ok (.iconst 0, 1) := by decide +kernel
theorem dL_law_171 : decode cL_law 171 = .ok (.invokestatic 189, 3) := by decide +kernel
theorem dL_law_174 : decode cL_law 174 = .ok (.sipush (-1002), 3) := by decide +kernel
theorem dL_law_177 : decode cL_law 177 = .ok (.if_icmp .ne 78, 3) := by decide +kernel
theorem dL_law_180 : decode cL_law 180 = .ok (.aload_n 1, 1) := by decide +kernel
theorem dL_law_181 : decode cL_law 181 = .ok (.iconst 0, 1) := by decide +kernel
theorem dL_law_182 : decode cL_law 182 = .ok (.invokestatic 195, 3) := by decide +kernel
theorem dL_law_185 : decode cL_law 185 = .ok (.bipush 12, 2) := by decide +kernel
theorem dL_law_187 : decode cL_law 187 = .ok (.if_icmp .ne 68, 3) := by decide +kernel
theorem dL_law_190 : decode cL_law 190 = .ok (.aload_n 1, 1) := by decide +kernel
theorem dL_law_191 : decode cL_law 191 = .ok (.iconst 0, 1) := by decide +kernel
theorem dL_law_192 : decode cL_law 192 = .ok (.invokestatic 232, 3) := by decide +kernel
theorem dL_law_195 : decode cL_law 195 = .ok (.iconst 3, 1) := by decide +kernel
theorem dL_law_196 : decode cL_law 196 = .ok (.if_icmp .ne 59, 3) := by decide +kernel
theorem dL_law_199 : decode cL_law 199 = .ok (.aload_n 1, 1) := by decide +kernel
theorem dL_law_200 : decode cL_law 200 = .ok (.iconst 0, 1) := by decide +kernel
theorem dL_law_201 : decode cL_law 201 = .ok (.invokestatic 230, 3) := by decide +kernel
theorem dL_law_204 : decode cL_law 204 = .ok (.bipush 36, 2) := by decide +kernel
theorem dL_law_206 : decode cL_law 206 = .ok (.if_icmp .ne 49, 3) := by decide +kernel
theorem dL_law_209 : decode cL_law 209 = .ok (.aload_n 1, 1) := by decide +kernel
theorem dL_law_210 : decode cL_law 210 = .ok (.bipush 11, 2) := by decide +kernel
theorem dL_law_212 : decode cL_law 212 = .ok (.invokestatic 250, 3) := by decide +kernel
theorem dL_law_215 : decode cL_law 215 = .ok (.iconst 3, 1) := by decide +kernel
theorem dL_law_216 : decode cL_law 216 = .ok (.if_icmp .ne 39, 3) := by decide +kernel
theorem dL_law_219 : decode cL_law 219 = .ok (.aload_n 1, 1) := by decide +kernel
theorem dL_law_220 : decode cL_law 220 = .ok (.bipush 11, 2) := by decide +kernel
theorem dL_law_222 : decode cL_law 222 = .ok (.invokestatic 248, 3) := by decide +kernel
theorem dL_law_225 : decode cL_law 225 = .ok (.bipush 11, 2) := by decide +kernel
theorem dL_law_227 : decode cL_law 227 = .ok (.if_icmp .ne 28, 3) := by decide +kernel
theorem dL_law_230 : decode cL_law 230 = .ok (.aload_n 1, 1) := by decide +kernel
theorem dL_law_231 : decode cL_law 231 = .ok (.invokestatic 276, 3) := by decide +kernel
theorem dL_law_234 : decode cL_law 234 = .ok (.bipush 11, 2) := by decide +kernel
theorem dL_law_236 : decode cL_law 236 = .ok (.if_icmp .ne 19, 3) := by decide +kernel
theorem dL_law_239 : decode cL_law 239 = .ok (.aload_n 1, 1) := by decide +kernel
theorem dL_law_240 : decode cL_law 240 = .ok (.invokevirtual 225, 3) := by decide +kernel
theorem dL_law_243 : decode cL_law 243 = .ok (.bipush 33, 2) := by decide +kernel
theorem dL_law_245 : decode cL_law 245 = .ok (.if_icmp .ne 10, 3) := by decide +kernel
theorem dL_law_248 : decode cL_law 248 = .ok (.aload_n 1, 1) := by decide +kernel
theorem dL_law_249 : decode cL_law 249 = .ok (.invokevirtual 197, 3) := by decide +kernel
theorem dL_law_252 : decode cL_law 252 = .ok (.ifCond .eq 5, 3) := by decide +kernel
theorem dL_law_255 : decode cL_law 255 = .ok (.iconst 0, 1) := by decide +kernel
theorem dL_law_256 : decode cL_law 256 = .ok (.ireturn, 1) := by decide +kernel
theorem dL_law_257 : decode cL_law 257 = .ok (.aload_n 1, 1) := by decide +kernel
theorem dL_law_258 : decode cL_law 258 = .ok (.invokestatic 316, 3) := by decide +kernel
theorem dL_law_261 : decode cL_law 261 = .ok (.bipush 7, 2) := by decide +kernel
theorem dL_law_263 : decode cL_law 263 = .ok (.if_icmp .ne 144, 3) := by decide +kernel
theorem dL_law_266 : decode cL_law 266 = .ok (.aload_n 1, 1) := by decide +kernel
theorem dL_law_267 : decode cL_law 267 = .ok (.invokevirtual 197, 3) := by decide +kernel
theorem dL_law_270 : decode cL_law 270 = .ok (.bipush 11, 2) := by decide +kernel
theorem dL_law_272 : decode cL_law 272 = .ok (.if_icmp .ne 135, 3) := by decide +kernel
theorem dL_law_275 : decode cL_law 275 = .ok (.aload_n 1, 1) := by decide +kernel
theorem dL_law_276 : decode cL_law 276 = .ok (.invokevirtual 222, 3) := by decide +kernel
theorem dL_law_279 : decode cL_law 279 = .ok (.ifCond .ne 128, 3) := by decide +kernel
theorem dL_law_282 : decode cL_law 282 = .ok (.aload_n 1, 1) := by decide +kernel
theorem dL_law_283 : decode cL_law 283 = .ok (.invokestatic 316, 3) := by decide +kernel
theorem dL_law_286 : decode cL_law 286 = .ok (.bipush 6, 2) := by decide +kernel
theorem dL_law_288 : decode cL_law 288 = .ok (.if_icmp .ne 119, 3) := by decide +kernel
theorem dL_law_291 : decode cL_law 291 = .ok (.aload_n 1, 1) := by decide +kernel
theorem dL_law_292 : decode cL_law 292 = .ok (.bipush 11, 2) := by decide +kernel
theorem dL_law_294 : decode cL_law 294 = .ok (.invokevirtual 323, 3) := by decide +kernel
theorem dL_law_297 : decode cL_law 297 = .ok (.ifCond .eq 110, 3) := by decide +kernel
theorem dL_law_300 : decode cL_law 300 = .ok (.aload_n 1, 1) := by decide +kernel
theorem dL_law_301 : decode cL_law 301 = .ok (.invokestatic 316, 3) := by decide +kernel
theorem dL_law_304 : decode cL_law 304 = .ok (.iconst 5, 1) := by decide +kernel
theorem dL_law_305 : decode cL_law 305 = .ok (.if_icmp .ne 102, 3) := by decide +kernel
theorem dL_law_308 : decode cL_law 308 = .ok (.aload_n 1, 1) := by decide +kernel
theorem dL_law_309 : decode cL_law 309 = .ok (.bipush 11, 2) := by decide +kernel
theorem dL_law_311 : decode cL_law 311 = .ok (.invokestatic 284, 3) := by decide +kernel
theorem dL_law_314 : decode cL_law 314 = .ok (.iconst 1, 1) := by decide +kernel
theorem dL_law_315 : decode cL_law 315 = .ok (.if_icmp .ne 92, 3) := by decide +kernel
theorem dL_law_318 : decode cL_law 318 = .ok (.aload_n 1, 1) := by decide +kernel
theorem dL_law_319 : decode cL_law 319 = .ok (.invokestatic 316, 3) := by decide +kernel
theorem dL_law_322 : decode cL_law 322 = .ok (.iconst 4, 1) := by decide +kernel
theorem dL_law_323 : decode cL_law 323 = .ok (.if_icmp .ne 84, 3) := by decide +kernel
theorem dL_law_326 : decode cL_law 326 = .ok (.aload_n 1, 1) := by decide +kernel
theorem dL_law_327 : decode cL_law 327 = .ok (.invokevirtual 217, 3) := by decide +kernel
theorem dL_law_330 : decode cL_law 330 = .ok (.bipush 12, 2) := by decide +kernel
theorem dL_law_332 : decode cL_law 332 = .ok (.if_icmp .ne 75, 3) := by decide +kernel
theorem dL_law_335 : decode cL_law 335 = .ok (.aload_n 1, 1) := by decide +kernel
theorem dL_law_336 : decode cL_law 336 = .ok (.invokestatic 316, 3) := by decide +kernel
theorem dL_law_339 : decode cL_law 339 = .ok (.iconst 3, 1) := by decide +kernel
theorem dL_law_340 : decode cL_law 340 = .ok (.if_icmp .ne 67, 3) := by decide +kernel
theorem dL_law_343 : decode cL_law 343 = .ok (.aload_n 1, 1) := by decide +kernel
theorem dL_law_344 : decode cL_law 344 = .ok (.invokevirtual 197, 3) := by decide +kernel
theorem dL_law_347 : decode cL_law 347 = .ok (.bipush 11, 2) := by decide +kernel
theorem dL_law_349 : decode cL_law 349 = .ok (.if_icmp .ne 58, 3) := by decide +kernel
theorem dL_law_352 : decode cL_law 352 = .ok (.aload_n 1, 1) := by decide +kernel
theorem dL_law_353 : decode cL_law 353 = .ok (.invokestatic 316, 3) := by decide +kernel
theorem dL_law_356 : decode cL_law 356 = .ok (.iconst 2, 1) := by decide +kernel
theorem dL_law_357 : decode cL_law 357 = .ok (.if_icmp .ne 50, 3) := by decide +kernel
theorem dL_law_360 : decode cL_law 360 = .ok (.aload_n 1, 1) := by decide +kernel
theorem dL_law_361 : decode cL_law 361 = .ok (.invokestatic 316, 3) := by decide +kernel
theorem dL_law_364 : decode cL_law 364 = .ok (.iconst 1, 1) := by decide +kernel
theorem dL_law_365 : decode cL_law 365 = .ok (.if_icmp .ne 42, 3) := by decide +kernel
theorem dL_law_368 : decode cL_law 368 = .ok (.aload_n 1, 1) := by decide +kernel
theorem dL_law_369 : decode cL_law 369 = .ok (.invokestatic 316, 3) := by decide +kernel
theorem dL_law_372 : decode cL_law 372 = .ok (.ifCond .ne 35, 3) := by decide +kernel
theorem dL_law_375 : decode cL_law 375 = .ok (.aload_n 1, 1) := by decide +kernel
theorem dL_law_376 : decode cL_law 376 = .ok (.invokevirtual 197, 3) := by decide +kernel
theorem dL_law_379 : decode cL_law 379 = .ok (.bipush 8, 2) := by decide +kernel
theorem dL_law_381 : decode cL_law 381 = .ok (.if_icmp .ne 26, 3) := by decide +kernel
theorem dL_law_384 : decode cL_law 384 = .ok (.aload_n 1, 1) := by decide +kernel
theorem dL_law_385 : decode cL_law 385 = .ok (.invokestatic 316, 3) := by decide +kernel
theorem dL_law_388 : decode cL_law 388 = .ok (.sipush (-1001), 3) := by decide +kernel
theorem dL_law_391 : decode cL_law 391 = .ok (.if_icmp .ne 16, 3) := by decide +kernel
theorem dL_law_394 : decode cL_law 394 = .ok (.aload_n 1, 1) := by decide +kernel
theorem dL_law_395 : decode cL_law 395 = .ok (.iconst 1, 1) := by decide +kernel
theorem dL_law_396 : decode cL_law 396 = .ok (.iconst 1, 1) := by decide +kernel
theorem dL_law_397 : decode cL_law 397 = .ok (.iconst 1, 1) := by decide +kernel
theorem dL_law_398 : decode cL_law 398 = .ok (.iconst 1, 1) := by decide +kernel
theorem dL_law_399 : decode cL_law 399 = .ok (.invokestatic 189, 3) := by decide +kernel
theorem dL_law_402 : decode cL_law 402 = .ok (.bipush 8, 2) := by decide +kernel
theorem dL_law_404 : decode cL_law 404 = .ok (.if_icmp .eq 5, 3) := by decide +kernel
theorem dL_law_407 : decode cL_law 407 = .ok (.iconst 0, 1) := by decide +kernel
theorem dL_law_408 : decode cL_law 408 = .ok (.ireturn, 1) := by decide +kernel
theorem dL_law_409 : decode cL_law 409 = .ok (.aload_n 1, 1) := by decide +kernel
theorem dL_law_410 : decode cL_law 410 = .ok (.invokestatic 318, 3) := by decide +kernel
theorem dL_law_413 : decode cL_law 413 = .ok (.ifCond .ne 38, 3) := by decide +kernel
theorem dL_law_416 : decode cL_law 416 = .ok (.aload_n 1, 1) := by decide +kernel
theorem dL_law_417 : decode cL_law 417 = .ok (.invokevirtual 197, 3) := by decide +kernel
theorem dL_law_420 : decode cL_law 420 = .ok (.ifCond .ne 31, 3) := by decide +kernel
theorem dL_law_423 : decode cL_law 423 = .ok (.aload_n 1, 1) := by decide +kernel
theorem dL_law_424 : decode cL_law 424 = .ok (.invokevirtual 200, 3) := by decide +kernel
theorem dL_law_427 : decode cL_law 427 = .ok (.ifCond .ne 24, 3) := by decide +kernel
theorem dL_law_430 : decode cL_law 430 = .ok (.aload_n 1, 1) := by decide +kernel
theorem dL_law_431 : decode cL_law 431 = .ok (.invokestatic 316, 3) := by decide +kernel
theorem dL_law_434 : decode cL_law 434 = .ok (.sipush (-1001), 3) := by decide +kernel
theorem dL_law_437 : decode cL_law 437 = .ok (.if_icmp .ne 14, 3) := by decide +kernel
theorem dL_law_440 : decode cL_law 440 = .ok (.aload_n 1, 1) := by decide +kernel
theorem dL_law_441 : decode cL_law 441 = .ok (.iconst 1, 1) := by decide +kernel
theorem dL_law_442 : decode cL_law 442 = .ok (.iconst 1, 1) := by decide +kernel
theorem dL_law_443 : decode cL_law 443 = .ok (.iconst 1, 1) := by decide +kernel
theorem dL_law_444 : decode cL_law 444 = .ok (.iconst 1, 1) := by decide +kernel
theorem dL_law_445 : decode cL_law 445 = .ok (.invokestatic 189, 3) := by decide +kernel
theorem dL_law_448 : decode cL_law 448 = .ok (.ifCond .eq 5, 3) := by decide +kernel
theorem dL_law_451 : decode cL_law 451 = .ok (.iconst 0, 1) := by decide +kernel
theorem dL_law_452 : decode cL_law 452 = .ok (.ireturn, 1) := by decide +kernel
theorem dL_law_453 : decode cL_law 453 = .ok (.new 8, 3) := by decide +kernel
theorem dL_law_456 : decode cL_law 456 = .ok (.dup, 1) := by decide +kernel
theorem dL_law_457 : decode cL_law 457 = .ok (.invokespecial 315, 3) := by decide +kernel
theorem dL_law_460 : decode cL_law 460 = .ok (.astore_n 2, 1) := by decide +kernel
theorem dL_law_461 : decode cL_law 461 = .ok (.aload_n 2, 1) := by decide +kernel
theorem dL_law_462 : decode cL_law 462 = .ok (.aload_n 0, 1) := by decide +kernel
theorem dL_law_463 : decode cL_law 463 = .ok (.invokestatic 326, 3) := by decide +kernel
theorem dL_law_466 : decode cL_law 466 = .ok (.ifCond .ne 5, 3) := by decide +kernel
theorem dL_law_469 : decode cL_law 469 = .ok (.iconst 0, 1) := by decide +kernel
theorem dL_law_470 : decode cL_law 470 = .ok (.ireturn, 1) := by decide +kernel
theorem dL_law_471 : decode cL_law 471 = .ok (.aload_n 2, 1) := by decide +kernel
theorem dL_law_472 : decode cL_law 472 = .ok (.invokestatic 278, 3) := by decide +kernel
theorem dL_law_475 : decode cL_law 475 = .ok (.lstore_n 3, 1) := by decide +kernel
theorem dL_law_476 : decode cL_law 476 = .ok (.aload_n 2, 1) := by decide +kernel
theorem dL_law_477 : decode cL_law 477 = .ok (.invokestatic 278, 3) := by decide +kernel
theorem dL_law_480 : decode cL_law 480 = .ok (.lload_n 3, 1) := by decide +kernel
theorem dL_law_481 : decode cL_law 481 = .ok (.lcmp, 1) := by decide +kernel
theorem dL_law_482 : decode cL_law 482 = .ok (.ifCond .ne 10, 3) := by decide +kernel
theorem dL_law_485 : decode cL_law 485 = .ok (.aload_n 2, 1) := by decide +kernel
theorem dL_law_486 : decode cL_law 486 = .ok (.invokestatic 330, 3) := by decide +kernel
theorem dL_law_489 : decode cL_law 489 = .ok (.ifCond .ne 5, 3) := by decide +kernel
theorem dL_law_492 : decode cL_law 492 = .ok (.iconst 0, 1) := by decide +kernel
theorem dL_law_493 : decode cL_law 493 = .ok (.ireturn, 1) := by decide +kernel
theorem dL_law_494 : decode cL_law 494 = .ok (.aload_n 2, 1) := by decide +kernel
theorem dL_law_495 : decode cL_law 495 = .ok (.invokevirtual 320, 3) := by decide +kernel
theorem dL_law_498 : decode cL_law 498 = .ok (.istore 5, 2) := by decide +kernel
theorem dL_law_500 : decode cL_law 500 = .ok (.iload 5, 2) := by decide +kernel
theorem dL_law_502 : decode cL_law 502 = .ok (.aload_n 2, 1) := by decide +kernel
theorem dL_law_503 : decode cL_law 503 = .ok (.invokevirtual 197, 3) := by decide +kernel
theorem dL_law_506 : decode cL_law 506 = .ok (.if_icmp .ne 30, 3) := by decide +kernel
theorem dL_law_509 : decode cL_law 509 = .ok (.aload_n 2, 1) := by decide +kernel
theorem dL_law_510 : decode cL_law 510 = .ok (.invokestatic 278, 3) := by decide +kernel
theorem dL_law_513 : decode cL_law 513 = .ok (.lload_n 3, 1) := by decide +kernel
theorem dL_law_514 : decode cL_law 514 = .ok (.lcmp, 1) := by decide +kernel
theorem dL_law_515 : decode cL_law 515 = .ok (.ifCond .ne 21, 3) := by decide +kernel
theorem dL_law_518 : decode cL_law 518 = .ok (.aload_n 2, 1) := by decide +kernel
theorem dL_law_519 : decode cL_law 519 = .ok (.invokestatic 318, 3) := by decide +kernel
theorem dL_law_522 : decode cL_law 522 = .ok (.iload 5, 2) := by decide +kernel
theorem dL_law_524 : decode cL_law 524 = .ok (.if_icmp .ne 12, 3) := by decide +kernel
theorem dL_law_527 : decode cL_law 527 = .ok (.aload_n 2, 1) := by decide +kernel
theorem dL_law_528 : decode cL_law 528 = .ok (.invokestatic 278, 3) := by decide +kernel
theorem dL_law_531 : decode cL_law 531 = .ok (.lload_n 3, 1) := by decide +kernel
theorem dL_law_532 : decode cL_law 532 = .ok (.lcmp, 1) := by decide +kernel
theorem dL_law_533 : decode cL_law 533 = .ok (.ifCond .eq 5, 3) := by decide +kernel
theorem dL_law_536 : decode cL_law 536 = .ok (.iconst 0, 1) := by decide +kernel
theorem dL_law_537 : decode cL_law 537 = .ok (.ireturn, 1) := by decide +kernel
theorem dL_law_538 : decode cL_law 538 = .ok (.bipush 9, 2) := by decide +kernel
theorem dL_law_540 : decode cL_law 540 = .ok (.newarray .long, 2) := by decide +kernel
theorem dL_law_542 : decode cL_law 542 = .ok (.astore 6, 2) := by decide +kernel
theorem dL_law_544 : decode cL_law 544 = .ok (.iconst 0, 1) := by decide +kernel
theorem dL_law_545 : decode cL_law 545 = .ok (.istore 7, 2) := by decide +kernel
theorem dL_law_547 : decode cL_law 547 = .ok (.iconst 0, 1) := by decide +kernel
theorem dL_law_548 : decode cL_law 548 = .ok (.istore 8, 2) := by decide +kernel
theorem dL_law_550 : decode cL_law 550 = .ok (.iload 8, 2) := by decide +kernel
theorem dL_law_552 : decode cL_law 552 = .ok (.bipush 8, 2) := by decide +kernel
theorem dL_law_554 : decode cL_law 554 = .ok (.if_icmp .ge 63, 3) := by decide +kernel
theorem dL_law_557 : decode cL_law 557 = .ok (.aload_n 2, 1) := by decide +kernel
theorem dL_law_558 : decode cL_law 558 = .ok (.invokestatic 278, 3) := by decide +kernel
theorem dL_law_561 : decode cL_law 561 = .ok (.lstore 9, 2) := by decide +kernel
theorem dL_law_563 : decode cL_law 563 = .ok (.aload_n 2, 1) := by decide +kernel
theorem dL_law_564 : decode cL_law 564 = .ok (.aload_n 0, 1) := by decide +kernel
theorem dL_law_565 : decode cL_law 565 = .ok (.bipush 20, 2) := by decide +kernel
theorem dL_law_567 : decode cL_law 567 = .ok (.iload 8, 2) := by decide +kernel
theorem dL_law_569 : decode cL_law 569 = .ok (.iadd, 1) := by decide +kernel
theorem dL_law_570 : decode cL_law 570 = .ok (.invokestatic 180, 3) := by decide +kernel
theorem dL_law_573 : decode cL_law 573 = .ok (.iload 8, 2) := by decide +kernel
theorem dL_law_575 : decode cL_law 575 = .ok (.sipush 977, 3) := by decide +kernel
theorem dL_law_578 : decode cL_law 578 = .ok (.imul, 1) := by decide +kernel
theorem dL_law_579 : decode cL_law 579 = .ok (.ixor, 1) := by decide +kernel
theorem dL_law_580 : decode cL_law 580 = .ok (.invokestatic 334, 3) := by decide +kernel
theorem dL_law_583 : decode cL_law 583 = .ok (.ifCond .eq 16, 3) := by decide +kernel
theorem dL_law_586 : decode cL_law 586 = .ok (.aload 6, 2) := by decide +kernel
theorem dL_law_588 : decode cL_law 588 = .ok (.iload 7, 2) := by decide +kernel
theorem dL_law_590 : decode cL_law 590 = .ok (.iinc 7 1, 3) := by decide +kernel
theorem dL_law_593 : decode cL_law 593 = .ok (.lload 9, 2) := by decide +kernel
theorem dL_law_595 : decode cL_law 595 = .ok (.lastore, 1) := by decide +kernel
theorem dL_law_596 : decode cL_law 596 = .ok (.goto 15, 3) := by decide +kernel
theorem dL_law_599 : decode cL_law 599 = .ok (.aload_n 2, 1) := by decide +kernel
theorem dL_law_600 : decode cL_law 600 = .ok (.invokestatic 278, 3) := by decide +kernel
theorem dL_law_603 : decode cL_law 603 = .ok (.lload 9, 2) := by decide +kernel
theorem dL_law_605 : decode cL_law 605 = .ok (.lcmp, 1) := by decide +kernel
theorem dL_law_606 : decode cL_law 606 = .ok (.ifCond .eq 5, 3) := by decide +kernel
theorem dL_law_609 : decode cL_law 609 = .ok (.iconst 0, 1) := by decide +kernel
theorem dL_law_610 : decode cL_law 610 = .ok (.ireturn, 1) := by decide +kernel
theorem dL_law_611 : decode cL_law 611 = .ok (.iinc 8 1, 3) := by decide +kernel
theorem dL_law_614 : decode cL_law 614 = .ok (.goto (-64), 3) := by decide +kernel
theorem dL_law_617 : decode cL_law 617 = .ok (.iconst 1, 1) := by decide +kernel
theorem dL_law_618 : decode cL_law 618 = .ok (.istore 8, 2) := by decide +kernel
theorem dL_law_620 : decode cL_law 620 = .ok (.iload 8, 2) := by decide +kernel
theorem dL_law_622 : decode cL_law 622 = .ok (.iload 7, 2) := by decide +kernel
theorem dL_law_624 : decode cL_law 624 = .ok (.if_icmp .gt 39, 3) := by decide +kernel
theorem dL_law_627 : decode cL_law 627 = .ok (.aload_n 2, 1) := by decide +kernel
theorem dL_law_628 : decode cL_law 628 = .ok (.invokestatic 316, 3) := by decide +kernel
theorem dL_law_631 : decode cL_law 631 = .ok (.iload 7, 2) := by decide +kernel
theorem dL_law_633 : decode cL_law 633 = .ok (.iload 8, 2) := by decide +kernel
theorem dL_law_635 : decode cL_law 635 = .ok (.isub, 1) := by decide +kernel
theorem dL_law_636 : decode cL_law 636 = .ok (.if_icmp .ne 19, 3) := by decide +kernel
theorem dL_law_639 : decode cL_law 639 = .ok (.aload_n 2, 1) := by decide +kernel
theorem dL_law_640 : decode cL_law 640 = .ok (.invokestatic 278, 3) := by decide +kernel
theorem dL_law_643 : decode cL_law 643 = .ok (.aload 6, 2) := by decide +kernel
theorem dL_law_645 : decode cL_law 645 = .ok (.iload 7, 2) := by decide +kernel
theorem dL_law_647 : decode cL_law 647 = .ok (.iload 8, 2) := by decide +kernel
theorem dL_law_649 : decode cL_law 649 = .ok (.isub, 1) := by decide +kernel
theorem dL_law_650 : decode cL_law 650 = .ok (.laload, 1) := by decide +kernel
theorem dL_law_651 : decode cL_law 651 = .ok (.lcmp, 1) := by decide +kernel
theorem dL_law_652 : decode cL_law 652 = .ok (.ifCond .eq 5, 3) := by decide +kernel
theorem dL_law_655 : decode cL_law 655 = .ok (.iconst 0, 1) := by decide +kernel
theorem dL_law_656 : decode cL_law 656 = .ok (.ireturn, 1) := by decide +kernel
theorem dL_law_657 : decode cL_law 657 = .ok (.iinc 8 1, 3) := by decide +kernel
theorem dL_law_660 : decode cL_law 660 = .ok (.goto (-40), 3) := by decide +kernel
theorem dL_law_663 : decode cL_law 663 = .ok (.aload_n 2, 1) := by decide +kernel
theorem dL_law_664 : decode cL_law 664 = .ok (.invokestatic 316, 3) := by decide +kernel
theorem dL_law_667 : decode cL_law 667 = .ok (.sipush (-1001), 3) := by decide +kernel
theorem dL_law_670 : decode cL_law 670 = .ok (.if_icmp .ne 35, 3) := by decide +kernel
theorem dL_law_673 : decode cL_law 673 = .ok (.aload_n 2, 1) := by decide +kernel
theorem dL_law_674 : decode cL_law 674 = .ok (.invokestatic 318, 3) := by decide +kernel
theorem dL_law_677 : decode cL_law 677 = .ok (.iload 5, 2) := by decide +kernel
theorem dL_law_679 : decode cL_law 679 = .ok (.if_icmp .ne 26, 3) := by decide +kernel
theorem dL_law_682 : decode cL_law 682 = .ok (.aload_n 2, 1) := by decide +kernel
theorem dL_law_683 : decode cL_law 683 = .ok (.invokestatic 278, 3) := by decide +kernel
theorem dL_law_686 : decode cL_law 686 = .ok (.lload_n 3, 1) := by decide +kernel
theorem dL_law_687 : decode cL_law 687 = .ok (.lcmp, 1) := by decide +kernel
theorem dL_law_688 : decode cL_law 688 = .ok (.ifCond .ne 17, 3) := by decide +kernel
theorem dL_law_691 : decode cL_law 691 = .ok (.aload_n 2, 1) := by decide +kernel
theorem dL_law_692 : decode cL_law 692 = .ok (.invokestatic 316, 3) := by decide +kernel
theorem dL_law_695 : decode cL_law 695 = .ok (.sipush (-1001), 3) := by decide +kernel
theorem dL_law_698 : decode cL_law 698 = .ok (.if_icmp .ne 7, 3) := by decide +kernel
theorem dL_law_701 : decode cL_law 701 = .ok (.iconst 1, 1) := by decide +kernel
theorem dL_law_702 : decode cL_law 702 = .ok (.goto 4, 3) := by decide +kernel
theorem dL_law_705 : decode cL_law 705 = .ok (.iconst 0, 1) := by decide +kernel
theorem dL_law_706 : decode cL_law 706 = .ok (.ireturn, 1) := by decide +kernel
