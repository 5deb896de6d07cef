theorem dL_law_770 : decode cL_law 770 = .ok (.iconst 0, 1) := by decide +kernel
theorem dL_law_771 : decode cL_law 771 = .ok (.bipush 32, 2) := by decide +kernel
theorem dL_law_773 : decode cL_law 773 = .ok (.invokestatic 30, 3) := by decide +kernel
theorem dL_law_776 : decode cL_law 776 = .ok (.bipush (-2), 2) := by decide +kernel
theorem dL_law_778 : decode cL_law 778 = .ok (.if_icmp .ne 110, 3) := by decide +kernel
theorem dL_law_781 : decode cL_law 781 = .ok (.aload 10, 2) := by decide +kernel
theorem dL_law_783 : decode cL_law 783 = .ok (.iconst 0, 1) := by decide +kernel
theorem dL_law_784 : decode cL_law 784 = .ok (.invokevirtual 176, 3) := by decide +kernel
theorem dL_law_787 : decode cL_law 787 = .ok (.iconst 4, 1) := by decide +kernel
theorem dL_law_788 : decode cL_law 788 = .ok (.if_icmp .ne 100, 3) := by decide +kernel
theorem dL_law_791 : decode cL_law 791 = .ok (.aload 10, 2) := by decide +kernel
theorem dL_law_793 : decode cL_law 793 = .ok (.iconst 1, 1) := by decide +kernel
theorem dL_law_794 : decode cL_law 794 = .ok (.invokevirtual 176, 3) := by decide +kernel
theorem dL_law_797 : decode cL_law 797 = .ok (.iconst 2, 1) := by decide +kernel
theorem dL_law_798 : decode cL_law 798 = .ok (.if_icmp .ne 90, 3) := by decide +kernel
theorem dL_law_801 : decode cL_law 801 = .ok (.aload 10, 2) := by decide +kernel
theorem dL_law_803 : decode cL_law 803 = .ok (.iconst 0, 1) := by decide +kernel
theorem dL_law_804 : decode cL_law 804 = .ok (.bipush 46, 2) := by decide +kernel
theorem dL_law_806 : decode cL_law 806 = .ok (.invokevirtual 52, 3) := by decide +kernel
theorem dL_law_809 : decode cL_law 809 = .ok (.bipush 97, 2) := by decide +kernel
theorem dL_law_811 : decode cL_law 811 = .ok (.if_icmp .ne 77, 3) := by decide +kernel
theorem dL_law_814 : decode cL_law 814 = .ok (.aload 10, 2) := by decide +kernel
theorem dL_law_816 : decode cL_law 816 = .ok (.invokevirtual 208, 3) := by decide +kernel
theorem dL_law_819 : decode cL_law 819 = .ok (.ifCond .eq 69, 3) := by decide +kernel
theorem dL_law_822 : decode cL_law 822 = .ok (.aload 10, 2) := by decide +kernel
theorem dL_law_824 : decode cL_law 824 = .ok (.iconst 1, 1) := by decide +kernel
theorem dL_law_825 : decode cL_law 825 = .ok (.bipush 46, 2) := by decide +kernel
theorem dL_law_827 : decode cL_law 827 = .ok (.invokevirtual 52, 3) := by decide +kernel
theorem dL_law_830 : decode cL_law 830 = .ok (.bipush 98, 2) := by decide +kernel
theorem dL_law_832 : decode cL_law 832 = .ok (.if_icmp .ne 56, 3) := by decide +kernel
theorem dL_law_835 : decode cL_law 835 = .ok (.aload 10, 2) := by decide +kernel
theorem dL_law_837 : decode cL_law 837 = .ok (.invokevirtual 208, 3) := by decide +kernel
theorem dL_law_840 : decode cL_law 840 = .ok (.ifCond .ne 48, 3) := by decide +kernel
theorem dL_law_843 : decode cL_law 843 = .ok (.aload 10, 2) := by decide +kernel
theorem dL_law_845 : decode cL_law 845 = .ok (.invokevirtual 215, 3) := by decide +kernel
theorem dL_law_848 : decode cL_law 848 = .ok (.bipush 9, 2) := by decide +kernel
theorem dL_law_850 : decode cL_law 850 = .ok (.if_icmp .ne 38, 3) := by decide +kernel
theorem dL_law_853 : decode cL_law 853 = .ok (.aload 10, 2) := by decide +kernel
theorem dL_law_855 : decode cL_law 855 = .ok (.iconst 1, 1) := by decide +kernel
theorem dL_law_856 : decode cL_law 856 = .ok (.invokevirtual 206, 3) := by decide +kernel
theorem dL_law_859 : decode cL_law 859 = .ok (.ifCond .ne 29, 3) := by decide +kernel
theorem dL_law_862 : decode cL_law 862 = .ok (.aload 10, 2) := by decide +kernel
theorem dL_law_864 : decode cL_law 864 = .ok (.bipush 6, 2) := by decide +kernel
theorem dL_law_866 : decode cL_law 866 = .ok (.invokevirtual 38, 3) := by decide +kernel
theorem dL_law_869 : decode cL_law 869 = .ok (.iconst 2, 1) := by decide +kernel
theorem dL_law_870 : decode cL_law 870 = .ok (.if_icmp .ne 18, 3) := by decide +kernel
theorem dL_law_873 : decode cL_law 873 = .ok (.aload 10, 2) := by decide +kernel
theorem dL_law_875 : decode cL_law 875 = .ok (.aload 10, 2) := by decide +kernel
theorem dL_law_877 : decode cL_law 877 = .ok (.invokevirtual 235, 3) := by decide +kernel
theorem dL_law_880 : decode cL_law 880 = .ok (.ldc 238, 2) := by decide +kernel
theorem dL_law_882 : decode cL_law 882 = .ok (.invokestatic 222, 3) := by decide +kernel
theorem dL_law_885 : decode cL_law 885 = .ok (.ifCond .ne 5, 3) := by decide +kernel
theorem dL_law_888 : decode cL_law 888 = .ok (.iconst 0, 1) := by decide +kernel
theorem dL_law_889 : decode cL_law 889 = .ok (.ireturn, 1) := by decide +kernel
theorem dL_law_890 : decode cL_law 890 = .ok (.aload 10, 2) := by decide +kernel
theorem dL_law_892 : decode cL_law 892 = .ok (.invokevirtual 240, 3) := by decide +kernel
theorem dL_law_895 : decode cL_law 895 = .ok (.iconst 4, 1) := by decide +kernel
theorem dL_law_896 : decode cL_law 896 = .ok (.if_icmp .ne 126, 3) := by decide +kernel
theorem dL_law_899 : decode cL_law 899 = .ok (.aload 10, 2) := by decide +kernel
theorem dL_law_901 : decode cL_law 901 = .ok (.iconst 0, 1) := by decide +kernel
theorem dL_law_902 : decode cL_law 902 = .ok (.invokevirtual 243, 3) := by decide +kernel
theorem dL_law_905 : decode cL_law 905 = .ok (.iconst 4, 1) := by decide +kernel
theorem dL_law_906 : decode cL_law 906 = .ok (.if_icmp .ne 116, 3) := by decide +kernel
theorem dL_law_909 : decode cL_law 909 = .ok (.aload 10, 2) := by decide +kernel
theorem dL_law_911 : decode cL_law 911 = .ok (.iconst 5, 1) := by decide +kernel
theorem dL_law_912 : decode cL_law 912 = .ok (.invokevirtual 243, 3) := by decide +kernel
theorem dL_law_915 : decode cL_law 915 = .ok (.iconst 3, 1) := by decide +kernel
theorem dL_law_916 : decode cL_law 916 = .ok (.if_icmp .ne 106, 3) := by decide +kernel
theorem dL_law_919 : decode cL_law 919 = .ok (.aload 10, 2) := by decide +kernel
theorem dL_law_921 : decode cL_law 921 = .ok (.aload 10, 2) := by decide +kernel
theorem dL_law_923 : decode cL_law 923 = .ok (.iconst 4, 1) := by decide +kernel
theorem dL_law_924 : decode cL_law 924 = .ok (.invokevirtual 246, 3) := by decide +kernel
theorem dL_law_927 : decode cL_law 927 = .ok (.ldc 249, 2) := by decide +kernel
theorem dL_law_929 : decode cL_law 929 = .ok (.invokestatic 222, 3) := by decide +kernel
theorem dL_law_932 : decode cL_law 932 = .ok (.ifCond .eq 90, 3) := by decide +kernel
theorem dL_law_935 : decode cL_law 935 = .ok (.aload 10, 2) := by decide +kernel
theorem dL_law_937 : decode cL_law 937 = .ok (.aload 10, 2) := by decide +kernel
theorem dL_law_939 : decode cL_law 939 = .ok (.iconst 0, 1) := by decide +kernel
theorem dL_law_940 : decode cL_law 940 = .ok (.invokevirtual 246, 3) := by decide +kernel
theorem dL_law_943 : decode cL_law 943 = .ok (.ldc 251, 2) := by decide +kernel
theorem dL_law_945 : decode cL_law 945 = .ok (.invokestatic 222, 3) := by decide +kernel
theorem dL_law_948 : decode cL_law 948 = .ok (.ifCond .eq 74, 3) := by decide +kernel
theorem dL_law_951 : decode cL_law 951 = .ok (.aload 10, 2) := by decide +kernel
theorem dL_law_953 : decode cL_law 953 = .ok (.iconst 0, 1) := by decide +kernel
theorem dL_law_954 : decode cL_law 954 = .ok (.iconst 0, 1) := by decide +kernel
theorem dL_law_955 : decode cL_law 955 = .ok (.iload 9, 2) := by decide +kernel
theorem dL_law_957 : decode cL_law 957 = .ok (.invokevirtual 253, 3) := by decide +kernel
theorem dL_law_960 : decode cL_law 960 = .ok (.iload 9, 2) := by decide +kernel
theorem dL_law_962 : decode cL_law 962 = .ok (.iconst 3, 1) := by decide +kernel
theorem dL_law_963 : decode cL_law 963 = .ok (.irem, 1) := by decide +kernel
theorem dL_law_964 : decode cL_law 964 = .ok (.if_icmp .ne 58, 3) := by decide +kernel
theorem dL_law_967 : decode cL_law 967 = .ok (.aload 10, 2) := by decide +kernel
theorem dL_law_969 : decode cL_law 969 = .ok (.iconst 4, 1) := by decide +kernel
theorem dL_law_970 : decode cL_law 970 = .ok (.iconst 0, 1) := by decide +kernel
theorem dL_law_971 : decode cL_law 971 = .ok (.iload 9, 2) := by decide +kernel
theorem dL_law_973 : decode cL_law 973 = .ok (.invokevirtual 253, 3) := by decide +kernel
theorem dL_law_976 : decode cL_law 976 = .ok (.iconst 4, 1) := by decide +kernel
theorem dL_law_977 : decode cL_law 977 = .ok (.if_icmp .ne 45, 3) := by decide +kernel
theorem dL_law_980 : decode cL_law 980 = .ok (.aload 10, 2) := by decide +kernel
theorem dL_law_982 : decode cL_law 982 = .ok (.iconst 0, 1) := by decide +kernel
theorem dL_law_983 : decode cL_law 983 = .ok (.bipush 8, 2) := by decide +kernel
theorem dL_law_985 : decode cL_law 985 = .ok (.invokevirtual 257, 3) := by decide +kernel
theorem dL_law_988 : decode cL_law 988 = .ok (.iconst 2, 1) := by decide +kernel
theorem dL_law_989 : decode cL_law 989 = .ok (.if_icmp .ne 33, 3) := by decide +kernel
theorem dL_law_992 : decode cL_law 992 = .ok (.aload 10, 2) := by decide +kernel
theorem dL_law_994 : decode cL_law 994 = .ok (.invokevirtual 260, 3) := by decide +kernel
theorem dL_law_997 : decode cL_law 997 = .ok (.dconst 0, 1) := by decide +kernel
theorem dL_law_998 : decode cL_law 998 = .ok (.dcmp .l, 1) := by decide +kernel
theorem dL_law_999 : decode cL_law 999 = .ok (.ifCond .ne 23, 3) := by decide +kernel
theorem dL_law_1002 : decode cL_law 1002 = .ok (.aload 10, 2) := by decide +kernel
theorem dL_law_1004 : decode cL_law 1004 = .ok (.invokevirtual 264, 3) := by decide +kernel
theorem dL_law_1007 : decode cL_law 1007 = .ok (.fconst 1, 1) := by decide +kernel
theorem dL_law_1008 : decode cL_law 1008 = .ok (.fcmp .l, 1) := by decide +kernel
theorem dL_law_1009 : decode cL_law 1009 = .ok (.ifCond .ne 13, 3) := by decide +kernel
theorem dL_law_1012 : decode cL_law 1012 = .ok (.aload 10, 2) := by decide +kernel
theorem dL_law_1014 : decode cL_law 1014 = .ok (.iconst 5, 1) := by decide +kernel
theorem dL_law_1015 : decode cL_law 1015 = .ok (.invokevirtual 38, 3) := by decide +kernel
theorem dL_law_1018 : decode cL_law 1018 = .ok (.iconst 3, 1) := by decide +kernel
theorem dL_law_1019 : decode cL_law 1019 = .ok (.if_icmp .eq 5, 3) := by decide +kernel
theorem dL_law_1022 : decode cL_law 1022 = .ok (.iconst 0, 1) := by decide +kernel
theorem dL_law_1023 : decode cL_law 1023 = .ok (.ireturn, 1) := by decide +kernel
theorem dL_law_1024 : decode cL_law 1024 = .ok (.aload 10, 2) := by decide +kernel
theorem dL_law_1026 : decode cL_law 1026 = .ok (.iconst 0, 1) := by decide +kernel
theorem dL_law_1027 : decode cL_law 1027 = .ok (.bipush 108, 2) := by decide +kernel
theorem dL_law_1029 : decode cL_law 1029 = .ok (.invokevirtual 48, 3) := by decide +kernel
theorem dL_law_1032 : decode cL_law 1032 = .ok (.bipush 98, 2) := by decide +kernel
theorem dL_law_1034 : decode cL_law 1034 = .ok (.if_icmp .ne 95, 3) := by decide +kernel
theorem dL_law_1037 : decode cL_law 1037 = .ok (.aload 10, 2) := by decide +kernel
theorem dL_law_1039 : decode cL_law 1039 = .ok (.iconst 1, 1) := by decide +kernel
theorem dL_law_1040 : decode cL_law 1040 = .ok (.iconst 0, 1) := by decide +kernel
theorem dL_law_1041 : decode cL_law 1041 = .ok (.iconst 0, 1) := by decide +kernel
theorem dL_law_1042 : decode cL_law 1042 = .ok (.bipush 108, 2) := by decide +kernel
theorem dL_law_1044 : decode cL_law 1044 = .ok (.invokestatic 30, 3) := by decide +kernel
theorem dL_law_1047 : decode cL_law 1047 = .ok (.bipush (-2), 2) := by decide +kernel
theorem dL_law_1049 : decode cL_law 1049 = .ok (.if_icmp .ne 80, 3) := by decide +kernel
theorem dL_law_1052 : decode cL_law 1052 = .ok (.aload 10, 2) := by decide +kernel
theorem dL_law_1054 : decode cL_law 1054 = .ok (.iconst 0, 1) := by decide +kernel
theorem dL_law_1055 : decode cL_law 1055 = .ok (.invokevirtual 176, 3) := by decide +kernel
theorem dL_law_1058 : decode cL_law 1058 = .ok (.iconst 2, 1) := by decide +kernel
theorem dL_law_1059 : decode cL_law 1059 = .ok (.if_icmp .ne 70, 3) := by decide +kernel
theorem dL_law_1062 : decode cL_law 1062 = .ok (.aload 10, 2) := by decide +kernel
theorem dL_law_1064 : decode cL_law 1064 = .ok (.iconst 1, 1) := by decide +kernel
theorem dL_law_1065 : decode cL_law 1065 = .ok (.invokevirtual 176, 3) := by decide +kernel
theorem dL_law_1068 : decode cL_law 1068 = .ok (.ifCond .ne 61, 3) := by decide +kernel
theorem dL_law_1071 : decode cL_law 1071 = .ok (.aload 10, 2) := by decide +kernel
theorem dL_law_1073 : decode cL_law 1073 = .ok (.iconst 2, 1) := by decide +kernel
theorem dL_law_1074 : decode cL_law 1074 = .ok (.iconst 3, 1) := by decide +kernel
theorem dL_law_1075 : decode cL_law 1075 = .ok (.invokevirtual 44, 3) := by decide +kernel
theorem dL_law_1078 : decode cL_law 1078 = .ok (.bipush 6, 2) := by decide +kernel
theorem dL_law_1080 : decode cL_law 1080 = .ok (.if_icmp .ne 49, 3) := by decide +kernel
theorem dL_law_1083 : decode cL_law 1083 = .ok (.aload 10, 2) := by decide +kernel
theorem dL_law_1085 : decode cL_law 1085 = .ok (.bipush 6, 2) := by decide +kernel
theorem dL_law_1087 : decode cL_law 1087 = .ok (.invokevirtual 34, 3) := by decide +kernel
theorem dL_law_1090 : decode cL_law 1090 = .ok (.iconst 1, 1) := by decide +kernel
theorem dL_law_1091 : decode cL_law 1091 = .ok (.if_icmp .ne 38, 3) := by decide +kernel
theorem dL_law_1094 : decode cL_law 1094 = .ok (.aload 10, 2) := by decide +kernel
theorem dL_law_1096 : decode cL_law 1096 = .ok (.aload 10, 2) := by decide +kernel
theorem dL_law_1098 : decode cL_law 1098 = .ok (.invokevirtual 217, 3) := by decide +kernel
theorem dL_law_1101 : decode cL_law 1101 = .ok (.ldc_w 268, 3) := by decide +kernel
theorem dL_law_1104 : decode cL_law 1104 = .ok (.invokestatic 222, 3) := by decide +kernel
theorem dL_law_1107 : decode cL_law 1107 = .ok (.ifCond .eq 22, 3) := by decide +kernel
theorem dL_law_1110 : decode cL_law 1110 = .ok (.aload 10, 2) := by decide +kernel
theorem dL_law_1112 : decode cL_law 1112 = .ok (.iconst 2, 1) := by decide +kernel
theorem dL_law_1113 : decode cL_law 1113 = .ok (.invokevirtual 38, 3) := by decide +kernel
theorem dL_law_1116 : decode cL_law 1116 = .ok (.bipush 10, 2) := by decide +kernel
theorem dL_law_1118 : decode cL_law 1118 = .ok (.if_icmp .ne 11, 3) := by decide +kernel
theorem dL_law_1121 : decode cL_law 1121 = .ok (.aload 10, 2) := by decide +kernel
theorem dL_law_1123 : decode cL_law 1123 = .ok (.invokevirtual 270, 3) := by decide +kernel
theorem dL_law_1126 : decode cL_law 1126 = .ok (.ifCond .ne 5, 3) := by decide +kernel
theorem dL_law_1129 : decode cL_law 1129 = .ok (.iconst 0, 1) := by decide +kernel
theorem dL_law_1130 : decode cL_law 1130 = .ok (.ireturn, 1) := by decide +kernel
theorem dL_law_1131 : decode cL_law 1131 = .ok (.aload_n 1, 1) := by decide +kernel
theorem dL_law_1132 : decode cL_law 1132 = .ok (.invokevirtual 273, 3) := by decide +kernel
theorem dL_law_1135 : decode cL_law 1135 = .ok (.iload_n 3, 1) := by decide +kernel
theorem dL_law_1136 : decode cL_law 1136 = .ok (.if_icmp .ne 25, 3) := by decide +kernel
theorem dL_law_1139 : decode cL_law 1139 = .ok (.aload_n 1, 1) := by decide +kernel
theorem dL_law_1140 : decode cL_law 1140 = .ok (.bipush 9, 2) := by decide +kernel
theorem dL_law_1142 : decode cL_law 1142 = .ok (.invokevirtual 34, 3) := by decide +kernel
theorem dL_law_1145 : decode cL_law 1145 = .ok (.ifCond .ne 16, 3) := by decide +kernel
theorem dL_law_1148 : decode cL_law 1148 = .ok (.aload_n 1, 1) := by decide +kernel
theorem dL_law_1149 : decode cL_law 1149 = .ok (.invokestatic 148, 3) := by decide +kernel
theorem dL_law_1152 : decode cL_law 1152 = .ok (.iload 4, 2) := by decide +kernel
theorem dL_law_1154 : decode cL_law 1154 = .ok (.if_icmp .ne 7, 3) := by decide +kernel
theorem dL_law_1157 : decode cL_law 1157 = .ok (.iconst 1, 1) := by decide +kernel
theorem dL_law_1158 : decode cL_law 1158 = .ok (.goto 4, 3) := by decide +kernel
theorem dL_law_1161 : decode cL_law 1161 = .ok (.iconst 0, 1) := by decide +kernel
theorem dL_law_1162 : decode cL_law 1162 = .ok (.ireturn, 1) := by decide +kernel
