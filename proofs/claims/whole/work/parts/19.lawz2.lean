theorem d_Law_law_851 : decode b_Law_law 851 = .ok (.ireturn, 1) := by decide +kernel
theorem d_Law_law_852 : decode b_Law_law 852 = .ok (.iload 5, 2) := by decide +kernel
theorem d_Law_law_854 : decode b_Law_law 854 = .ok (.ifCond .ne 15, 3) := by decide +kernel
theorem d_Law_law_857 : decode b_Law_law 857 = .ok (.aload_n 3, 1) := by decide +kernel
theorem d_Law_law_858 : decode b_Law_law 858 = .ok (.iconst 0, 1) := by decide +kernel
theorem d_Law_law_859 : decode b_Law_law 859 = .ok (.laload, 1) := by decide +kernel
theorem d_Law_law_860 : decode b_Law_law 860 = .ok (.iload 6, 2) := by decide +kernel
theorem d_Law_law_862 : decode b_Law_law 862 = .ok (.i2l, 1) := by decide +kernel
theorem d_Law_law_863 : decode b_Law_law 863 = .ok (.lcmp, 1) := by decide +kernel
theorem d_Law_law_864 : decode b_Law_law 864 = .ok (.ifCond .eq 5, 3) := by decide +kernel
theorem d_Law_law_867 : decode b_Law_law 867 = .ok (.iconst 0, 1) := by decide +kernel
theorem d_Law_law_868 : decode b_Law_law 868 = .ok (.ireturn, 1) := by decide +kernel
theorem d_Law_law_869 : decode b_Law_law 869 = .ok (.goto 331, 3) := by decide +kernel
theorem d_Law_law_872 : decode b_Law_law 872 = .ok (.aload_n 1, 1) := by decide +kernel
theorem d_Law_law_873 : decode b_Law_law 873 = .ok (.aload_n 0, 1) := by decide +kernel
theorem d_Law_law_874 : decode b_Law_law 874 = .ok (.iload 4, 2) := by decide +kernel
theorem d_Law_law_876 : decode b_Law_law 876 = .ok (.iconst 1, 1) := by decide +kernel
theorem d_Law_law_877 : decode b_Law_law 877 = .ok (.iadd, 1) := by decide +kernel
theorem d_Law_law_878 : decode b_Law_law 878 = .ok (.iaload, 1) := by decide +kernel
theorem d_Law_law_879 : decode b_Law_law 879 = .ok (.aload_n 0, 1) := by decide +kernel
theorem d_Law_law_880 : decode b_Law_law 880 = .ok (.iload 4, 2) := by decide +kernel
theorem d_Law_law_882 : decode b_Law_law 882 = .ok (.iconst 2, 1) := by decide +kernel
theorem d_Law_law_883 : decode b_Law_law 883 = .ok (.iadd, 1) := by decide +kernel
theorem d_Law_law_884 : decode b_Law_law 884 = .ok (.iaload, 1) := by decide +kernel
theorem d_Law_law_885 : decode b_Law_law 885 = .ok (.aload_n 3, 1) := by decide +kernel
theorem d_Law_law_886 : decode b_Law_law 886 = .ok (.invokestatic 120, 3) := by decide +kernel
theorem d_Law_law_889 : decode b_Law_law 889 = .ok (.istore 5, 2) := by decide +kernel
theorem d_Law_law_891 : decode b_Law_law 891 = .ok (.aload_n 2, 1) := by decide +kernel
theorem d_Law_law_892 : decode b_Law_law 892 = .ok (.aload_n 0, 1) := by decide +kernel
theorem d_Law_law_893 : decode b_Law_law 893 = .ok (.iload 4, 2) := by decide +kernel
theorem d_Law_law_895 : decode b_Law_law 895 = .ok (.iconst 1, 1) := by decide +kernel
theorem d_Law_law_896 : decode b_Law_law 896 = .ok (.iadd, 1) := by decide +kernel
theorem d_Law_law_897 : decode b_Law_law 897 = .ok (.iaload, 1) := by decide +kernel
theorem d_Law_law_898 : decode b_Law_law 898 = .ok (.aload_n 0, 1) := by decide +kernel
theorem d_Law_law_899 : decode b_Law_law 899 = .ok (.iload 4, 2) := by decide +kernel
theorem d_Law_law_901 : decode b_Law_law 901 = .ok (.iconst 2, 1) := by decide +kernel
theorem d_Law_law_902 : decode b_Law_law 902 = .ok (.iadd, 1) := by decide +kernel
theorem d_Law_law_903 : decode b_Law_law 903 = .ok (.iaload, 1) := by decide +kernel
theorem d_Law_law_904 : decode b_Law_law 904 = .ok (.invokevirtual 122, 3) := by decide +kernel
theorem d_Law_law_907 : decode b_Law_law 907 = .ok (.istore 6, 2) := by decide +kernel
theorem d_Law_law_909 : decode b_Law_law 909 = .ok (.aload_n 2, 1) := by decide +kernel
theorem d_Law_law_910 : decode b_Law_law 910 = .ok (.invokevirtual 81, 3) := by decide +kernel
theorem d_Law_law_913 : decode b_Law_law 913 = .ok (.iload 5, 2) := by decide +kernel
theorem d_Law_law_915 : decode b_Law_law 915 = .ok (.if_icmp .eq 5, 3) := by decide +kernel
theorem d_Law_law_918 : decode b_Law_law 918 = .ok (.iconst 0, 1) := by decide +kernel
theorem d_Law_law_919 : decode b_Law_law 919 = .ok (.ireturn, 1) := by decide +kernel
theorem d_Law_law_920 : decode b_Law_law 920 = .ok (.iload 5, 2) := by decide +kernel
theorem d_Law_law_922 : decode b_Law_law 922 = .ok (.ifCond .ne 15, 3) := by decide +kernel
theorem d_Law_law_925 : decode b_Law_law 925 = .ok (.aload_n 3, 1) := by decide +kernel
theorem d_Law_law_926 : decode b_Law_law 926 = .ok (.iconst 0, 1) := by decide +kernel
theorem d_Law_law_927 : decode b_Law_law 927 = .ok (.laload, 1) := by decide +kernel
theorem d_Law_law_928 : decode b_Law_law 928 = .ok (.iload 6, 2) := by decide +kernel
theorem d_Law_law_930 : decode b_Law_law 930 = .ok (.i2l, 1) := by decide +kernel
theorem d_Law_law_931 : decode b_Law_law 931 = .ok (.lcmp, 1) := by decide +kernel
theorem d_Law_law_932 : decode b_Law_law 932 = .ok (.ifCond .eq 5, 3) := by decide +kernel
theorem d_Law_law_935 : decode b_Law_law 935 = .ok (.iconst 0, 1) := by decide +kernel
theorem d_Law_law_936 : decode b_Law_law 936 = .ok (.ireturn, 1) := by decide +kernel
theorem d_Law_law_937 : decode b_Law_law 937 = .ok (.goto 263, 3) := by decide +kernel
theorem d_Law_law_940 : decode b_Law_law 940 = .ok (.aload_n 1, 1) := by decide +kernel
theorem d_Law_law_941 : decode b_Law_law 941 = .ok (.aload_n 0, 1) := by decide +kernel
theorem d_Law_law_942 : decode b_Law_law 942 = .ok (.iload 4, 2) := by decide +kernel
theorem d_Law_law_944 : decode b_Law_law 944 = .ok (.iconst 1, 1) := by decide +kernel
theorem d_Law_law_945 : decode b_Law_law 945 = .ok (.iadd, 1) := by decide +kernel
theorem d_Law_law_946 : decode b_Law_law 946 = .ok (.iaload, 1) := by decide +kernel
theorem d_Law_law_947 : decode b_Law_law 947 = .ok (.aload_n 0, 1) := by decide +kernel
theorem d_Law_law_948 : decode b_Law_law 948 = .ok (.iload 4, 2) := by decide +kernel
theorem d_Law_law_950 : decode b_Law_law 950 = .ok (.iconst 2, 1) := by decide +kernel
theorem d_Law_law_951 : decode b_Law_law 951 = .ok (.iadd, 1) := by decide +kernel
theorem d_Law_law_952 : decode b_Law_law 952 = .ok (.iaload, 1) := by decide +kernel
theorem d_Law_law_953 : decode b_Law_law 953 = .ok (.aload_n 0, 1) := by decide +kernel
theorem d_Law_law_954 : decode b_Law_law 954 = .ok (.iload 4, 2) := by decide +kernel
theorem d_Law_law_956 : decode b_Law_law 956 = .ok (.iconst 3, 1) := by decide +kernel
theorem d_Law_law_957 : decode b_Law_law 957 = .ok (.iadd, 1) := by decide +kernel
theorem d_Law_law_958 : decode b_Law_law 958 = .ok (.iaload, 1) := by decide +kernel
theorem d_Law_law_959 : decode b_Law_law 959 = .ok (.aload_n 3, 1) := by decide +kernel
theorem d_Law_law_960 : decode b_Law_law 960 = .ok (.invokestatic 123, 3) := by decide +kernel
theorem d_Law_law_963 : decode b_Law_law 963 = .ok (.istore 5, 2) := by decide +kernel
theorem d_Law_law_965 : decode b_Law_law 965 = .ok (.aload_n 2, 1) := by decide +kernel
theorem d_Law_law_966 : decode b_Law_law 966 = .ok (.aload_n 0, 1) := by decide +kernel
theorem d_Law_law_967 : decode b_Law_law 967 = .ok (.iload 4, 2) := by decide +kernel
theorem d_Law_law_969 : decode b_Law_law 969 = .ok (.iconst 1, 1) := by decide +kernel
theorem d_Law_law_970 : decode b_Law_law 970 = .ok (.iadd, 1) := by decide +kernel
theorem d_Law_law_971 : decode b_Law_law 971 = .ok (.iaload, 1) := by decide +kernel
theorem d_Law_law_972 : decode b_Law_law 972 = .ok (.aload_n 0, 1) := by decide +kernel
theorem d_Law_law_973 : decode b_Law_law 973 = .ok (.iload 4, 2) := by decide +kernel
theorem d_Law_law_975 : decode b_Law_law 975 = .ok (.iconst 2, 1) := by decide +kernel
theorem d_Law_law_976 : decode b_Law_law 976 = .ok (.iadd, 1) := by decide +kernel
theorem d_Law_law_977 : decode b_Law_law 977 = .ok (.iaload, 1) := by decide +kernel
theorem d_Law_law_978 : decode b_Law_law 978 = .ok (.aload_n 0, 1) := by decide +kernel
theorem d_Law_law_979 : decode b_Law_law 979 = .ok (.iload 4, 2) := by decide +kernel
theorem d_Law_law_981 : decode b_Law_law 981 = .ok (.iconst 3, 1) := by decide +kernel
theorem d_Law_law_982 : decode b_Law_law 982 = .ok (.iadd, 1) := by decide +kernel
theorem d_Law_law_983 : decode b_Law_law 983 = .ok (.iaload, 1) := by decide +kernel
theorem d_Law_law_984 : decode b_Law_law 984 = .ok (.invokevirtual 125, 3) := by decide +kernel
theorem d_Law_law_987 : decode b_Law_law 987 = .ok (.istore 6, 2) := by decide +kernel
theorem d_Law_law_989 : decode b_Law_law 989 = .ok (.aload_n 2, 1) := by decide +kernel
theorem d_Law_law_990 : decode b_Law_law 990 = .ok (.invokevirtual 81, 3) := by decide +kernel
theorem d_Law_law_993 : decode b_Law_law 993 = .ok (.iload 5, 2) := by decide +kernel
theorem d_Law_law_995 : decode b_Law_law 995 = .ok (.if_icmp .eq 5, 3) := by decide +kernel
theorem d_Law_law_998 : decode b_Law_law 998 = .ok (.iconst 0, 1) := by decide +kernel
theorem d_Law_law_999 : decode b_Law_law 999 = .ok (.ireturn, 1) := by decide +kernel
theorem d_Law_law_1000 : decode b_Law_law 1000 = .ok (.iload 5, 2) := by decide +kernel
theorem d_Law_law_1002 : decode b_Law_law 1002 = .ok (.ifCond .ne 15, 3) := by decide +kernel
theorem d_Law_law_1005 : decode b_Law_law 1005 = .ok (.aload_n 3, 1) := by decide +kernel
theorem d_Law_law_1006 : decode b_Law_law 1006 = .ok (.iconst 0, 1) := by decide +kernel
theorem d_Law_law_1007 : decode b_Law_law 1007 = .ok (.laload, 1) := by decide +kernel
theorem d_Law_law_1008 : decode b_Law_law 1008 = .ok (.iload 6, 2) := by decide +kernel
theorem d_Law_law_1010 : decode b_Law_law 1010 = .ok (.i2l, 1) := by decide +kernel
theorem d_Law_law_1011 : decode b_Law_law 1011 = .ok (.lcmp, 1) := by decide +kernel
theorem d_Law_law_1012 : decode b_Law_law 1012 = .ok (.ifCond .eq 5, 3) := by decide +kernel
theorem d_Law_law_1015 : decode b_Law_law 1015 = .ok (.iconst 0, 1) := by decide +kernel
theorem d_Law_law_1016 : decode b_Law_law 1016 = .ok (.ireturn, 1) := by decide +kernel
theorem d_Law_law_1017 : decode b_Law_law 1017 = .ok (.goto 183, 3) := by decide +kernel
theorem d_Law_law_1020 : decode b_Law_law 1020 = .ok (.aload_n 1, 1) := by decide +kernel
theorem d_Law_law_1021 : decode b_Law_law 1021 = .ok (.invokevirtual 126, 3) := by decide +kernel
theorem d_Law_law_1024 : decode b_Law_law 1024 = .ok (.aload_n 2, 1) := by decide +kernel
theorem d_Law_law_1025 : decode b_Law_law 1025 = .ok (.invokevirtual 129, 3) := by decide +kernel
theorem d_Law_law_1028 : decode b_Law_law 1028 = .ok (.if_icmp .eq 172, 3) := by decide +kernel
theorem d_Law_law_1031 : decode b_Law_law 1031 = .ok (.iconst 0, 1) := by decide +kernel
theorem d_Law_law_1032 : decode b_Law_law 1032 = .ok (.ireturn, 1) := by decide +kernel
theorem d_Law_law_1033 : decode b_Law_law 1033 = .ok (.aload_n 1, 1) := by decide +kernel
theorem d_Law_law_1034 : decode b_Law_law 1034 = .ok (.aload_n 0, 1) := by decide +kernel
theorem d_Law_law_1035 : decode b_Law_law 1035 = .ok (.iload 4, 2) := by decide +kernel
theorem d_Law_law_1037 : decode b_Law_law 1037 = .ok (.iconst 1, 1) := by decide +kernel
theorem d_Law_law_1038 : decode b_Law_law 1038 = .ok (.iadd, 1) := by decide +kernel
theorem d_Law_law_1039 : decode b_Law_law 1039 = .ok (.iaload, 1) := by decide +kernel
theorem d_Law_law_1040 : decode b_Law_law 1040 = .ok (.aload_n 3, 1) := by decide +kernel
theorem d_Law_law_1041 : decode b_Law_law 1041 = .ok (.invokestatic 130, 3) := by decide +kernel
theorem d_Law_law_1044 : decode b_Law_law 1044 = .ok (.istore 5, 2) := by decide +kernel
theorem d_Law_law_1046 : decode b_Law_law 1046 = .ok (.aload_n 2, 1) := by decide +kernel
theorem d_Law_law_1047 : decode b_Law_law 1047 = .ok (.aload_n 0, 1) := by decide +kernel
theorem d_Law_law_1048 : decode b_Law_law 1048 = .ok (.iload 4, 2) := by decide +kernel
theorem d_Law_law_1050 : decode b_Law_law 1050 = .ok (.iconst 1, 1) := by decide +kernel
theorem d_Law_law_1051 : decode b_Law_law 1051 = .ok (.iadd, 1) := by decide +kernel
theorem d_Law_law_1052 : decode b_Law_law 1052 = .ok (.iaload, 1) := by decide +kernel
theorem d_Law_law_1053 : decode b_Law_law 1053 = .ok (.invokevirtual 132, 3) := by decide +kernel
theorem d_Law_law_1056 : decode b_Law_law 1056 = .ok (.istore 6, 2) := by decide +kernel
theorem d_Law_law_1058 : decode b_Law_law 1058 = .ok (.aload_n 2, 1) := by decide +kernel
theorem d_Law_law_1059 : decode b_Law_law 1059 = .ok (.invokevirtual 81, 3) := by decide +kernel
theorem d_Law_law_1062 : decode b_Law_law 1062 = .ok (.iload 5, 2) := by decide +kernel
theorem d_Law_law_1064 : decode b_Law_law 1064 = .ok (.if_icmp .eq 5, 3) := by decide +kernel
theorem d_Law_law_1067 : decode b_Law_law 1067 = .ok (.iconst 0, 1) := by decide +kernel
theorem d_Law_law_1068 : decode b_Law_law 1068 = .ok (.ireturn, 1) := by decide +kernel
theorem d_Law_law_1069 : decode b_Law_law 1069 = .ok (.iload 5, 2) := by decide +kernel
theorem d_Law_law_1071 : decode b_Law_law 1071 = .ok (.ifCond .ne 15, 3) := by decide +kernel
theorem d_Law_law_1074 : decode b_Law_law 1074 = .ok (.aload_n 3, 1) := by decide +kernel
theorem d_Law_law_1075 : decode b_Law_law 1075 = .ok (.iconst 0, 1) := by decide +kernel
theorem d_Law_law_1076 : decode b_Law_law 1076 = .ok (.laload, 1) := by decide +kernel
theorem d_Law_law_1077 : decode b_Law_law 1077 = .ok (.iload 6, 2) := by decide +kernel
theorem d_Law_law_1079 : decode b_Law_law 1079 = .ok (.i2l, 1) := by decide +kernel
theorem d_Law_law_1080 : decode b_Law_law 1080 = .ok (.lcmp, 1) := by decide +kernel
theorem d_Law_law_1081 : decode b_Law_law 1081 = .ok (.ifCond .eq 5, 3) := by decide +kernel
theorem d_Law_law_1084 : decode b_Law_law 1084 = .ok (.iconst 0, 1) := by decide +kernel
theorem d_Law_law_1085 : decode b_Law_law 1085 = .ok (.ireturn, 1) := by decide +kernel
theorem d_Law_law_1086 : decode b_Law_law 1086 = .ok (.goto 114, 3) := by decide +kernel
theorem d_Law_law_1089 : decode b_Law_law 1089 = .ok (.aload_n 1, 1) := by decide +kernel
theorem d_Law_law_1090 : decode b_Law_law 1090 = .ok (.aload_n 0, 1) := by decide +kernel
theorem d_Law_law_1091 : decode b_Law_law 1091 = .ok (.iload 4, 2) := by decide +kernel
theorem d_Law_law_1093 : decode b_Law_law 1093 = .ok (.iconst 1, 1) := by decide +kernel
theorem d_Law_law_1094 : decode b_Law_law 1094 = .ok (.iadd, 1) := by decide +kernel
theorem d_Law_law_1095 : decode b_Law_law 1095 = .ok (.iaload, 1) := by decide +kernel
theorem d_Law_law_1096 : decode b_Law_law 1096 = .ok (.aload_n 3, 1) := by decide +kernel
theorem d_Law_law_1097 : decode b_Law_law 1097 = .ok (.invokestatic 133, 3) := by decide +kernel
theorem d_Law_law_1100 : decode b_Law_law 1100 = .ok (.istore 5, 2) := by decide +kernel
theorem d_Law_law_1102 : decode b_Law_law 1102 = .ok (.aload_n 2, 1) := by decide +kernel
theorem d_Law_law_1103 : decode b_Law_law 1103 = .ok (.aload_n 0, 1) := by decide +kernel
theorem d_Law_law_1104 : decode b_Law_law 1104 = .ok (.iload 4, 2) := by decide +kernel
theorem d_Law_law_1106 : decode b_Law_law 1106 = .ok (.iconst 1, 1) := by decide +kernel
theorem d_Law_law_1107 : decode b_Law_law 1107 = .ok (.iadd, 1) := by decide +kernel
theorem d_Law_law_1108 : decode b_Law_law 1108 = .ok (.iaload, 1) := by decide +kernel
theorem d_Law_law_1109 : decode b_Law_law 1109 = .ok (.invokevirtual 135, 3) := by decide +kernel
theorem d_Law_law_1112 : decode b_Law_law 1112 = .ok (.lstore 6, 2) := by decide +kernel
theorem d_Law_law_1114 : decode b_Law_law 1114 = .ok (.aload_n 2, 1) := by decide +kernel
theorem d_Law_law_1115 : decode b_Law_law 1115 = .ok (.invokevirtual 81, 3) := by decide +kernel
theorem d_Law_law_1118 : decode b_Law_law 1118 = .ok (.iload 5, 2) := by decide +kernel
theorem d_Law_law_1120 : decode b_Law_law 1120 = .ok (.if_icmp .eq 5, 3) := by decide +kernel
theorem d_Law_law_1123 : decode b_Law_law 1123 = .ok (.iconst 0, 1) := by decide +kernel
theorem d_Law_law_1124 : decode b_Law_law 1124 = .ok (.ireturn, 1) := by decide +kernel
theorem d_Law_law_1125 : decode b_Law_law 1125 = .ok (.iload 5, 2) := by decide +kernel
theorem d_Law_law_1127 : decode b_Law_law 1127 = .ok (.ifCond .ne 14, 3) := by decide +kernel
theorem d_Law_law_1130 : decode b_Law_law 1130 = .ok (.aload_n 3, 1) := by decide +kernel
theorem d_Law_law_1131 : decode b_Law_law 1131 = .ok (.iconst 0, 1) := by decide +kernel
theorem d_Law_law_1132 : decode b_Law_law 1132 = .ok (.laload, 1) := by decide +kernel
theorem d_Law_law_1133 : decode b_Law_law 1133 = .ok (.lload 6, 2) := by decide +kernel
theorem d_Law_law_1135 : decode b_Law_law 1135 = .ok (.lcmp, 1) := by decide +kernel
theorem d_Law_law_1136 : decode b_Law_law 1136 = .ok (.ifCond .eq 5, 3) := by decide +kernel
theorem d_Law_law_1139 : decode b_Law_law 1139 = .ok (.iconst 0, 1) := by decide +kernel
theorem d_Law_law_1140 : decode b_Law_law 1140 = .ok (.ireturn, 1) := by decide +kernel
theorem d_Law_law_1141 : decode b_Law_law 1141 = .ok (.goto 59, 3) := by decide +kernel
theorem d_Law_law_1144 : decode b_Law_law 1144 = .ok (.aload_n 1, 1) := by decide +kernel
theorem d_Law_law_1145 : decode b_Law_law 1145 = .ok (.aload_n 0, 1) := by decide +kernel
theorem d_Law_law_1146 : decode b_Law_law 1146 = .ok (.iload 4, 2) := by decide +kernel
theorem d_Law_law_1148 : decode b_Law_law 1148 = .ok (.iconst 1, 1) := by decide +kernel
theorem d_Law_law_1149 : decode b_Law_law 1149 = .ok (.iadd, 1) := by decide +kernel
theorem d_Law_law_1150 : decode b_Law_law 1150 = .ok (.iaload, 1) := by decide +kernel
theorem d_Law_law_1151 : decode b_Law_law 1151 = .ok (.aload_n 3, 1) := by decide +kernel
theorem d_Law_law_1152 : decode b_Law_law 1152 = .ok (.invokestatic 136, 3) := by decide +kernel
theorem d_Law_law_1155 : decode b_Law_law 1155 = .ok (.istore 5, 2) := by decide +kernel
theorem d_Law_law_1157 : decode b_Law_law 1157 = .ok (.aload_n 2, 1) := by decide +kernel
theorem d_Law_law_1158 : decode b_Law_law 1158 = .ok (.aload_n 0, 1) := by decide +kernel
theorem d_Law_law_1159 : decode b_Law_law 1159 = .ok (.iload 4, 2) := by decide +kernel
theorem d_Law_law_1161 : decode b_Law_law 1161 = .ok (.iconst 1, 1) := by decide +kernel
theorem d_Law_law_1162 : decode b_Law_law 1162 = .ok (.iadd, 1) := by decide +kernel
theorem d_Law_law_1163 : decode b_Law_law 1163 = .ok (.iaload, 1) := by decide +kernel
theorem d_Law_law_1164 : decode b_Law_law 1164 = .ok (.invokevirtual 138, 3) := by decide +kernel
theorem d_Law_law_1167 : decode b_Law_law 1167 = .ok (.istore 6, 2) := by decide +kernel
theorem d_Law_law_1169 : decode b_Law_law 1169 = .ok (.aload_n 2, 1) := by decide +kernel
theorem d_Law_law_1170 : decode b_Law_law 1170 = .ok (.invokevirtual 81, 3) := by decide +kernel
theorem d_Law_law_1173 : decode b_Law_law 1173 = .ok (.iload 5, 2) := by decide +kernel
theorem d_Law_law_1175 : decode b_Law_law 1175 = .ok (.if_icmp .eq 5, 3) := by decide +kernel
theorem d_Law_law_1178 : decode b_Law_law 1178 = .ok (.iconst 0, 1) := by decide +kernel
theorem d_Law_law_1179 : decode b_Law_law 1179 = .ok (.ireturn, 1) := by decide +kernel
theorem d_Law_law_1180 : decode b_Law_law 1180 = .ok (.iload 5, 2) := by decide +kernel
theorem d_Law_law_1182 : decode b_Law_law 1182 = .ok (.ifCond .ne 15, 3) := by decide +kernel
theorem d_Law_law_1185 : decode b_Law_law 1185 = .ok (.aload_n 3, 1) := by decide +kernel
theorem d_Law_law_1186 : decode b_Law_law 1186 = .ok (.iconst 0, 1) := by decide +kernel
theorem d_Law_law_1187 : decode b_Law_law 1187 = .ok (.laload, 1) := by decide +kernel
theorem d_Law_law_1188 : decode b_Law_law 1188 = .ok (.iload 6, 2) := by decide +kernel
theorem d_Law_law_1190 : decode b_Law_law 1190 = .ok (.i2l, 1) := by decide +kernel
theorem d_Law_law_1191 : decode b_Law_law 1191 = .ok (.lcmp, 1) := by decide +kernel
theorem d_Law_law_1192 : decode b_Law_law 1192 = .ok (.ifCond .eq 5, 3) := by decide +kernel
theorem d_Law_law_1195 : decode b_Law_law 1195 = .ok (.iconst 0, 1) := by decide +kernel
theorem d_Law_law_1196 : decode b_Law_law 1196 = .ok (.ireturn, 1) := by decide +kernel
theorem d_Law_law_1197 : decode b_Law_law 1197 = .ok (.goto 3, 3) := by decide +kernel
theorem d_Law_law_1200 : decode b_Law_law 1200 = .ok (.iinc 4 5, 3) := by decide +kernel
theorem d_Law_law_1203 : decode b_Law_law 1203 = .ok (.goto (-1160), 3) := by decide +kernel
theorem d_Law_law_1206 : decode b_Law_law 1206 = .ok (.iconst 1, 1) := by decide +kernel
theorem d_Law_law_1207 : decode b_Law_law 1207 = .ok (.ireturn, 1) := by decide +kernel
theorem d_Law_cell1_0 : decode b_Law_cell1 0 = .ok (.iload_n 1, 1) := by decide +kernel
theorem d_Law_cell1_1 : decode b_Law_cell1 1 = .ok (.aload_n 0, 1) := by decide +kernel
theorem d_Law_cell1_2 : decode b_Law_cell1 2 = .ok (.arraylength, 1) := by decide +kernel
theorem d_Law_cell1_3 : decode b_Law_cell1 3 = .ok (.if_icmp .ge 9, 3) := by decide +kernel
theorem d_Law_cell1_6 : decode b_Law_cell1 6 = .ok (.aload_n 0, 1) := by decide +kernel
theorem d_Law_cell1_7 : decode b_Law_cell1 7 = .ok (.iload_n 1, 1) := by decide +kernel
theorem d_Law_cell1_8 : decode b_Law_cell1 8 = .ok (.iaload, 1) := by decide +kernel
theorem d_Law_cell1_9 : decode b_Law_cell1 9 = .ok (.goto 4, 3) := by decide +kernel
theorem d_Law_cell1_12 : decode b_Law_cell1 12 = .ok (.iconst 0, 1) := by decide +kernel
theorem d_Law_cell1_13 : decode b_Law_cell1 13 = .ok (.ireturn, 1) := by decide +kernel
