theorem dL_law_821 : decode cL_law 821 = .ok (.iload 10, 2) := by decide +kernel
theorem dL_law_823 : decode cL_law 823 = .ok (.ifCond .le 21, 3) := by decide +kernel
theorem dL_law_826 : decode cL_law 826 = .ok (.aload_n 1, 1) := by decide +kernel
theorem dL_law_827 : decode cL_law 827 = .ok (.iconst 1, 1) := by decide +kernel
theorem dL_law_828 : decode cL_law 828 = .ok (.iload 4, 2) := by decide +kernel
theorem dL_law_830 : decode cL_law 830 = .ok (.iconst 3, 1) := by decide +kernel
theorem dL_law_831 : decode cL_law 831 = .ok (.ishr, 1) := by decide +kernel
theorem dL_law_832 : decode cL_law 832 = .ok (.iload 10, 2) := by decide +kernel
theorem dL_law_834 : decode cL_law 834 = .ok (.invokestatic 15, 3) := by decide +kernel
theorem dL_law_837 : decode cL_law 837 = .ok (.iadd, 1) := by decide +kernel
theorem dL_law_838 : decode cL_law 838 = .ok (.invokevirtual 126, 3) := by decide +kernel
theorem dL_law_841 : decode cL_law 841 = .ok (.ifCond .lt 100, 3) := by decide +kernel
theorem dL_law_844 : decode cL_law 844 = .ok (.iload 11, 2) := by decide +kernel
theorem dL_law_846 : decode cL_law 846 = .ok (.sipush 300, 3) := by decide +kernel
theorem dL_law_849 : decode cL_law 849 = .ok (.if_icmp .ge 14, 3) := by decide +kernel
theorem dL_law_852 : decode cL_law 852 = .ok (.aload_n 1, 1) := by decide +kernel
theorem dL_law_853 : decode cL_law 853 = .ok (.iload 11, 2) := by decide +kernel
theorem dL_law_855 : decode cL_law 855 = .ok (.iconst 1, 1) := by decide +kernel
theorem dL_law_856 : decode cL_law 856 = .ok (.iadd, 1) := by decide +kernel
theorem dL_law_857 : decode cL_law 857 = .ok (.invokevirtual 120, 3) := by decide +kernel
theorem dL_law_860 : decode cL_law 860 = .ok (.ifCond .ne 81, 3) := by decide +kernel
theorem dL_law_863 : decode cL_law 863 = .ok (.iload 11, 2) := by decide +kernel
theorem dL_law_865 : decode cL_law 865 = .ok (.ifCond .le 21, 3) := by decide +kernel
theorem dL_law_868 : decode cL_law 868 = .ok (.aload_n 1, 1) := by decide +kernel
theorem dL_law_869 : decode cL_law 869 = .ok (.iconst 1, 1) := by decide +kernel
theorem dL_law_870 : decode cL_law 870 = .ok (.iload 4, 2) := by decide +kernel
theorem dL_law_872 : decode cL_law 872 = .ok (.iconst 5, 1) := by decide +kernel
theorem dL_law_873 : decode cL_law 873 = .ok (.ishr, 1) := by decide +kernel
theorem dL_law_874 : decode cL_law 874 = .ok (.iload 11, 2) := by decide +kernel
theorem dL_law_876 : decode cL_law 876 = .ok (.invokestatic 15, 3) := by decide +kernel
theorem dL_law_879 : decode cL_law 879 = .ok (.iadd, 1) := by decide +kernel
theorem dL_law_880 : decode cL_law 880 = .ok (.invokevirtual 120, 3) := by decide +kernel
theorem dL_law_883 : decode cL_law 883 = .ok (.ifCond .eq 58, 3) := by decide +kernel
theorem dL_law_886 : decode cL_law 886 = .ok (.aload_n 1, 1) := by decide +kernel
theorem dL_law_887 : decode cL_law 887 = .ok (.iconst 1, 1) := by decide +kernel
theorem dL_law_888 : decode cL_law 888 = .ok (.invokevirtual 132, 3) := by decide +kernel
theorem dL_law_891 : decode cL_law 891 = .ok (.iload 10, 2) := by decide +kernel
theorem dL_law_893 : decode cL_law 893 = .ok (.sipush 300, 3) := by decide +kernel
theorem dL_law_896 : decode cL_law 896 = .ok (.if_icmp .ne 7, 3) := by decide +kernel
theorem dL_law_899 : decode cL_law 899 = .ok (.iconst (-1), 1) := by decide +kernel
theorem dL_law_900 : decode cL_law 900 = .ok (.goto 7, 3) := by decide +kernel
theorem dL_law_903 : decode cL_law 903 = .ok (.iload 10, 2) := by decide +kernel
theorem dL_law_905 : decode cL_law 905 = .ok (.iconst 1, 1) := by decide +kernel
theorem dL_law_906 : decode cL_law 906 = .ok (.iadd, 1) := by decide +kernel
theorem dL_law_907 : decode cL_law 907 = .ok (.if_icmp .ne 34, 3) := by decide +kernel
theorem dL_law_910 : decode cL_law 910 = .ok (.aload_n 1, 1) := by decide +kernel
theorem dL_law_911 : decode cL_law 911 = .ok (.iload 8, 2) := by decide +kernel
theorem dL_law_913 : decode cL_law 913 = .ok (.invokevirtual 144, 3) := by decide +kernel
theorem dL_law_916 : decode cL_law 916 = .ok (.iload 10, 2) := by decide +kernel
theorem dL_law_918 : decode cL_law 918 = .ok (.if_icmp .ne 23, 3) := by decide +kernel
theorem dL_law_921 : decode cL_law 921 = .ok (.iload 8, 2) := by decide +kernel
theorem dL_law_923 : decode cL_law 923 = .ok (.bipush 12, 2) := by decide +kernel
theorem dL_law_925 : decode cL_law 925 = .ok (.if_icmp .ge 18, 3) := by decide +kernel
theorem dL_law_928 : decode cL_law 928 = .ok (.aload_n 1, 1) := by decide +kernel
theorem dL_law_929 : decode cL_law 929 = .ok (.iload 8, 2) := by decide +kernel
theorem dL_law_931 : decode cL_law 931 = .ok (.iconst 1, 1) := by decide +kernel
theorem dL_law_932 : decode cL_law 932 = .ok (.iadd, 1) := by decide +kernel
theorem dL_law_933 : decode cL_law 933 = .ok (.invokevirtual 144, 3) := by decide +kernel
theorem dL_law_936 : decode cL_law 936 = .ok (.iload 10, 2) := by decide +kernel
theorem dL_law_938 : decode cL_law 938 = .ok (.if_icmp .ge 5, 3) := by decide +kernel
theorem dL_law_941 : decode cL_law 941 = .ok (.iconst 0, 1) := by decide +kernel
theorem dL_law_942 : decode cL_law 942 = .ok (.ireturn, 1) := by decide +kernel
theorem dL_law_943 : decode cL_law 943 = .ok (.aload_n 1, 1) := by decide +kernel
theorem dL_law_944 : decode cL_law 944 = .ok (.invokevirtual 147, 3) := by decide +kernel
theorem dL_law_947 : decode cL_law 947 = .ok (.istore 12, 2) := by decide +kernel
theorem dL_law_949 : decode cL_law 949 = .ok (.aload_n 1, 1) := by decide +kernel
theorem dL_law_950 : decode cL_law 950 = .ok (.invokevirtual 150, 3) := by decide +kernel
theorem dL_law_953 : decode cL_law 953 = .ok (.istore 13, 2) := by decide +kernel
theorem dL_law_955 : decode cL_law 955 = .ok (.iload 12, 2) := by decide +kernel
theorem dL_law_957 : decode cL_law 957 = .ok (.iconst 1, 1) := by decide +kernel
theorem dL_law_958 : decode cL_law 958 = .ok (.if_icmp .lt 68, 3) := by decide +kernel
theorem dL_law_961 : decode cL_law 961 = .ok (.iload 12, 2) := by decide +kernel
theorem dL_law_963 : decode cL_law 963 = .ok (.bipush 60, 2) := by decide +kernel
theorem dL_law_965 : decode cL_law 965 = .ok (.if_icmp .gt 61, 3) := by decide +kernel
theorem dL_law_968 : decode cL_law 968 = .ok (.aload_n 2, 1) := by decide +kernel
theorem dL_law_969 : decode cL_law 969 = .ok (.iload 12, 2) := by decide +kernel
theorem dL_law_971 : decode cL_law 971 = .ok (.invokevirtual 21, 3) := by decide +kernel
theorem dL_law_974 : decode cL_law 974 = .ok (.ifCond .ne 52, 3) := by decide +kernel
theorem dL_law_977 : decode cL_law 977 = .ok (.aload_n 2, 1) := by decide +kernel
theorem dL_law_978 : decode cL_law 978 = .ok (.iload 8, 2) := by decide +kernel
theorem dL_law_980 : decode cL_law 980 = .ok (.iload 12, 2) := by decide +kernel
theorem dL_law_982 : decode cL_law 982 = .ok (.invokevirtual 153, 3) := by decide +kernel
theorem dL_law_985 : decode cL_law 985 = .ok (.invokestatic 156, 3) := by decide +kernel
theorem dL_law_988 : decode cL_law 988 = .ok (.iload 10, 2) := by decide +kernel
theorem dL_law_990 : decode cL_law 990 = .ok (.if_icmp .lt 36, 3) := by decide +kernel
theorem dL_law_993 : decode cL_law 993 = .ok (.iload 13, 2) := by decide +kernel
theorem dL_law_995 : decode cL_law 995 = .ok (.ifCond .ge 7, 3) := by decide +kernel
theorem dL_law_998 : decode cL_law 998 = .ok (.iconst 1, 1) := by decide +kernel
theorem dL_law_999 : decode cL_law 999 = .ok (.goto 4, 3) := by decide +kernel
theorem dL_law_1002 : decode cL_law 1002 = .ok (.iconst 0, 1) := by decide +kernel
theorem dL_law_1003 : decode cL_law 1003 = .ok (.iload 7, 2) := by decide +kernel
theorem dL_law_1005 : decode cL_law 1005 = .ok (.ifCond .ne 7, 3) := by decide +kernel
theorem dL_law_1008 : decode cL_law 1008 = .ok (.iconst 1, 1) := by decide +kernel
theorem dL_law_1009 : decode cL_law 1009 = .ok (.goto 4, 3) := by decide +kernel
theorem dL_law_1012 : decode cL_law 1012 = .ok (.iconst 0, 1) := by decide +kernel
theorem dL_law_1013 : decode cL_law 1013 = .ok (.if_icmp .ne 13, 3) := by decide +kernel
theorem dL_law_1016 : decode cL_law 1016 = .ok (.aload_n 1, 1) := by decide +kernel
theorem dL_law_1017 : decode cL_law 1017 = .ok (.invokevirtual 76, 3) := by decide +kernel
theorem dL_law_1020 : decode cL_law 1020 = .ok (.lload 5, 2) := by decide +kernel
theorem dL_law_1022 : decode cL_law 1022 = .ok (.lcmp, 1) := by decide +kernel
theorem dL_law_1023 : decode cL_law 1023 = .ok (.ifCond .eq 5, 3) := by decide +kernel
theorem dL_law_1026 : decode cL_law 1026 = .ok (.iconst 0, 1) := by decide +kernel
theorem dL_law_1027 : decode cL_law 1027 = .ok (.ireturn, 1) := by decide +kernel
theorem dL_law_1028 : decode cL_law 1028 = .ok (.iload 7, 2) := by decide +kernel
theorem dL_law_1030 : decode cL_law 1030 = .ok (.ifCond .le 27, 3) := by decide +kernel
theorem dL_law_1033 : decode cL_law 1033 = .ok (.aload_n 2, 1) := by decide +kernel
theorem dL_law_1034 : decode cL_law 1034 = .ok (.iload 4, 2) := by decide +kernel
theorem dL_law_1036 : decode cL_law 1036 = .ok (.iconst 4, 1) := by decide +kernel
theorem dL_law_1037 : decode cL_law 1037 = .ok (.ishr, 1) := by decide +kernel
theorem dL_law_1038 : decode cL_law 1038 = .ok (.iload 7, 2) := by decide +kernel
theorem dL_law_1040 : decode cL_law 1040 = .ok (.invokestatic 15, 3) := by decide +kernel
theorem dL_law_1043 : decode cL_law 1043 = .ok (.invokestatic 159, 3) := by decide +kernel
theorem dL_law_1046 : decode cL_law 1046 = .ok (.aload_n 2, 1) := by decide +kernel
theorem dL_law_1047 : decode cL_law 1047 = .ok (.iload 13, 2) := by decide +kernel
theorem dL_law_1049 : decode cL_law 1049 = .ok (.invokestatic 159, 3) := by decide +kernel
theorem dL_law_1052 : decode cL_law 1052 = .ok (.if_icmp .le 5, 3) := by decide +kernel
theorem dL_law_1055 : decode cL_law 1055 = .ok (.iconst 0, 1) := by decide +kernel
theorem dL_law_1056 : decode cL_law 1056 = .ok (.ireturn, 1) := by decide +kernel
theorem dL_law_1057 : decode cL_law 1057 = .ok (.iconst 1, 1) := by decide +kernel
theorem dL_law_1058 : decode cL_law 1058 = .ok (.iload 4, 2) := by decide +kernel
theorem dL_law_1060 : decode cL_law 1060 = .ok (.bipush 6, 2) := by decide +kernel
theorem dL_law_1062 : decode cL_law 1062 = .ok (.ishr, 1) := by decide +kernel
theorem dL_law_1063 : decode cL_law 1063 = .ok (.sipush 150, 3) := by decide +kernel
theorem dL_law_1066 : decode cL_law 1066 = .ok (.invokestatic 15, 3) := by decide +kernel
theorem dL_law_1069 : decode cL_law 1069 = .ok (.iadd, 1) := by decide +kernel
theorem dL_law_1070 : decode cL_law 1070 = .ok (.istore 14, 2) := by decide +kernel
theorem dL_law_1072 : decode cL_law 1072 = .ok (.aload_n 1, 1) := by decide +kernel
theorem dL_law_1073 : decode cL_law 1073 = .ok (.iload 14, 2) := by decide +kernel
theorem dL_law_1075 : decode cL_law 1075 = .ok (.invokevirtual 163, 3) := by decide +kernel
theorem dL_law_1078 : decode cL_law 1078 = .ok (.istore 15, 2) := by decide +kernel
theorem dL_law_1080 : decode cL_law 1080 = .ok (.iload 15, 2) := by decide +kernel
theorem dL_law_1082 : decode cL_law 1082 = .ok (.ifCond .lt 10, 3) := by decide +kernel
theorem dL_law_1085 : decode cL_law 1085 = .ok (.iload 15, 2) := by decide +kernel
theorem dL_law_1087 : decode cL_law 1087 = .ok (.bipush 50, 2) := by decide +kernel
theorem dL_law_1089 : decode cL_law 1089 = .ok (.if_icmp .le 5, 3) := by decide +kernel
theorem dL_law_1092 : decode cL_law 1092 = .ok (.iconst 0, 1) := by decide +kernel
theorem dL_law_1093 : decode cL_law 1093 = .ok (.ireturn, 1) := by decide +kernel
theorem dL_law_1094 : decode cL_law 1094 = .ok (.iconst 0, 1) := by decide +kernel
theorem dL_law_1095 : decode cL_law 1095 = .ok (.istore 16, 2) := by decide +kernel
theorem dL_law_1097 : decode cL_law 1097 = .ok (.iload 16, 2) := by decide +kernel
theorem dL_law_1099 : decode cL_law 1099 = .ok (.iconst 4, 1) := by decide +kernel
theorem dL_law_1100 : decode cL_law 1100 = .ok (.if_icmp .ge 89, 3) := by decide +kernel
theorem dL_law_1103 : decode cL_law 1103 = .ok (.aload_n 1, 1) := by decide +kernel
theorem dL_law_1104 : decode cL_law 1104 = .ok (.iload 14, 2) := by decide +kernel
theorem dL_law_1106 : decode cL_law 1106 = .ok (.invokevirtual 106, 3) := by decide +kernel
theorem dL_law_1109 : decode cL_law 1109 = .ok (.ifCond .lt 7, 3) := by decide +kernel
theorem dL_law_1112 : decode cL_law 1112 = .ok (.iconst 1, 1) := by decide +kernel
theorem dL_law_1113 : decode cL_law 1113 = .ok (.goto 4, 3) := by decide +kernel
theorem dL_law_1116 : decode cL_law 1116 = .ok (.iconst 0, 1) := by decide +kernel
theorem dL_law_1117 : decode cL_law 1117 = .ok (.istore 17, 2) := by decide +kernel
theorem dL_law_1119 : decode cL_law 1119 = .ok (.iload 17, 2) := by decide +kernel
theorem dL_law_1121 : decode cL_law 1121 = .ok (.iload 16, 2) := by decide +kernel
theorem dL_law_1123 : decode cL_law 1123 = .ok (.iload 15, 2) := by decide +kernel
theorem dL_law_1125 : decode cL_law 1125 = .ok (.if_icmp .ge 7, 3) := by decide +kernel
theorem dL_law_1128 : decode cL_law 1128 = .ok (.iconst 1, 1) := by decide +kernel
theorem dL_law_1129 : decode cL_law 1129 = .ok (.goto 4, 3) := by decide +kernel
theorem dL_law_1132 : decode cL_law 1132 = .ok (.iconst 0, 1) := by decide +kernel
theorem dL_law_1133 : decode cL_law 1133 = .ok (.if_icmp .eq 12, 3) := by decide +kernel
theorem dL_law_1136 : decode cL_law 1136 = .ok (.iload 15, 2) := by decide +kernel
theorem dL_law_1138 : decode cL_law 1138 = .ok (.bipush 50, 2) := by decide +kernel
theorem dL_law_1140 : decode cL_law 1140 = .ok (.if_icmp .ge 5, 3) := by decide +kernel
theorem dL_law_1143 : decode cL_law 1143 = .ok (.iconst 0, 1) := by decide +kernel
theorem dL_law_1144 : decode cL_law 1144 = .ok (.ireturn, 1) := by decide +kernel
theorem dL_law_1145 : decode cL_law 1145 = .ok (.iload 17, 2) := by decide +kernel
theorem dL_law_1147 : decode cL_law 1147 = .ok (.ifCond .ne 6, 3) := by decide +kernel
theorem dL_law_1150 : decode cL_law 1150 = .ok (.goto 39, 3) := by decide +kernel
theorem dL_law_1153 : decode cL_law 1153 = .ok (.aload_n 1, 1) := by decide +kernel
theorem dL_law_1154 : decode cL_law 1154 = .ok (.iload 14, 2) := by decide +kernel
theorem dL_law_1156 : decode cL_law 1156 = .ok (.invokevirtual 106, 3) := by decide +kernel
theorem dL_law_1159 : decode cL_law 1159 = .ok (.istore 18, 2) := by decide +kernel
theorem dL_law_1161 : decode cL_law 1161 = .ok (.aload_n 2, 1) := by decide +kernel
theorem dL_law_1162 : decode cL_law 1162 = .ok (.iload 14, 2) := by decide +kernel
theorem dL_law_1164 : decode cL_law 1164 = .ok (.invokevirtual 55, 3) := by decide +kernel
theorem dL_law_1167 : decode cL_law 1167 = .ok (.ifCond .eq 14, 3) := by decide +kernel
theorem dL_law_1170 : decode cL_law 1170 = .ok (.aload_n 1, 1) := by decide +kernel
theorem dL_law_1171 : decode cL_law 1171 = .ok (.iload 14, 2) := by decide +kernel
theorem dL_law_1173 : decode cL_law 1173 = .ok (.invokevirtual 58, 3) := by decide +kernel
theorem dL_law_1176 : decode cL_law 1176 = .ok (.iload 18, 2) := by decide +kernel
theorem dL_law_1178 : decode cL_law 1178 = .ok (.if_icmp .eq 5, 3) := by decide +kernel
theorem dL_law_1181 : decode cL_law 1181 = .ok (.iconst 0, 1) := by decide +kernel
theorem dL_law_1182 : decode cL_law 1182 = .ok (.ireturn, 1) := by decide +kernel
theorem dL_law_1183 : decode cL_law 1183 = .ok (.iinc 16 1, 3) := by decide +kernel
theorem dL_law_1186 : decode cL_law 1186 = .ok (.goto (-89), 3) := by decide +kernel
theorem dL_law_1189 : decode cL_law 1189 = .ok (.iinc 3 1, 3) := by decide +kernel
theorem dL_law_1192 : decode cL_law 1192 = .ok (.goto (-1170), 3) := by decide +kernel
theorem dL_law_1195 : decode cL_law 1195 = .ok (.aload_n 2, 1) := by decide +kernel
theorem dL_law_1196 : decode cL_law 1196 = .ok (.aload_n 1, 1) := by decide +kernel
theorem dL_law_1197 : decode cL_law 1197 = .ok (.bipush 33, 2) := by decide +kernel
theorem dL_law_1199 : decode cL_law 1199 = .ok (.invokevirtual 166, 3) := by decide +kernel
theorem dL_law_1202 : decode cL_law 1202 = .ok (.ireturn, 1) := by decide +kernel
theorem dL_reachPrinted_0 : decode cL_reachPrinted 0 = .ok (.aload_n 0, 1) := by decide +kernel
theorem dL_reachPrinted_1 : decode cL_reachPrinted 1 = .ok (.invokevirtual 170, 3) := by decide +kernel
theorem dL_reachPrinted_4 : decode cL_reachPrinted 4 = .ok (.astore_n 2, 1) := by decide +kernel
theorem dL_reachPrinted_5 : decode cL_reachPrinted 5 = .ok (.aload_n 2, 1) := by decide +kernel
theorem dL_reachPrinted_6 : decode cL_reachPrinted 6 = .ok (.getfield 9, 3) := by decide +kernel
theorem dL_reachPrinted_9 : decode cL_reachPrinted 9 = .ok (.iload_n 1, 1) := by decide +kernel
theorem dL_reachPrinted_10 : decode cL_reachPrinted 10 = .ok (.aaload, 1) := by decide +kernel
theorem dL_reachPrinted_11 : decode cL_reachPrinted 11 = .ok (.iconst 1, 1) := by decide +kernel
theorem dL_reachPrinted_12 : decode cL_reachPrinted 12 = .ok (.bipush 99, 2) := by decide +kernel
theorem dL_reachPrinted_14 : decode cL_reachPrinted 14 = .ok (.aload_n 2, 1) := by decide +kernel
theorem dL_reachPrinted_15 : decode cL_reachPrinted 15 = .ok (.getfield 9, 3) := by decide +kernel
theorem dL_reachPrinted_18 : decode cL_reachPrinted 18 = .ok (.iload_n 1, 1) := by decide +kernel
theorem dL_reachPrinted_19 : decode cL_reachPrinted 19 = .ok (.aaload, 1) := by decide +kernel
theorem dL_reachPrinted_20 : decode cL_reachPrinted 20 = .ok (.iconst 1, 1) := by decide +kernel
theorem dL_reachPrinted_21 : decode cL_reachPrinted 21 = .ok (.iaload, 1) := by decide +kernel
theorem dL_reachPrinted_22 : decode cL_reachPrinted 22 = .ok (.bipush 20, 2) := by decide +kernel
theorem dL_reachPrinted_24 : decode cL_reachPrinted 24 = .ok (.iadd, 1) := by decide +kernel
theorem dL_reachPrinted_25 : decode cL_reachPrinted 25 = .ok (.invokestatic 112, 3) := by decide +kernel
theorem dL_reachPrinted_28 : decode cL_reachPrinted 28 = .ok (.iastore, 1) := by decide +kernel
theorem dL_reachPrinted_29 : decode cL_reachPrinted 29 = .ok (.aload_n 2, 1) := by decide +kernel
theorem dL_reachPrinted_30 : decode cL_reachPrinted 30 = .ok (.invokevirtual 174, 3) := by decide +kernel
theorem dL_reachPrinted_33 : decode cL_reachPrinted 33 = .ok (.ireturn, 1) := by decide +kernel
