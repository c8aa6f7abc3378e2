/-! The law's instructions. -/
theorem zqd_910 : decode code 910 = .ok (.invokevirtual 98, 3) := by decide +kernel
theorem zqd_913 : decode code 913 = .ok (.pop, 1) := by decide +kernel
theorem zqd_914 : decode code 914 = .ok (.goto 679, 3) := by decide +kernel
theorem zqd_917 : decode code 917 = .ok (.aload_n 1, 1) := by decide +kernel
theorem zqd_918 : decode code 918 = .ok (.aload_n 0, 1) := by decide +kernel
theorem zqd_919 : decode code 919 = .ok (.iload_n 3, 1) := by decide +kernel
theorem zqd_920 : decode code 920 = .ok (.iconst 1, 1) := by decide +kernel
theorem zqd_921 : decode code 921 = .ok (.iadd, 1) := by decide +kernel
theorem zqd_922 : decode code 922 = .ok (.iaload, 1) := by decide +kernel
theorem zqd_923 : decode code 923 = .ok (.invokevirtual 99, 3) := by decide +kernel
theorem zqd_926 : decode code 926 = .ok (.pop, 1) := by decide +kernel
theorem zqd_927 : decode code 927 = .ok (.aload_n 2, 1) := by decide +kernel
theorem zqd_928 : decode code 928 = .ok (.aload_n 0, 1) := by decide +kernel
theorem zqd_929 : decode code 929 = .ok (.iload_n 3, 1) := by decide +kernel
theorem zqd_930 : decode code 930 = .ok (.iconst 1, 1) := by decide +kernel
theorem zqd_931 : decode code 931 = .ok (.iadd, 1) := by decide +kernel
theorem zqd_932 : decode code 932 = .ok (.iaload, 1) := by decide +kernel
theorem zqd_933 : decode code 933 = .ok (.invokevirtual 102, 3) := by decide +kernel
theorem zqd_936 : decode code 936 = .ok (.pop, 1) := by decide +kernel
theorem zqd_937 : decode code 937 = .ok (.goto 656, 3) := by decide +kernel
theorem zqd_940 : decode code 940 = .ok (.aload_n 1, 1) := by decide +kernel
theorem zqd_941 : decode code 941 = .ok (.aload_n 0, 1) := by decide +kernel
theorem zqd_942 : decode code 942 = .ok (.iload_n 3, 1) := by decide +kernel
theorem zqd_943 : decode code 943 = .ok (.iconst 1, 1) := by decide +kernel
theorem zqd_944 : decode code 944 = .ok (.iadd, 1) := by decide +kernel
theorem zqd_945 : decode code 945 = .ok (.iaload, 1) := by decide +kernel
theorem zqd_946 : decode code 946 = .ok (.aload_n 0, 1) := by decide +kernel
theorem zqd_947 : decode code 947 = .ok (.iload_n 3, 1) := by decide +kernel
theorem zqd_948 : decode code 948 = .ok (.iconst 2, 1) := by decide +kernel
theorem zqd_949 : decode code 949 = .ok (.iadd, 1) := by decide +kernel
theorem zqd_950 : decode code 950 = .ok (.iaload, 1) := by decide +kernel
theorem zqd_951 : decode code 951 = .ok (.invokevirtual 103, 3) := by decide +kernel
theorem zqd_954 : decode code 954 = .ok (.pop, 1) := by decide +kernel
theorem zqd_955 : decode code 955 = .ok (.aload_n 2, 1) := by decide +kernel
theorem zqd_956 : decode code 956 = .ok (.aload_n 0, 1) := by decide +kernel
theorem zqd_957 : decode code 957 = .ok (.iload_n 3, 1) := by decide +kernel
theorem zqd_958 : decode code 958 = .ok (.iconst 1, 1) := by decide +kernel
theorem zqd_959 : decode code 959 = .ok (.iadd, 1) := by decide +kernel
theorem zqd_960 : decode code 960 = .ok (.iaload, 1) := by decide +kernel
theorem zqd_961 : decode code 961 = .ok (.aload_n 0, 1) := by decide +kernel
theorem zqd_962 : decode code 962 = .ok (.iload_n 3, 1) := by decide +kernel
theorem zqd_963 : decode code 963 = .ok (.iconst 2, 1) := by decide +kernel
theorem zqd_964 : decode code 964 = .ok (.iadd, 1) := by decide +kernel
theorem zqd_965 : decode code 965 = .ok (.iaload, 1) := by decide +kernel
theorem zqd_966 : decode code 966 = .ok (.invokevirtual 106, 3) := by decide +kernel
theorem zqd_969 : decode code 969 = .ok (.pop, 1) := by decide +kernel
theorem zqd_970 : decode code 970 = .ok (.goto 623, 3) := by decide +kernel
theorem zqd_973 : decode code 973 = .ok (.aload_n 1, 1) := by decide +kernel
theorem zqd_974 : decode code 974 = .ok (.aload_n 0, 1) := by decide +kernel
theorem zqd_975 : decode code 975 = .ok (.iload_n 3, 1) := by decide +kernel
theorem zqd_976 : decode code 976 = .ok (.iconst 1, 1) := by decide +kernel
theorem zqd_977 : decode code 977 = .ok (.iadd, 1) := by decide +kernel
theorem zqd_978 : decode code 978 = .ok (.iaload, 1) := by decide +kernel
theorem zqd_979 : decode code 979 = .ok (.aload_n 0, 1) := by decide +kernel
theorem zqd_980 : decode code 980 = .ok (.iload_n 3, 1) := by decide +kernel
theorem zqd_981 : decode code 981 = .ok (.iconst 2, 1) := by decide +kernel
theorem zqd_982 : decode code 982 = .ok (.iadd, 1) := by decide +kernel
theorem zqd_983 : decode code 983 = .ok (.iaload, 1) := by decide +kernel
theorem zqd_984 : decode code 984 = .ok (.invokevirtual 107, 3) := by decide +kernel
theorem zqd_987 : decode code 987 = .ok (.pop, 1) := by decide +kernel
theorem zqd_988 : decode code 988 = .ok (.aload_n 2, 1) := by decide +kernel
theorem zqd_989 : decode code 989 = .ok (.aload_n 0, 1) := by decide +kernel
theorem zqd_990 : decode code 990 = .ok (.iload_n 3, 1) := by decide +kernel
theorem zqd_991 : decode code 991 = .ok (.iconst 1, 1) := by decide +kernel
theorem zqd_992 : decode code 992 = .ok (.iadd, 1) := by decide +kernel
theorem zqd_993 : decode code 993 = .ok (.iaload, 1) := by decide +kernel
theorem zqd_994 : decode code 994 = .ok (.aload_n 0, 1) := by decide +kernel
theorem zqd_995 : decode code 995 = .ok (.iload_n 3, 1) := by decide +kernel
theorem zqd_996 : decode code 996 = .ok (.iconst 2, 1) := by decide +kernel
theorem zqd_997 : decode code 997 = .ok (.iadd, 1) := by decide +kernel
theorem zqd_998 : decode code 998 = .ok (.iaload, 1) := by decide +kernel
theorem zqd_999 : decode code 999 = .ok (.invokevirtual 110, 3) := by decide +kernel
theorem zqd_1002 : decode code 1002 = .ok (.pop, 1) := by decide +kernel
theorem zqd_1003 : decode code 1003 = .ok (.goto 590, 3) := by decide +kernel
theorem zqd_1006 : decode code 1006 = .ok (.aload_n 1, 1) := by decide +kernel
theorem zqd_1007 : decode code 1007 = .ok (.aload_n 0, 1) := by decide +kernel
theorem zqd_1008 : decode code 1008 = .ok (.iload_n 3, 1) := by decide +kernel
theorem zqd_1009 : decode code 1009 = .ok (.iconst 1, 1) := by decide +kernel
theorem zqd_1010 : decode code 1010 = .ok (.iadd, 1) := by decide +kernel
theorem zqd_1011 : decode code 1011 = .ok (.iaload, 1) := by decide +kernel
theorem zqd_1012 : decode code 1012 = .ok (.aload_n 0, 1) := by decide +kernel
theorem zqd_1013 : decode code 1013 = .ok (.iload_n 3, 1) := by decide +kernel
theorem zqd_1014 : decode code 1014 = .ok (.iconst 2, 1) := by decide +kernel
theorem zqd_1015 : decode code 1015 = .ok (.iadd, 1) := by decide +kernel
theorem zqd_1016 : decode code 1016 = .ok (.iaload, 1) := by decide +kernel
theorem zqd_1017 : decode code 1017 = .ok (.invokevirtual 111, 3) := by decide +kernel
theorem zqd_1020 : decode code 1020 = .ok (.pop, 1) := by decide +kernel
theorem zqd_1021 : decode code 1021 = .ok (.aload_n 2, 1) := by decide +kernel
theorem zqd_1022 : decode code 1022 = .ok (.aload_n 0, 1) := by decide +kernel
theorem zqd_1023 : decode code 1023 = .ok (.iload_n 3, 1) := by decide +kernel
theorem zqd_1024 : decode code 1024 = .ok (.iconst 1, 1) := by decide +kernel
theorem zqd_1025 : decode code 1025 = .ok (.iadd, 1) := by decide +kernel
theorem zqd_1026 : decode code 1026 = .ok (.iaload, 1) := by decide +kernel
theorem zqd_1027 : decode code 1027 = .ok (.aload_n 0, 1) := by decide +kernel
theorem zqd_1028 : decode code 1028 = .ok (.iload_n 3, 1) := by decide +kernel
theorem zqd_1029 : decode code 1029 = .ok (.iconst 2, 1) := by decide +kernel
theorem zqd_1030 : decode code 1030 = .ok (.iadd, 1) := by decide +kernel
theorem zqd_1031 : decode code 1031 = .ok (.iaload, 1) := by decide +kernel
theorem zqd_1032 : decode code 1032 = .ok (.invokevirtual 114, 3) := by decide +kernel
theorem zqd_1035 : decode code 1035 = .ok (.pop, 1) := by decide +kernel
theorem zqd_1036 : decode code 1036 = .ok (.goto 557, 3) := by decide +kernel
theorem zqd_1039 : decode code 1039 = .ok (.aload_n 1, 1) := by decide +kernel
theorem zqd_1040 : decode code 1040 = .ok (.aload_n 0, 1) := by decide +kernel
theorem zqd_1041 : decode code 1041 = .ok (.iload_n 3, 1) := by decide +kernel
theorem zqd_1042 : decode code 1042 = .ok (.iconst 1, 1) := by decide +kernel
theorem zqd_1043 : decode code 1043 = .ok (.iadd, 1) := by decide +kernel
theorem zqd_1044 : decode code 1044 = .ok (.iaload, 1) := by decide +kernel
theorem zqd_1045 : decode code 1045 = .ok (.aload_n 0, 1) := by decide +kernel
theorem zqd_1046 : decode code 1046 = .ok (.iload_n 3, 1) := by decide +kernel
theorem zqd_1047 : decode code 1047 = .ok (.iconst 2, 1) := by decide +kernel
theorem zqd_1048 : decode code 1048 = .ok (.iadd, 1) := by decide +kernel
theorem zqd_1049 : decode code 1049 = .ok (.iaload, 1) := by decide +kernel
theorem zqd_1050 : decode code 1050 = .ok (.aload_n 0, 1) := by decide +kernel
theorem zqd_1051 : decode code 1051 = .ok (.iload_n 3, 1) := by decide +kernel
theorem zqd_1052 : decode code 1052 = .ok (.iconst 3, 1) := by decide +kernel
theorem zqd_1053 : decode code 1053 = .ok (.iadd, 1) := by decide +kernel
theorem zqd_1054 : decode code 1054 = .ok (.iaload, 1) := by decide +kernel
theorem zqd_1055 : decode code 1055 = .ok (.aload_n 0, 1) := by decide +kernel
theorem zqd_1056 : decode code 1056 = .ok (.iload_n 3, 1) := by decide +kernel
theorem zqd_1057 : decode code 1057 = .ok (.iconst 4, 1) := by decide +kernel
theorem zqd_1058 : decode code 1058 = .ok (.iadd, 1) := by decide +kernel
theorem zqd_1059 : decode code 1059 = .ok (.iaload, 1) := by decide +kernel
theorem zqd_1060 : decode code 1060 = .ok (.ifCond .eq 7, 3) := by decide +kernel
theorem zqd_1063 : decode code 1063 = .ok (.iconst 1, 1) := by decide +kernel
theorem zqd_1064 : decode code 1064 = .ok (.goto 4, 3) := by decide +kernel
theorem zqd_1067 : decode code 1067 = .ok (.iconst 0, 1) := by decide +kernel
theorem zqd_1068 : decode code 1068 = .ok (.invokevirtual 115, 3) := by decide +kernel
theorem zqd_1071 : decode code 1071 = .ok (.pop, 1) := by decide +kernel
theorem zqd_1072 : decode code 1072 = .ok (.aload_n 2, 1) := by decide +kernel
theorem zqd_1073 : decode code 1073 = .ok (.aload_n 0, 1) := by decide +kernel
theorem zqd_1074 : decode code 1074 = .ok (.iload_n 3, 1) := by decide +kernel
theorem zqd_1075 : decode code 1075 = .ok (.iconst 1, 1) := by decide +kernel
theorem zqd_1076 : decode code 1076 = .ok (.iadd, 1) := by decide +kernel
theorem zqd_1077 : decode code 1077 = .ok (.iaload, 1) := by decide +kernel
theorem zqd_1078 : decode code 1078 = .ok (.aload_n 0, 1) := by decide +kernel
theorem zqd_1079 : decode code 1079 = .ok (.iload_n 3, 1) := by decide +kernel
theorem zqd_1080 : decode code 1080 = .ok (.iconst 2, 1) := by decide +kernel
theorem zqd_1081 : decode code 1081 = .ok (.iadd, 1) := by decide +kernel
theorem zqd_1082 : decode code 1082 = .ok (.iaload, 1) := by decide +kernel
theorem zqd_1083 : decode code 1083 = .ok (.aload_n 0, 1) := by decide +kernel
theorem zqd_1084 : decode code 1084 = .ok (.iload_n 3, 1) := by decide +kernel
theorem zqd_1085 : decode code 1085 = .ok (.iconst 3, 1) := by decide +kernel
theorem zqd_1086 : decode code 1086 = .ok (.iadd, 1) := by decide +kernel
theorem zqd_1087 : decode code 1087 = .ok (.iaload, 1) := by decide +kernel
theorem zqd_1088 : decode code 1088 = .ok (.aload_n 0, 1) := by decide +kernel
theorem zqd_1089 : decode code 1089 = .ok (.iload_n 3, 1) := by decide +kernel
theorem zqd_1090 : decode code 1090 = .ok (.iconst 4, 1) := by decide +kernel
theorem zqd_1091 : decode code 1091 = .ok (.iadd, 1) := by decide +kernel
theorem zqd_1092 : decode code 1092 = .ok (.iaload, 1) := by decide +kernel
theorem zqd_1093 : decode code 1093 = .ok (.ifCond .eq 7, 3) := by decide +kernel
theorem zqd_1096 : decode code 1096 = .ok (.iconst 1, 1) := by decide +kernel
theorem zqd_1097 : decode code 1097 = .ok (.goto 4, 3) := by decide +kernel
theorem zqd_1100 : decode code 1100 = .ok (.iconst 0, 1) := by decide +kernel
theorem zqd_1101 : decode code 1101 = .ok (.invokevirtual 119, 3) := by decide +kernel
theorem zqd_1104 : decode code 1104 = .ok (.pop, 1) := by decide +kernel
theorem zqd_1105 : decode code 1105 = .ok (.goto 488, 3) := by decide +kernel
theorem zqd_1108 : decode code 1108 = .ok (.aload_n 1, 1) := by decide +kernel
theorem zqd_1109 : decode code 1109 = .ok (.aload_n 0, 1) := by decide +kernel
theorem zqd_1110 : decode code 1110 = .ok (.iload_n 3, 1) := by decide +kernel
theorem zqd_1111 : decode code 1111 = .ok (.iconst 1, 1) := by decide +kernel
theorem zqd_1112 : decode code 1112 = .ok (.iadd, 1) := by decide +kernel
theorem zqd_1113 : decode code 1113 = .ok (.iaload, 1) := by decide +kernel
theorem zqd_1114 : decode code 1114 = .ok (.invokevirtual 120, 3) := by decide +kernel
theorem zqd_1117 : decode code 1117 = .ok (.pop, 1) := by decide +kernel
theorem zqd_1118 : decode code 1118 = .ok (.aload_n 2, 1) := by decide +kernel
theorem zqd_1119 : decode code 1119 = .ok (.aload_n 0, 1) := by decide +kernel
theorem zqd_1120 : decode code 1120 = .ok (.iload_n 3, 1) := by decide +kernel
theorem zqd_1121 : decode code 1121 = .ok (.iconst 1, 1) := by decide +kernel
theorem zqd_1122 : decode code 1122 = .ok (.iadd, 1) := by decide +kernel
theorem zqd_1123 : decode code 1123 = .ok (.iaload, 1) := by decide +kernel
theorem zqd_1124 : decode code 1124 = .ok (.invokevirtual 123, 3) := by decide +kernel
theorem zqd_1127 : decode code 1127 = .ok (.pop, 1) := by decide +kernel
theorem zqd_1128 : decode code 1128 = .ok (.goto 465, 3) := by decide +kernel
theorem zqd_1131 : decode code 1131 = .ok (.aload_n 1, 1) := by decide +kernel
theorem zqd_1132 : decode code 1132 = .ok (.invokevirtual 124, 3) := by decide +kernel
theorem zqd_1135 : decode code 1135 = .ok (.pop, 1) := by decide +kernel
theorem zqd_1136 : decode code 1136 = .ok (.aload_n 2, 1) := by decide +kernel
theorem zqd_1137 : decode code 1137 = .ok (.invokevirtual 128, 3) := by decide +kernel
theorem zqd_1140 : decode code 1140 = .ok (.pop, 1) := by decide +kernel
theorem zqd_1141 : decode code 1141 = .ok (.goto 452, 3) := by decide +kernel
theorem zqd_1144 : decode code 1144 = .ok (.aload_n 1, 1) := by decide +kernel
theorem zqd_1145 : decode code 1145 = .ok (.aload_n 0, 1) := by decide +kernel
theorem zqd_1146 : decode code 1146 = .ok (.iload_n 3, 1) := by decide +kernel
theorem zqd_1147 : decode code 1147 = .ok (.iconst 1, 1) := by decide +kernel
theorem zqd_1148 : decode code 1148 = .ok (.iadd, 1) := by decide +kernel
theorem zqd_1149 : decode code 1149 = .ok (.iaload, 1) := by decide +kernel
theorem zqd_1150 : decode code 1150 = .ok (.aload_n 0, 1) := by decide +kernel
theorem zqd_1151 : decode code 1151 = .ok (.iload_n 3, 1) := by decide +kernel
theorem zqd_1152 : decode code 1152 = .ok (.iconst 2, 1) := by decide +kernel
theorem zqd_1153 : decode code 1153 = .ok (.iadd, 1) := by decide +kernel
theorem zqd_1154 : decode code 1154 = .ok (.iaload, 1) := by decide +kernel
theorem zqd_1155 : decode code 1155 = .ok (.aload_n 0, 1) := by decide +kernel
theorem zqd_1156 : decode code 1156 = .ok (.iload_n 3, 1) := by decide +kernel
theorem zqd_1157 : decode code 1157 = .ok (.iconst 3, 1) := by decide +kernel
theorem zqd_1158 : decode code 1158 = .ok (.iadd, 1) := by decide +kernel
theorem zqd_1159 : decode code 1159 = .ok (.iaload, 1) := by decide +kernel
theorem zqd_1160 : decode code 1160 = .ok (.invokevirtual 129, 3) := by decide +kernel
theorem zqd_1163 : decode code 1163 = .ok (.pop, 1) := by decide +kernel
theorem zqd_1164 : decode code 1164 = .ok (.aload_n 2, 1) := by decide +kernel
theorem zqd_1165 : decode code 1165 = .ok (.aload_n 0, 1) := by decide +kernel
theorem zqd_1166 : decode code 1166 = .ok (.iload_n 3, 1) := by decide +kernel
theorem zqd_1167 : decode code 1167 = .ok (.iconst 1, 1) := by decide +kernel
theorem zqd_1168 : decode code 1168 = .ok (.iadd, 1) := by decide +kernel
theorem zqd_1169 : decode code 1169 = .ok (.iaload, 1) := by decide +kernel
theorem zqd_1170 : decode code 1170 = .ok (.aload_n 0, 1) := by decide +kernel
theorem zqd_1171 : decode code 1171 = .ok (.iload_n 3, 1) := by decide +kernel
theorem zqd_1172 : decode code 1172 = .ok (.iconst 2, 1) := by decide +kernel
theorem zqd_1173 : decode code 1173 = .ok (.iadd, 1) := by decide +kernel
theorem zqd_1174 : decode code 1174 = .ok (.iaload, 1) := by decide +kernel
theorem zqd_1175 : decode code 1175 = .ok (.aload_n 0, 1) := by decide +kernel
theorem zqd_1176 : decode code 1176 = .ok (.iload_n 3, 1) := by decide +kernel
theorem zqd_1177 : decode code 1177 = .ok (.iconst 3, 1) := by decide +kernel
theorem zqd_1178 : decode code 1178 = .ok (.iadd, 1) := by decide +kernel
theorem zqd_1179 : decode code 1179 = .ok (.iaload, 1) := by decide +kernel
theorem zqd_1180 : decode code 1180 = .ok (.invokevirtual 132, 3) := by decide +kernel
theorem zqd_1183 : decode code 1183 = .ok (.pop, 1) := by decide +kernel
theorem zqd_1184 : decode code 1184 = .ok (.goto 409, 3) := by decide +kernel
theorem zqd_1187 : decode code 1187 = .ok (.aload_n 1, 1) := by decide +kernel
theorem zqd_1188 : decode code 1188 = .ok (.aload_n 0, 1) := by decide +kernel
theorem zqd_1189 : decode code 1189 = .ok (.iload_n 3, 1) := by decide +kernel
theorem zqd_1190 : decode code 1190 = .ok (.iconst 1, 1) := by decide +kernel
theorem zqd_1191 : decode code 1191 = .ok (.iadd, 1) := by decide +kernel
theorem zqd_1192 : decode code 1192 = .ok (.iaload, 1) := by decide +kernel
theorem zqd_1193 : decode code 1193 = .ok (.aload_n 0, 1) := by decide +kernel
theorem zqd_1194 : decode code 1194 = .ok (.iload_n 3, 1) := by decide +kernel
theorem zqd_1195 : decode code 1195 = .ok (.iconst 2, 1) := by decide +kernel
theorem zqd_1196 : decode code 1196 = .ok (.iadd, 1) := by decide +kernel
theorem zqd_1197 : decode code 1197 = .ok (.iaload, 1) := by decide +kernel
theorem zqd_1198 : decode code 1198 = .ok (.aload_n 0, 1) := by decide +kernel
theorem zqd_1199 : decode code 1199 = .ok (.iload_n 3, 1) := by decide +kernel
theorem zqd_1200 : decode code 1200 = .ok (.iconst 3, 1) := by decide +kernel
theorem zqd_1201 : decode code 1201 = .ok (.iadd, 1) := by decide +kernel
theorem zqd_1202 : decode code 1202 = .ok (.iaload, 1) := by decide +kernel
theorem zqd_1203 : decode code 1203 = .ok (.aload_n 0, 1) := by decide +kernel
theorem zqd_1204 : decode code 1204 = .ok (.iload_n 3, 1) := by decide +kernel
theorem zqd_1205 : decode code 1205 = .ok (.iconst 4, 1) := by decide +kernel
theorem zqd_1206 : decode code 1206 = .ok (.iadd, 1) := by decide +kernel
theorem zqd_1207 : decode code 1207 = .ok (.iaload, 1) := by decide +kernel
theorem zqd_1208 : decode code 1208 = .ok (.aload_n 0, 1) := by decide +kernel
theorem zqd_1209 : decode code 1209 = .ok (.iload_n 3, 1) := by decide +kernel
theorem zqd_1210 : decode code 1210 = .ok (.iconst 5, 1) := by decide +kernel
theorem zqd_1211 : decode code 1211 = .ok (.iadd, 1) := by decide +kernel
theorem zqd_1212 : decode code 1212 = .ok (.iaload, 1) := by decide +kernel
theorem zqd_1213 : decode code 1213 = .ok (.invokevirtual 133, 3) := by decide +kernel
theorem zqd_1216 : decode code 1216 = .ok (.pop, 1) := by decide +kernel
theorem zqd_1217 : decode code 1217 = .ok (.aload_n 2, 1) := by decide +kernel
theorem zqd_1218 : decode code 1218 = .ok (.aload_n 0, 1) := by decide +kernel
theorem zqd_1219 : decode code 1219 = .ok (.iload_n 3, 1) := by decide +kernel
theorem zqd_1220 : decode code 1220 = .ok (.iconst 1, 1) := by decide +kernel
theorem zqd_1221 : decode code 1221 = .ok (.iadd, 1) := by decide +kernel
theorem zqd_1222 : decode code 1222 = .ok (.iaload, 1) := by decide +kernel
theorem zqd_1223 : decode code 1223 = .ok (.aload_n 0, 1) := by decide +kernel
theorem zqd_1224 : decode code 1224 = .ok (.iload_n 3, 1) := by decide +kernel
theorem zqd_1225 : decode code 1225 = .ok (.iconst 2, 1) := by decide +kernel
theorem zqd_1226 : decode code 1226 = .ok (.iadd, 1) := by decide +kernel
theorem zqd_1227 : decode code 1227 = .ok (.iaload, 1) := by decide +kernel
theorem zqd_1228 : decode code 1228 = .ok (.aload_n 0, 1) := by decide +kernel
theorem zqd_1229 : decode code 1229 = .ok (.iload_n 3, 1) := by decide +kernel
theorem zqd_1230 : decode code 1230 = .ok (.iconst 3, 1) := by decide +kernel
theorem zqd_1231 : decode code 1231 = .ok (.iadd, 1) := by decide +kernel
theorem zqd_1232 : decode code 1232 = .ok (.iaload, 1) := by decide +kernel
theorem zqd_1233 : decode code 1233 = .ok (.aload_n 0, 1) := by decide +kernel
theorem zqd_1234 : decode code 1234 = .ok (.iload_n 3, 1) := by decide +kernel
theorem zqd_1235 : decode code 1235 = .ok (.iconst 4, 1) := by decide +kernel
theorem zqd_1236 : decode code 1236 = .ok (.iadd, 1) := by decide +kernel
theorem zqd_1237 : decode code 1237 = .ok (.iaload, 1) := by decide +kernel
theorem zqd_1238 : decode code 1238 = .ok (.aload_n 0, 1) := by decide +kernel
theorem zqd_1239 : decode code 1239 = .ok (.iload_n 3, 1) := by decide +kernel
theorem zqd_1240 : decode code 1240 = .ok (.iconst 5, 1) := by decide +kernel
theorem zqd_1241 : decode code 1241 = .ok (.iadd, 1) := by decide +kernel
theorem zqd_1242 : decode code 1242 = .ok (.iaload, 1) := by decide +kernel
theorem zqd_1243 : decode code 1243 = .ok (.invokevirtual 136, 3) := by decide +kernel
theorem zqd_1246 : decode code 1246 = .ok (.pop, 1) := by decide +kernel
theorem zqd_1247 : decode code 1247 = .ok (.goto 346, 3) := by decide +kernel
theorem zqd_1250 : decode code 1250 = .ok (.aload_n 1, 1) := by decide +kernel
theorem zqd_1251 : decode code 1251 = .ok (.aload_n 0, 1) := by decide +kernel
theorem zqd_1252 : decode code 1252 = .ok (.iload_n 3, 1) := by decide +kernel
theorem zqd_1253 : decode code 1253 = .ok (.iconst 1, 1) := by decide +kernel
theorem zqd_1254 : decode code 1254 = .ok (.iadd, 1) := by decide +kernel
theorem zqd_1255 : decode code 1255 = .ok (.iaload, 1) := by decide +kernel
theorem zqd_1256 : decode code 1256 = .ok (.aload_n 0, 1) := by decide +kernel
theorem zqd_1257 : decode code 1257 = .ok (.iload_n 3, 1) := by decide +kernel
theorem zqd_1258 : decode code 1258 = .ok (.iconst 2, 1) := by decide +kernel
theorem zqd_1259 : decode code 1259 = .ok (.iadd, 1) := by decide +kernel
theorem zqd_1260 : decode code 1260 = .ok (.iaload, 1) := by decide +kernel
theorem zqd_1261 : decode code 1261 = .ok (.aload_n 0, 1) := by decide +kernel
theorem zqd_1262 : decode code 1262 = .ok (.iload_n 3, 1) := by decide +kernel
theorem zqd_1263 : decode code 1263 = .ok (.iconst 3, 1) := by decide +kernel
theorem zqd_1264 : decode code 1264 = .ok (.iadd, 1) := by decide +kernel
theorem zqd_1265 : decode code 1265 = .ok (.iaload, 1) := by decide +kernel
theorem zqd_1266 : decode code 1266 = .ok (.aload_n 0, 1) := by decide +kernel
theorem zqd_1267 : decode code 1267 = .ok (.iload_n 3, 1) := by decide +kernel
theorem zqd_1268 : decode code 1268 = .ok (.iconst 4, 1) := by decide +kernel
theorem zqd_1269 : decode code 1269 = .ok (.iadd, 1) := by decide +kernel
theorem zqd_1270 : decode code 1270 = .ok (.iaload, 1) := by decide +kernel
theorem zqd_1271 : decode code 1271 = .ok (.aload_n 0, 1) := by decide +kernel
theorem zqd_1272 : decode code 1272 = .ok (.iload_n 3, 1) := by decide +kernel
theorem zqd_1273 : decode code 1273 = .ok (.iconst 5, 1) := by decide +kernel
theorem zqd_1274 : decode code 1274 = .ok (.iadd, 1) := by decide +kernel
theorem zqd_1275 : decode code 1275 = .ok (.iaload, 1) := by decide +kernel
