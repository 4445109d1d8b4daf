theorem d_L_law_948 : decode code 948 = .ok (.aload_n 0, 1) := by decide +kernel
theorem d_L_law_949 : decode code 949 = .ok (.iload 4, 2) := by decide +kernel
theorem d_L_law_951 : decode code 951 = .ok (.iconst 2, 1) := by decide +kernel
theorem d_L_law_952 : decode code 952 = .ok (.iadd, 1) := by decide +kernel
theorem d_L_law_953 : decode code 953 = .ok (.iaload, 1) := by decide +kernel
theorem d_L_law_954 : decode code 954 = .ok (.aload_n 0, 1) := by decide +kernel
theorem d_L_law_955 : decode code 955 = .ok (.iload 4, 2) := by decide +kernel
theorem d_L_law_957 : decode code 957 = .ok (.iconst 3, 1) := by decide +kernel
theorem d_L_law_958 : decode code 958 = .ok (.iadd, 1) := by decide +kernel
theorem d_L_law_959 : decode code 959 = .ok (.iaload, 1) := by decide +kernel
theorem d_L_law_960 : decode code 960 = .ok (.aload_n 3, 1) := by decide +kernel
theorem d_L_law_961 : decode code 961 = .ok (.invokestatic 122, 3) := by decide +kernel
theorem d_L_law_964 : decode code 964 = .ok (.istore 5, 2) := by decide +kernel
theorem d_L_law_966 : decode code 966 = .ok (.aload_n 2, 1) := by decide +kernel
theorem d_L_law_967 : decode code 967 = .ok (.aload_n 0, 1) := by decide +kernel
theorem d_L_law_968 : decode code 968 = .ok (.iload 4, 2) := by decide +kernel
theorem d_L_law_970 : decode code 970 = .ok (.iconst 1, 1) := by decide +kernel
theorem d_L_law_971 : decode code 971 = .ok (.iadd, 1) := by decide +kernel
theorem d_L_law_972 : decode code 972 = .ok (.iaload, 1) := by decide +kernel
theorem d_L_law_973 : decode code 973 = .ok (.aload_n 0, 1) := by decide +kernel
theorem d_L_law_974 : decode code 974 = .ok (.iload 4, 2) := by decide +kernel
theorem d_L_law_976 : decode code 976 = .ok (.iconst 2, 1) := by decide +kernel
theorem d_L_law_977 : decode code 977 = .ok (.iadd, 1) := by decide +kernel
theorem d_L_law_978 : decode code 978 = .ok (.iaload, 1) := by decide +kernel
theorem d_L_law_979 : decode code 979 = .ok (.aload_n 0, 1) := by decide +kernel
theorem d_L_law_980 : decode code 980 = .ok (.iload 4, 2) := by decide +kernel
theorem d_L_law_982 : decode code 982 = .ok (.iconst 3, 1) := by decide +kernel
theorem d_L_law_983 : decode code 983 = .ok (.iadd, 1) := by decide +kernel
theorem d_L_law_984 : decode code 984 = .ok (.iaload, 1) := by decide +kernel
theorem d_L_law_985 : decode code 985 = .ok (.invokevirtual 124, 3) := by decide +kernel
theorem d_L_law_988 : decode code 988 = .ok (.istore 6, 2) := by decide +kernel
theorem d_L_law_990 : decode code 990 = .ok (.aload_n 2, 1) := by decide +kernel
theorem d_L_law_991 : decode code 991 = .ok (.invokevirtual 80, 3) := by decide +kernel
theorem d_L_law_994 : decode code 994 = .ok (.iload 5, 2) := by decide +kernel
theorem d_L_law_996 : decode code 996 = .ok (.if_icmp .eq 5, 3) := by decide +kernel
theorem d_L_law_999 : decode code 999 = .ok (.iconst 0, 1) := by decide +kernel
theorem d_L_law_1000 : decode code 1000 = .ok (.ireturn, 1) := by decide +kernel
theorem d_L_law_1001 : decode code 1001 = .ok (.iload 5, 2) := by decide +kernel
theorem d_L_law_1003 : decode code 1003 = .ok (.ifCond .ne 22, 3) := by decide +kernel
theorem d_L_law_1006 : decode code 1006 = .ok (.aload_n 3, 1) := by decide +kernel
theorem d_L_law_1007 : decode code 1007 = .ok (.iconst 0, 1) := by decide +kernel
theorem d_L_law_1008 : decode code 1008 = .ok (.laload, 1) := by decide +kernel
theorem d_L_law_1009 : decode code 1009 = .ok (.iload 6, 2) := by decide +kernel
theorem d_L_law_1011 : decode code 1011 = .ok (.ifCond .eq 7, 3) := by decide +kernel
theorem d_L_law_1014 : decode code 1014 = .ok (.lconst 1, 1) := by decide +kernel
theorem d_L_law_1015 : decode code 1015 = .ok (.goto 4, 3) := by decide +kernel
theorem d_L_law_1018 : decode code 1018 = .ok (.lconst 0, 1) := by decide +kernel
theorem d_L_law_1019 : decode code 1019 = .ok (.lcmp, 1) := by decide +kernel
theorem d_L_law_1020 : decode code 1020 = .ok (.ifCond .eq 5, 3) := by decide +kernel
theorem d_L_law_1023 : decode code 1023 = .ok (.iconst 0, 1) := by decide +kernel
theorem d_L_law_1024 : decode code 1024 = .ok (.ireturn, 1) := by decide +kernel
theorem d_L_law_1025 : decode code 1025 = .ok (.goto 294, 3) := by decide +kernel
theorem d_L_law_1028 : decode code 1028 = .ok (.aload_n 1, 1) := by decide +kernel
theorem d_L_law_1029 : decode code 1029 = .ok (.aload_n 0, 1) := by decide +kernel
theorem d_L_law_1030 : decode code 1030 = .ok (.iload 4, 2) := by decide +kernel
theorem d_L_law_1032 : decode code 1032 = .ok (.iconst 1, 1) := by decide +kernel
theorem d_L_law_1033 : decode code 1033 = .ok (.iadd, 1) := by decide +kernel
theorem d_L_law_1034 : decode code 1034 = .ok (.iaload, 1) := by decide +kernel
theorem d_L_law_1035 : decode code 1035 = .ok (.aload_n 0, 1) := by decide +kernel
theorem d_L_law_1036 : decode code 1036 = .ok (.iload 4, 2) := by decide +kernel
theorem d_L_law_1038 : decode code 1038 = .ok (.iconst 2, 1) := by decide +kernel
theorem d_L_law_1039 : decode code 1039 = .ok (.iadd, 1) := by decide +kernel
theorem d_L_law_1040 : decode code 1040 = .ok (.iaload, 1) := by decide +kernel
theorem d_L_law_1041 : decode code 1041 = .ok (.invokevirtual 125, 3) := by decide +kernel
theorem d_L_law_1044 : decode code 1044 = .ok (.aload_n 2, 1) := by decide +kernel
theorem d_L_law_1045 : decode code 1045 = .ok (.aload_n 0, 1) := by decide +kernel
theorem d_L_law_1046 : decode code 1046 = .ok (.iload 4, 2) := by decide +kernel
theorem d_L_law_1048 : decode code 1048 = .ok (.iconst 1, 1) := by decide +kernel
theorem d_L_law_1049 : decode code 1049 = .ok (.iadd, 1) := by decide +kernel
theorem d_L_law_1050 : decode code 1050 = .ok (.iaload, 1) := by decide +kernel
theorem d_L_law_1051 : decode code 1051 = .ok (.aload_n 0, 1) := by decide +kernel
theorem d_L_law_1052 : decode code 1052 = .ok (.iload 4, 2) := by decide +kernel
theorem d_L_law_1054 : decode code 1054 = .ok (.iconst 2, 1) := by decide +kernel
theorem d_L_law_1055 : decode code 1055 = .ok (.iadd, 1) := by decide +kernel
theorem d_L_law_1056 : decode code 1056 = .ok (.iaload, 1) := by decide +kernel
theorem d_L_law_1057 : decode code 1057 = .ok (.invokevirtual 128, 3) := by decide +kernel
theorem d_L_law_1060 : decode code 1060 = .ok (.if_icmp .eq 259, 3) := by decide +kernel
theorem d_L_law_1063 : decode code 1063 = .ok (.iconst 0, 1) := by decide +kernel
theorem d_L_law_1064 : decode code 1064 = .ok (.ireturn, 1) := by decide +kernel
theorem d_L_law_1065 : decode code 1065 = .ok (.aload_n 1, 1) := by decide +kernel
theorem d_L_law_1066 : decode code 1066 = .ok (.aload_n 0, 1) := by decide +kernel
theorem d_L_law_1067 : decode code 1067 = .ok (.iload 4, 2) := by decide +kernel
theorem d_L_law_1069 : decode code 1069 = .ok (.iconst 1, 1) := by decide +kernel
theorem d_L_law_1070 : decode code 1070 = .ok (.iadd, 1) := by decide +kernel
theorem d_L_law_1071 : decode code 1071 = .ok (.iaload, 1) := by decide +kernel
theorem d_L_law_1072 : decode code 1072 = .ok (.aload_n 0, 1) := by decide +kernel
theorem d_L_law_1073 : decode code 1073 = .ok (.iload 4, 2) := by decide +kernel
theorem d_L_law_1075 : decode code 1075 = .ok (.iconst 2, 1) := by decide +kernel
theorem d_L_law_1076 : decode code 1076 = .ok (.iadd, 1) := by decide +kernel
theorem d_L_law_1077 : decode code 1077 = .ok (.iaload, 1) := by decide +kernel
theorem d_L_law_1078 : decode code 1078 = .ok (.aload_n 3, 1) := by decide +kernel
theorem d_L_law_1079 : decode code 1079 = .ok (.invokestatic 129, 3) := by decide +kernel
theorem d_L_law_1082 : decode code 1082 = .ok (.istore 5, 2) := by decide +kernel
theorem d_L_law_1084 : decode code 1084 = .ok (.aload_n 2, 1) := by decide +kernel
theorem d_L_law_1085 : decode code 1085 = .ok (.aload_n 0, 1) := by decide +kernel
theorem d_L_law_1086 : decode code 1086 = .ok (.iload 4, 2) := by decide +kernel
theorem d_L_law_1088 : decode code 1088 = .ok (.iconst 1, 1) := by decide +kernel
theorem d_L_law_1089 : decode code 1089 = .ok (.iadd, 1) := by decide +kernel
theorem d_L_law_1090 : decode code 1090 = .ok (.iaload, 1) := by decide +kernel
theorem d_L_law_1091 : decode code 1091 = .ok (.aload_n 0, 1) := by decide +kernel
theorem d_L_law_1092 : decode code 1092 = .ok (.iload 4, 2) := by decide +kernel
theorem d_L_law_1094 : decode code 1094 = .ok (.iconst 2, 1) := by decide +kernel
theorem d_L_law_1095 : decode code 1095 = .ok (.iadd, 1) := by decide +kernel
theorem d_L_law_1096 : decode code 1096 = .ok (.iaload, 1) := by decide +kernel
theorem d_L_law_1097 : decode code 1097 = .ok (.invokevirtual 131, 3) := by decide +kernel
theorem d_L_law_1100 : decode code 1100 = .ok (.istore 6, 2) := by decide +kernel
theorem d_L_law_1102 : decode code 1102 = .ok (.aload_n 2, 1) := by decide +kernel
theorem d_L_law_1103 : decode code 1103 = .ok (.invokevirtual 80, 3) := by decide +kernel
theorem d_L_law_1106 : decode code 1106 = .ok (.iload 5, 2) := by decide +kernel
theorem d_L_law_1108 : decode code 1108 = .ok (.if_icmp .eq 5, 3) := by decide +kernel
theorem d_L_law_1111 : decode code 1111 = .ok (.iconst 0, 1) := by decide +kernel
theorem d_L_law_1112 : decode code 1112 = .ok (.ireturn, 1) := by decide +kernel
theorem d_L_law_1113 : decode code 1113 = .ok (.iload 5, 2) := by decide +kernel
theorem d_L_law_1115 : decode code 1115 = .ok (.ifCond .ne 15, 3) := by decide +kernel
theorem d_L_law_1118 : decode code 1118 = .ok (.aload_n 3, 1) := by decide +kernel
theorem d_L_law_1119 : decode code 1119 = .ok (.iconst 0, 1) := by decide +kernel
theorem d_L_law_1120 : decode code 1120 = .ok (.laload, 1) := by decide +kernel
theorem d_L_law_1121 : decode code 1121 = .ok (.iload 6, 2) := by decide +kernel
theorem d_L_law_1123 : decode code 1123 = .ok (.i2l, 1) := by decide +kernel
theorem d_L_law_1124 : decode code 1124 = .ok (.lcmp, 1) := by decide +kernel
theorem d_L_law_1125 : decode code 1125 = .ok (.ifCond .eq 5, 3) := by decide +kernel
theorem d_L_law_1128 : decode code 1128 = .ok (.iconst 0, 1) := by decide +kernel
theorem d_L_law_1129 : decode code 1129 = .ok (.ireturn, 1) := by decide +kernel
theorem d_L_law_1130 : decode code 1130 = .ok (.goto 189, 3) := by decide +kernel
theorem d_L_law_1133 : decode code 1133 = .ok (.aload_n 1, 1) := by decide +kernel
theorem d_L_law_1134 : decode code 1134 = .ok (.aload_n 0, 1) := by decide +kernel
theorem d_L_law_1135 : decode code 1135 = .ok (.iload 4, 2) := by decide +kernel
theorem d_L_law_1137 : decode code 1137 = .ok (.iconst 1, 1) := by decide +kernel
theorem d_L_law_1138 : decode code 1138 = .ok (.iadd, 1) := by decide +kernel
theorem d_L_law_1139 : decode code 1139 = .ok (.iaload, 1) := by decide +kernel
theorem d_L_law_1140 : decode code 1140 = .ok (.aload_n 0, 1) := by decide +kernel
theorem d_L_law_1141 : decode code 1141 = .ok (.iload 4, 2) := by decide +kernel
theorem d_L_law_1143 : decode code 1143 = .ok (.iconst 2, 1) := by decide +kernel
theorem d_L_law_1144 : decode code 1144 = .ok (.iadd, 1) := by decide +kernel
theorem d_L_law_1145 : decode code 1145 = .ok (.iaload, 1) := by decide +kernel
theorem d_L_law_1146 : decode code 1146 = .ok (.invokevirtual 132, 3) := by decide +kernel
theorem d_L_law_1149 : decode code 1149 = .ok (.aload_n 2, 1) := by decide +kernel
theorem d_L_law_1150 : decode code 1150 = .ok (.aload_n 0, 1) := by decide +kernel
theorem d_L_law_1151 : decode code 1151 = .ok (.iload 4, 2) := by decide +kernel
theorem d_L_law_1153 : decode code 1153 = .ok (.iconst 1, 1) := by decide +kernel
theorem d_L_law_1154 : decode code 1154 = .ok (.iadd, 1) := by decide +kernel
theorem d_L_law_1155 : decode code 1155 = .ok (.iaload, 1) := by decide +kernel
theorem d_L_law_1156 : decode code 1156 = .ok (.aload_n 0, 1) := by decide +kernel
theorem d_L_law_1157 : decode code 1157 = .ok (.iload 4, 2) := by decide +kernel
theorem d_L_law_1159 : decode code 1159 = .ok (.iconst 2, 1) := by decide +kernel
theorem d_L_law_1160 : decode code 1160 = .ok (.iadd, 1) := by decide +kernel
theorem d_L_law_1161 : decode code 1161 = .ok (.iaload, 1) := by decide +kernel
theorem d_L_law_1162 : decode code 1162 = .ok (.invokevirtual 135, 3) := by decide +kernel
theorem d_L_law_1165 : decode code 1165 = .ok (.if_icmp .eq 154, 3) := by decide +kernel
theorem d_L_law_1168 : decode code 1168 = .ok (.iconst 0, 1) := by decide +kernel
theorem d_L_law_1169 : decode code 1169 = .ok (.ireturn, 1) := by decide +kernel
theorem d_L_law_1170 : decode code 1170 = .ok (.aload_n 1, 1) := by decide +kernel
theorem d_L_law_1171 : decode code 1171 = .ok (.aload_n 0, 1) := by decide +kernel
theorem d_L_law_1172 : decode code 1172 = .ok (.iload 4, 2) := by decide +kernel
theorem d_L_law_1174 : decode code 1174 = .ok (.iconst 1, 1) := by decide +kernel
theorem d_L_law_1175 : decode code 1175 = .ok (.iadd, 1) := by decide +kernel
theorem d_L_law_1176 : decode code 1176 = .ok (.iaload, 1) := by decide +kernel
theorem d_L_law_1177 : decode code 1177 = .ok (.aload_n 3, 1) := by decide +kernel
theorem d_L_law_1178 : decode code 1178 = .ok (.invokestatic 136, 3) := by decide +kernel
theorem d_L_law_1181 : decode code 1181 = .ok (.istore 5, 2) := by decide +kernel
theorem d_L_law_1183 : decode code 1183 = .ok (.aload_n 2, 1) := by decide +kernel
theorem d_L_law_1184 : decode code 1184 = .ok (.aload_n 0, 1) := by decide +kernel
theorem d_L_law_1185 : decode code 1185 = .ok (.iload 4, 2) := by decide +kernel
theorem d_L_law_1187 : decode code 1187 = .ok (.iconst 1, 1) := by decide +kernel
theorem d_L_law_1188 : decode code 1188 = .ok (.iadd, 1) := by decide +kernel
theorem d_L_law_1189 : decode code 1189 = .ok (.iaload, 1) := by decide +kernel
theorem d_L_law_1190 : decode code 1190 = .ok (.invokevirtual 138, 3) := by decide +kernel
theorem d_L_law_1193 : decode code 1193 = .ok (.istore 6, 2) := by decide +kernel
theorem d_L_law_1195 : decode code 1195 = .ok (.aload_n 2, 1) := by decide +kernel
theorem d_L_law_1196 : decode code 1196 = .ok (.invokevirtual 80, 3) := by decide +kernel
theorem d_L_law_1199 : decode code 1199 = .ok (.iload 5, 2) := by decide +kernel
theorem d_L_law_1201 : decode code 1201 = .ok (.if_icmp .eq 5, 3) := by decide +kernel
theorem d_L_law_1204 : decode code 1204 = .ok (.iconst 0, 1) := by decide +kernel
theorem d_L_law_1205 : decode code 1205 = .ok (.ireturn, 1) := by decide +kernel
theorem d_L_law_1206 : decode code 1206 = .ok (.iload 5, 2) := by decide +kernel
theorem d_L_law_1208 : decode code 1208 = .ok (.ifCond .ne 15, 3) := by decide +kernel
theorem d_L_law_1211 : decode code 1211 = .ok (.aload_n 3, 1) := by decide +kernel
theorem d_L_law_1212 : decode code 1212 = .ok (.iconst 0, 1) := by decide +kernel
theorem d_L_law_1213 : decode code 1213 = .ok (.laload, 1) := by decide +kernel
theorem d_L_law_1214 : decode code 1214 = .ok (.iload 6, 2) := by decide +kernel
theorem d_L_law_1216 : decode code 1216 = .ok (.i2l, 1) := by decide +kernel
theorem d_L_law_1217 : decode code 1217 = .ok (.lcmp, 1) := by decide +kernel
theorem d_L_law_1218 : decode code 1218 = .ok (.ifCond .eq 5, 3) := by decide +kernel
theorem d_L_law_1221 : decode code 1221 = .ok (.iconst 0, 1) := by decide +kernel
theorem d_L_law_1222 : decode code 1222 = .ok (.ireturn, 1) := by decide +kernel
theorem d_L_law_1223 : decode code 1223 = .ok (.goto 96, 3) := by decide +kernel
theorem d_L_law_1226 : decode code 1226 = .ok (.aload_n 1, 1) := by decide +kernel
theorem d_L_law_1227 : decode code 1227 = .ok (.aload_n 0, 1) := by decide +kernel
theorem d_L_law_1228 : decode code 1228 = .ok (.iload 4, 2) := by decide +kernel
theorem d_L_law_1230 : decode code 1230 = .ok (.iconst 1, 1) := by decide +kernel
theorem d_L_law_1231 : decode code 1231 = .ok (.iadd, 1) := by decide +kernel
theorem d_L_law_1232 : decode code 1232 = .ok (.iaload, 1) := by decide +kernel
theorem d_L_law_1233 : decode code 1233 = .ok (.aload_n 0, 1) := by decide +kernel
theorem d_L_law_1234 : decode code 1234 = .ok (.iload 4, 2) := by decide +kernel
theorem d_L_law_1236 : decode code 1236 = .ok (.iconst 2, 1) := by decide +kernel
theorem d_L_law_1237 : decode code 1237 = .ok (.iadd, 1) := by decide +kernel
theorem d_L_law_1238 : decode code 1238 = .ok (.iaload, 1) := by decide +kernel
theorem d_L_law_1239 : decode code 1239 = .ok (.aload_n 3, 1) := by decide +kernel
theorem d_L_law_1240 : decode code 1240 = .ok (.invokestatic 139, 3) := by decide +kernel
theorem d_L_law_1243 : decode code 1243 = .ok (.istore 5, 2) := by decide +kernel
theorem d_L_law_1245 : decode code 1245 = .ok (.aload_n 2, 1) := by decide +kernel
theorem d_L_law_1246 : decode code 1246 = .ok (.aload_n 0, 1) := by decide +kernel
theorem d_L_law_1247 : decode code 1247 = .ok (.iload 4, 2) := by decide +kernel
theorem d_L_law_1249 : decode code 1249 = .ok (.iconst 1, 1) := by decide +kernel
theorem d_L_law_1250 : decode code 1250 = .ok (.iadd, 1) := by decide +kernel
theorem d_L_law_1251 : decode code 1251 = .ok (.iaload, 1) := by decide +kernel
theorem d_L_law_1252 : decode code 1252 = .ok (.aload_n 0, 1) := by decide +kernel
theorem d_L_law_1253 : decode code 1253 = .ok (.iload 4, 2) := by decide +kernel
theorem d_L_law_1255 : decode code 1255 = .ok (.iconst 2, 1) := by decide +kernel
theorem d_L_law_1256 : decode code 1256 = .ok (.iadd, 1) := by decide +kernel
theorem d_L_law_1257 : decode code 1257 = .ok (.iaload, 1) := by decide +kernel
theorem d_L_law_1258 : decode code 1258 = .ok (.invokevirtual 141, 3) := by decide +kernel
theorem d_L_law_1261 : decode code 1261 = .ok (.istore 6, 2) := by decide +kernel
theorem d_L_law_1263 : decode code 1263 = .ok (.aload_n 2, 1) := by decide +kernel
theorem d_L_law_1264 : decode code 1264 = .ok (.invokevirtual 80, 3) := by decide +kernel
theorem d_L_law_1267 : decode code 1267 = .ok (.iload 5, 2) := by decide +kernel
theorem d_L_law_1269 : decode code 1269 = .ok (.if_icmp .eq 5, 3) := by decide +kernel
theorem d_L_law_1272 : decode code 1272 = .ok (.iconst 0, 1) := by decide +kernel
theorem d_L_law_1273 : decode code 1273 = .ok (.ireturn, 1) := by decide +kernel
theorem d_L_law_1274 : decode code 1274 = .ok (.iload 5, 2) := by decide +kernel
theorem d_L_law_1276 : decode code 1276 = .ok (.ifCond .ne 15, 3) := by decide +kernel
theorem d_L_law_1279 : decode code 1279 = .ok (.aload_n 3, 1) := by decide +kernel
theorem d_L_law_1280 : decode code 1280 = .ok (.iconst 0, 1) := by decide +kernel
theorem d_L_law_1281 : decode code 1281 = .ok (.laload, 1) := by decide +kernel
theorem d_L_law_1282 : decode code 1282 = .ok (.iload 6, 2) := by decide +kernel
theorem d_L_law_1284 : decode code 1284 = .ok (.i2l, 1) := by decide +kernel
theorem d_L_law_1285 : decode code 1285 = .ok (.lcmp, 1) := by decide +kernel
theorem d_L_law_1286 : decode code 1286 = .ok (.ifCond .eq 5, 3) := by decide +kernel
theorem d_L_law_1289 : decode code 1289 = .ok (.iconst 0, 1) := by decide +kernel
theorem d_L_law_1290 : decode code 1290 = .ok (.ireturn, 1) := by decide +kernel
theorem d_L_law_1291 : decode code 1291 = .ok (.goto 28, 3) := by decide +kernel
theorem d_L_law_1294 : decode code 1294 = .ok (.aload_n 1, 1) := by decide +kernel
theorem d_L_law_1295 : decode code 1295 = .ok (.aload_n 0, 1) := by decide +kernel
theorem d_L_law_1296 : decode code 1296 = .ok (.iload 4, 2) := by decide +kernel
theorem d_L_law_1298 : decode code 1298 = .ok (.iconst 1, 1) := by decide +kernel
theorem d_L_law_1299 : decode code 1299 = .ok (.iadd, 1) := by decide +kernel
theorem d_L_law_1300 : decode code 1300 = .ok (.iaload, 1) := by decide +kernel
theorem d_L_law_1301 : decode code 1301 = .ok (.invokevirtual 142, 3) := by decide +kernel
theorem d_L_law_1304 : decode code 1304 = .ok (.aload_n 2, 1) := by decide +kernel
theorem d_L_law_1305 : decode code 1305 = .ok (.aload_n 0, 1) := by decide +kernel
theorem d_L_law_1306 : decode code 1306 = .ok (.iload 4, 2) := by decide +kernel
theorem d_L_law_1308 : decode code 1308 = .ok (.iconst 1, 1) := by decide +kernel
theorem d_L_law_1309 : decode code 1309 = .ok (.iadd, 1) := by decide +kernel
theorem d_L_law_1310 : decode code 1310 = .ok (.iaload, 1) := by decide +kernel
theorem d_L_law_1311 : decode code 1311 = .ok (.invokevirtual 145, 3) := by decide +kernel
theorem d_L_law_1314 : decode code 1314 = .ok (.if_icmp .eq 5, 3) := by decide +kernel
theorem d_L_law_1317 : decode code 1317 = .ok (.iconst 0, 1) := by decide +kernel
theorem d_L_law_1318 : decode code 1318 = .ok (.ireturn, 1) := by decide +kernel
theorem d_L_law_1319 : decode code 1319 = .ok (.iinc 4 6, 3) := by decide +kernel
theorem d_L_law_1322 : decode code 1322 = .ok (.goto (-1299), 3) := by decide +kernel
theorem d_L_law_1325 : decode code 1325 = .ok (.iconst 1, 1) := by decide +kernel
theorem d_L_law_1326 : decode code 1326 = .ok (.ireturn, 1) := by decide +kernel
