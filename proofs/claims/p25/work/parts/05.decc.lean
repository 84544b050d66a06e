theorem dL_law_1001 : decode cL_law 1001 = .ok (.iinc 25 1, 3) := by decide +kernel
theorem dL_law_1004 : decode cL_law 1004 = .ok (.goto (-193), 3) := by decide +kernel
theorem dL_law_1007 : decode cL_law 1007 = .ok (.iconst 0, 1) := by decide +kernel
theorem dL_law_1008 : decode cL_law 1008 = .ok (.istore 25, 2) := by decide +kernel
theorem dL_law_1010 : decode cL_law 1010 = .ok (.iload 25, 2) := by decide +kernel
theorem dL_law_1012 : decode cL_law 1012 = .ok (.bipush 10, 2) := by decide +kernel
theorem dL_law_1014 : decode cL_law 1014 = .ok (.if_icmp .ge 89, 3) := by decide +kernel
theorem dL_law_1017 : decode cL_law 1017 = .ok (.aload 24, 2) := by decide +kernel
theorem dL_law_1019 : decode cL_law 1019 = .ok (.bipush 20, 2) := by decide +kernel
theorem dL_law_1021 : decode cL_law 1021 = .ok (.iload 25, 2) := by decide +kernel
theorem dL_law_1023 : decode cL_law 1023 = .ok (.iadd, 1) := by decide +kernel
theorem dL_law_1024 : decode cL_law 1024 = .ok (.iaload, 1) := by decide +kernel
theorem dL_law_1025 : decode cL_law 1025 = .ok (.ifCond .ne 6, 3) := by decide +kernel
theorem dL_law_1028 : decode cL_law 1028 = .ok (.goto 69, 3) := by decide +kernel
theorem dL_law_1031 : decode cL_law 1031 = .ok (.aload_n 2, 1) := by decide +kernel
theorem dL_law_1032 : decode cL_law 1032 = .ok (.bipush 10, 2) := by decide +kernel
theorem dL_law_1034 : decode cL_law 1034 = .ok (.iload 15, 2) := by decide +kernel
theorem dL_law_1036 : decode cL_law 1036 = .ok (.imul, 1) := by decide +kernel
theorem dL_law_1037 : decode cL_law 1037 = .ok (.iload 25, 2) := by decide +kernel
theorem dL_law_1039 : decode cL_law 1039 = .ok (.iadd, 1) := by decide +kernel
theorem dL_law_1040 : decode cL_law 1040 = .ok (.aload 24, 2) := by decide +kernel
theorem dL_law_1042 : decode cL_law 1042 = .ok (.iload 25, 2) := by decide +kernel
theorem dL_law_1044 : decode cL_law 1044 = .ok (.iaload, 1) := by decide +kernel
theorem dL_law_1045 : decode cL_law 1045 = .ok (.aload 24, 2) := by decide +kernel
theorem dL_law_1047 : decode cL_law 1047 = .ok (.bipush 20, 2) := by decide +kernel
theorem dL_law_1049 : decode cL_law 1049 = .ok (.iload 25, 2) := by decide +kernel
theorem dL_law_1051 : decode cL_law 1051 = .ok (.iadd, 1) := by decide +kernel
theorem dL_law_1052 : decode cL_law 1052 = .ok (.iaload, 1) := by decide +kernel
theorem dL_law_1053 : decode cL_law 1053 = .ok (.idiv, 1) := by decide +kernel
theorem dL_law_1054 : decode cL_law 1054 = .ok (.iastore, 1) := by decide +kernel
theorem dL_law_1055 : decode cL_law 1055 = .ok (.aload_n 3, 1) := by decide +kernel
theorem dL_law_1056 : decode cL_law 1056 = .ok (.bipush 10, 2) := by decide +kernel
theorem dL_law_1058 : decode cL_law 1058 = .ok (.iload 15, 2) := by decide +kernel
theorem dL_law_1060 : decode cL_law 1060 = .ok (.imul, 1) := by decide +kernel
theorem dL_law_1061 : decode cL_law 1061 = .ok (.iload 25, 2) := by decide +kernel
theorem dL_law_1063 : decode cL_law 1063 = .ok (.iadd, 1) := by decide +kernel
theorem dL_law_1064 : decode cL_law 1064 = .ok (.aload 24, 2) := by decide +kernel
theorem dL_law_1066 : decode cL_law 1066 = .ok (.bipush 10, 2) := by decide +kernel
theorem dL_law_1068 : decode cL_law 1068 = .ok (.iload 25, 2) := by decide +kernel
theorem dL_law_1070 : decode cL_law 1070 = .ok (.iadd, 1) := by decide +kernel
theorem dL_law_1071 : decode cL_law 1071 = .ok (.iaload, 1) := by decide +kernel
theorem dL_law_1072 : decode cL_law 1072 = .ok (.aload 24, 2) := by decide +kernel
theorem dL_law_1074 : decode cL_law 1074 = .ok (.bipush 20, 2) := by decide +kernel
theorem dL_law_1076 : decode cL_law 1076 = .ok (.iload 25, 2) := by decide +kernel
theorem dL_law_1078 : decode cL_law 1078 = .ok (.iadd, 1) := by decide +kernel
theorem dL_law_1079 : decode cL_law 1079 = .ok (.iaload, 1) := by decide +kernel
theorem dL_law_1080 : decode cL_law 1080 = .ok (.idiv, 1) := by decide +kernel
theorem dL_law_1081 : decode cL_law 1081 = .ok (.iastore, 1) := by decide +kernel
theorem dL_law_1082 : decode cL_law 1082 = .ok (.aload 5, 2) := by decide +kernel
theorem dL_law_1084 : decode cL_law 1084 = .ok (.bipush 10, 2) := by decide +kernel
theorem dL_law_1086 : decode cL_law 1086 = .ok (.iload 15, 2) := by decide +kernel
theorem dL_law_1088 : decode cL_law 1088 = .ok (.imul, 1) := by decide +kernel
theorem dL_law_1089 : decode cL_law 1089 = .ok (.iload 25, 2) := by decide +kernel
theorem dL_law_1091 : decode cL_law 1091 = .ok (.iadd, 1) := by decide +kernel
theorem dL_law_1092 : decode cL_law 1092 = .ok (.iconst (-1), 1) := by decide +kernel
theorem dL_law_1093 : decode cL_law 1093 = .ok (.iastore, 1) := by decide +kernel
theorem dL_law_1094 : decode cL_law 1094 = .ok (.iconst 1, 1) := by decide +kernel
theorem dL_law_1095 : decode cL_law 1095 = .ok (.istore 23, 2) := by decide +kernel
theorem dL_law_1097 : decode cL_law 1097 = .ok (.iinc 25 1, 3) := by decide +kernel
theorem dL_law_1100 : decode cL_law 1100 = .ok (.goto (-90), 3) := by decide +kernel
theorem dL_law_1103 : decode cL_law 1103 = .ok (.goto (-309), 3) := by decide +kernel
theorem dL_law_1106 : decode cL_law 1106 = .ok (.iinc 15 1, 3) := by decide +kernel
theorem dL_law_1109 : decode cL_law 1109 = .ok (.goto 1373, 3) := by decide +kernel
theorem dL_law_1112 : decode cL_law 1112 = .ok (.iload 20, 2) := by decide +kernel
theorem dL_law_1114 : decode cL_law 1114 = .ok (.iconst 3, 1) := by decide +kernel
theorem dL_law_1115 : decode cL_law 1115 = .ok (.if_icmp .ge 282, 3) := by decide +kernel
theorem dL_law_1118 : decode cL_law 1118 = .ok (.iload 15, 2) := by decide +kernel
theorem dL_law_1120 : decode cL_law 1120 = .ok (.iconst 5, 1) := by decide +kernel
theorem dL_law_1121 : decode cL_law 1121 = .ok (.if_icmp .ge 276, 3) := by decide +kernel
theorem dL_law_1124 : decode cL_law 1124 = .ok (.iload 19, 2) := by decide +kernel
theorem dL_law_1126 : decode cL_law 1126 = .ok (.iconst 4, 1) := by decide +kernel
theorem dL_law_1127 : decode cL_law 1127 = .ok (.invokestatic 57, 3) := by decide +kernel
theorem dL_law_1130 : decode cL_law 1130 = .ok (.istore 22, 2) := by decide +kernel
theorem dL_law_1132 : decode cL_law 1132 = .ok (.iload 19, 2) := by decide +kernel
theorem dL_law_1134 : decode cL_law 1134 = .ok (.iconst 2, 1) := by decide +kernel
theorem dL_law_1135 : decode cL_law 1135 = .ok (.ishr, 1) := by decide +kernel
theorem dL_law_1136 : decode cL_law 1136 = .ok (.iconst 3, 1) := by decide +kernel
theorem dL_law_1137 : decode cL_law 1137 = .ok (.invokestatic 57, 3) := by decide +kernel
theorem dL_law_1140 : decode cL_law 1140 = .ok (.istore 23, 2) := by decide +kernel
theorem dL_law_1142 : decode cL_law 1142 = .ok (.aload 8, 2) := by decide +kernel
theorem dL_law_1144 : decode cL_law 1144 = .ok (.iload 21, 2) := by decide +kernel
theorem dL_law_1146 : decode cL_law 1146 = .ok (.iaload, 1) := by decide +kernel
theorem dL_law_1147 : decode cL_law 1147 = .ok (.iload 19, 2) := by decide +kernel
theorem dL_law_1149 : decode cL_law 1149 = .ok (.iconst 4, 1) := by decide +kernel
theorem dL_law_1150 : decode cL_law 1150 = .ok (.ishr, 1) := by decide +kernel
theorem dL_law_1151 : decode cL_law 1151 = .ok (.iconst 3, 1) := by decide +kernel
theorem dL_law_1152 : decode cL_law 1152 = .ok (.invokestatic 57, 3) := by decide +kernel
theorem dL_law_1155 : decode cL_law 1155 = .ok (.iadd, 1) := by decide +kernel
theorem dL_law_1156 : decode cL_law 1156 = .ok (.istore 24, 2) := by decide +kernel
theorem dL_law_1158 : decode cL_law 1158 = .ok (.aload_n 1, 1) := by decide +kernel
theorem dL_law_1159 : decode cL_law 1159 = .ok (.iload 21, 2) := by decide +kernel
theorem dL_law_1161 : decode cL_law 1161 = .ok (.iload 22, 2) := by decide +kernel
theorem dL_law_1163 : decode cL_law 1163 = .ok (.iload 23, 2) := by decide +kernel
theorem dL_law_1165 : decode cL_law 1165 = .ok (.iload 24, 2) := by decide +kernel
theorem dL_law_1167 : decode cL_law 1167 = .ok (.invokevirtual 77, 3) := by decide +kernel
theorem dL_law_1170 : decode cL_law 1170 = .ok (.iload 15, 2) := by decide +kernel
theorem dL_law_1172 : decode cL_law 1172 = .ok (.if_icmp .eq 5, 3) := by decide +kernel
theorem dL_law_1175 : decode cL_law 1175 = .ok (.iconst 0, 1) := by decide +kernel
theorem dL_law_1176 : decode cL_law 1176 = .ok (.ireturn, 1) := by decide +kernel
theorem dL_law_1177 : decode cL_law 1177 = .ok (.iconst 0, 1) := by decide +kernel
theorem dL_law_1178 : decode cL_law 1178 = .ok (.istore 25, 2) := by decide +kernel
theorem dL_law_1180 : decode cL_law 1180 = .ok (.iload 25, 2) := by decide +kernel
theorem dL_law_1182 : decode cL_law 1182 = .ok (.bipush 10, 2) := by decide +kernel
theorem dL_law_1184 : decode cL_law 1184 = .ok (.if_icmp .ge 158, 3) := by decide +kernel
theorem dL_law_1187 : decode cL_law 1187 = .ok (.bipush 10, 2) := by decide +kernel
theorem dL_law_1189 : decode cL_law 1189 = .ok (.iload 21, 2) := by decide +kernel
theorem dL_law_1191 : decode cL_law 1191 = .ok (.imul, 1) := by decide +kernel
theorem dL_law_1192 : decode cL_law 1192 = .ok (.iload 25, 2) := by decide +kernel
theorem dL_law_1194 : decode cL_law 1194 = .ok (.iadd, 1) := by decide +kernel
theorem dL_law_1195 : decode cL_law 1195 = .ok (.istore 26, 2) := by decide +kernel
theorem dL_law_1197 : decode cL_law 1197 = .ok (.bipush 10, 2) := by decide +kernel
theorem dL_law_1199 : decode cL_law 1199 = .ok (.iload 15, 2) := by decide +kernel
theorem dL_law_1201 : decode cL_law 1201 = .ok (.imul, 1) := by decide +kernel
theorem dL_law_1202 : decode cL_law 1202 = .ok (.iload 25, 2) := by decide +kernel
theorem dL_law_1204 : decode cL_law 1204 = .ok (.iadd, 1) := by decide +kernel
theorem dL_law_1205 : decode cL_law 1205 = .ok (.istore 27, 2) := by decide +kernel
theorem dL_law_1207 : decode cL_law 1207 = .ok (.aload_n 2, 1) := by decide +kernel
theorem dL_law_1208 : decode cL_law 1208 = .ok (.iload 27, 2) := by decide +kernel
theorem dL_law_1210 : decode cL_law 1210 = .ok (.iload 23, 2) := by decide +kernel
theorem dL_law_1212 : decode cL_law 1212 = .ok (.iconst 1, 1) := by decide +kernel
theorem dL_law_1213 : decode cL_law 1213 = .ok (.if_icmp .ne 14, 3) := by decide +kernel
theorem dL_law_1216 : decode cL_law 1216 = .ok (.aload_n 2, 1) := by decide +kernel
theorem dL_law_1217 : decode cL_law 1217 = .ok (.iload 26, 2) := by decide +kernel
theorem dL_law_1219 : decode cL_law 1219 = .ok (.iaload, 1) := by decide +kernel
theorem dL_law_1220 : decode cL_law 1220 = .ok (.iconst 5, 1) := by decide +kernel
theorem dL_law_1221 : decode cL_law 1221 = .ok (.idiv, 1) := by decide +kernel
theorem dL_law_1222 : decode cL_law 1222 = .ok (.iconst 5, 1) := by decide +kernel
theorem dL_law_1223 : decode cL_law 1223 = .ok (.imul, 1) := by decide +kernel
theorem dL_law_1224 : decode cL_law 1224 = .ok (.goto 26, 3) := by decide +kernel
theorem dL_law_1227 : decode cL_law 1227 = .ok (.iload 23, 2) := by decide +kernel
theorem dL_law_1229 : decode cL_law 1229 = .ok (.iconst 2, 1) := by decide +kernel
theorem dL_law_1230 : decode cL_law 1230 = .ok (.if_icmp .ne 16, 3) := by decide +kernel
theorem dL_law_1233 : decode cL_law 1233 = .ok (.aload_n 2, 1) := by decide +kernel
theorem dL_law_1234 : decode cL_law 1234 = .ok (.iload 26, 2) := by decide +kernel
theorem dL_law_1236 : decode cL_law 1236 = .ok (.iaload, 1) := by decide +kernel
theorem dL_law_1237 : decode cL_law 1237 = .ok (.aload 9, 2) := by decide +kernel
theorem dL_law_1239 : decode cL_law 1239 = .ok (.iload 22, 2) := by decide +kernel
theorem dL_law_1241 : decode cL_law 1241 = .ok (.iaload, 1) := by decide +kernel
theorem dL_law_1242 : decode cL_law 1242 = .ok (.iadd, 1) := by decide +kernel
theorem dL_law_1243 : decode cL_law 1243 = .ok (.goto 7, 3) := by decide +kernel
theorem dL_law_1246 : decode cL_law 1246 = .ok (.aload_n 2, 1) := by decide +kernel
theorem dL_law_1247 : decode cL_law 1247 = .ok (.iload 26, 2) := by decide +kernel
theorem dL_law_1249 : decode cL_law 1249 = .ok (.iaload, 1) := by decide +kernel
theorem dL_law_1250 : decode cL_law 1250 = .ok (.iastore, 1) := by decide +kernel
theorem dL_law_1251 : decode cL_law 1251 = .ok (.aload_n 3, 1) := by decide +kernel
theorem dL_law_1252 : decode cL_law 1252 = .ok (.iload 27, 2) := by decide +kernel
theorem dL_law_1254 : decode cL_law 1254 = .ok (.iload 23, 2) := by decide +kernel
theorem dL_law_1256 : decode cL_law 1256 = .ok (.iconst 1, 1) := by decide +kernel
theorem dL_law_1257 : decode cL_law 1257 = .ok (.if_icmp .ne 14, 3) := by decide +kernel
theorem dL_law_1260 : decode cL_law 1260 = .ok (.aload_n 3, 1) := by decide +kernel
theorem dL_law_1261 : decode cL_law 1261 = .ok (.iload 26, 2) := by decide +kernel
theorem dL_law_1263 : decode cL_law 1263 = .ok (.iaload, 1) := by decide +kernel
theorem dL_law_1264 : decode cL_law 1264 = .ok (.iconst 5, 1) := by decide +kernel
theorem dL_law_1265 : decode cL_law 1265 = .ok (.idiv, 1) := by decide +kernel
theorem dL_law_1266 : decode cL_law 1266 = .ok (.iconst 5, 1) := by decide +kernel
theorem dL_law_1267 : decode cL_law 1267 = .ok (.imul, 1) := by decide +kernel
theorem dL_law_1268 : decode cL_law 1268 = .ok (.goto 26, 3) := by decide +kernel
theorem dL_law_1271 : decode cL_law 1271 = .ok (.iload 23, 2) := by decide +kernel
theorem dL_law_1273 : decode cL_law 1273 = .ok (.iconst 2, 1) := by decide +kernel
theorem dL_law_1274 : decode cL_law 1274 = .ok (.if_icmp .ne 16, 3) := by decide +kernel
theorem dL_law_1277 : decode cL_law 1277 = .ok (.aload_n 3, 1) := by decide +kernel
theorem dL_law_1278 : decode cL_law 1278 = .ok (.iload 26, 2) := by decide +kernel
theorem dL_law_1280 : decode cL_law 1280 = .ok (.iaload, 1) := by decide +kernel
theorem dL_law_1281 : decode cL_law 1281 = .ok (.aload 9, 2) := by decide +kernel
theorem dL_law_1283 : decode cL_law 1283 = .ok (.iload 22, 2) := by decide +kernel
theorem dL_law_1285 : decode cL_law 1285 = .ok (.iaload, 1) := by decide +kernel
theorem dL_law_1286 : decode cL_law 1286 = .ok (.isub, 1) := by decide +kernel
theorem dL_law_1287 : decode cL_law 1287 = .ok (.goto 7, 3) := by decide +kernel
theorem dL_law_1290 : decode cL_law 1290 = .ok (.aload_n 3, 1) := by decide +kernel
theorem dL_law_1291 : decode cL_law 1291 = .ok (.iload 26, 2) := by decide +kernel
theorem dL_law_1293 : decode cL_law 1293 = .ok (.iaload, 1) := by decide +kernel
theorem dL_law_1294 : decode cL_law 1294 = .ok (.iastore, 1) := by decide +kernel
theorem dL_law_1295 : decode cL_law 1295 = .ok (.aload 4, 2) := by decide +kernel
theorem dL_law_1297 : decode cL_law 1297 = .ok (.iload 27, 2) := by decide +kernel
theorem dL_law_1299 : decode cL_law 1299 = .ok (.aload 10, 2) := by decide +kernel
theorem dL_law_1301 : decode cL_law 1301 = .ok (.bipush 16, 2) := by decide +kernel
theorem dL_law_1303 : decode cL_law 1303 = .ok (.iload 22, 2) := by decide +kernel
theorem dL_law_1305 : decode cL_law 1305 = .ok (.imul, 1) := by decide +kernel
theorem dL_law_1306 : decode cL_law 1306 = .ok (.aload 4, 2) := by decide +kernel
theorem dL_law_1308 : decode cL_law 1308 = .ok (.iload 26, 2) := by decide +kernel
theorem dL_law_1310 : decode cL_law 1310 = .ok (.iaload, 1) := by decide +kernel
theorem dL_law_1311 : decode cL_law 1311 = .ok (.iadd, 1) := by decide +kernel
theorem dL_law_1312 : decode cL_law 1312 = .ok (.iaload, 1) := by decide +kernel
theorem dL_law_1313 : decode cL_law 1313 = .ok (.iastore, 1) := by decide +kernel
theorem dL_law_1314 : decode cL_law 1314 = .ok (.aload 5, 2) := by decide +kernel
theorem dL_law_1316 : decode cL_law 1316 = .ok (.iload 27, 2) := by decide +kernel
theorem dL_law_1318 : decode cL_law 1318 = .ok (.aload 5, 2) := by decide +kernel
theorem dL_law_1320 : decode cL_law 1320 = .ok (.iload 26, 2) := by decide +kernel
theorem dL_law_1322 : decode cL_law 1322 = .ok (.iaload, 1) := by decide +kernel
theorem dL_law_1323 : decode cL_law 1323 = .ok (.bipush (-2), 2) := by decide +kernel
theorem dL_law_1325 : decode cL_law 1325 = .ok (.if_icmp .ne 8, 3) := by decide +kernel
theorem dL_law_1328 : decode cL_law 1328 = .ok (.bipush (-2), 2) := by decide +kernel
theorem dL_law_1330 : decode cL_law 1330 = .ok (.goto 5, 3) := by decide +kernel
theorem dL_law_1333 : decode cL_law 1333 = .ok (.iload 21, 2) := by decide +kernel
theorem dL_law_1335 : decode cL_law 1335 = .ok (.iastore, 1) := by decide +kernel
theorem dL_law_1336 : decode cL_law 1336 = .ok (.iinc 25 1, 3) := by decide +kernel
theorem dL_law_1339 : decode cL_law 1339 = .ok (.goto (-159), 3) := by decide +kernel
theorem dL_law_1342 : decode cL_law 1342 = .ok (.iconst 0, 1) := by decide +kernel
theorem dL_law_1343 : decode cL_law 1343 = .ok (.istore 25, 2) := by decide +kernel
theorem dL_law_1345 : decode cL_law 1345 = .ok (.iload 25, 2) := by decide +kernel
theorem dL_law_1347 : decode cL_law 1347 = .ok (.iload 16, 2) := by decide +kernel
theorem dL_law_1349 : decode cL_law 1349 = .ok (.if_icmp .ge 35, 3) := by decide +kernel
theorem dL_law_1352 : decode cL_law 1352 = .ok (.aload 7, 2) := by decide +kernel
theorem dL_law_1354 : decode cL_law 1354 = .ok (.iload 25, 2) := by decide +kernel
theorem dL_law_1356 : decode cL_law 1356 = .ok (.iaload, 1) := by decide +kernel
theorem dL_law_1357 : decode cL_law 1357 = .ok (.iload 21, 2) := by decide +kernel
theorem dL_law_1359 : decode cL_law 1359 = .ok (.ishr, 1) := by decide +kernel
theorem dL_law_1360 : decode cL_law 1360 = .ok (.iconst 1, 1) := by decide +kernel
theorem dL_law_1361 : decode cL_law 1361 = .ok (.iand, 1) := by decide +kernel
theorem dL_law_1362 : decode cL_law 1362 = .ok (.iconst 1, 1) := by decide +kernel
theorem dL_law_1363 : decode cL_law 1363 = .ok (.if_icmp .ne 15, 3) := by decide +kernel
theorem dL_law_1366 : decode cL_law 1366 = .ok (.aload 7, 2) := by decide +kernel
theorem dL_law_1368 : decode cL_law 1368 = .ok (.iload 25, 2) := by decide +kernel
theorem dL_law_1370 : decode cL_law 1370 = .ok (.dup2, 1) := by decide +kernel
theorem dL_law_1371 : decode cL_law 1371 = .ok (.iaload, 1) := by decide +kernel
theorem dL_law_1372 : decode cL_law 1372 = .ok (.iconst 1, 1) := by decide +kernel
theorem dL_law_1373 : decode cL_law 1373 = .ok (.iload 15, 2) := by decide +kernel
theorem dL_law_1375 : decode cL_law 1375 = .ok (.ishl, 1) := by decide +kernel
theorem dL_law_1376 : decode cL_law 1376 = .ok (.ior, 1) := by decide +kernel
theorem dL_law_1377 : decode cL_law 1377 = .ok (.iastore, 1) := by decide +kernel
theorem dL_law_1378 : decode cL_law 1378 = .ok (.iinc 25 1, 3) := by decide +kernel
theorem dL_law_1381 : decode cL_law 1381 = .ok (.goto (-36), 3) := by decide +kernel
theorem dL_law_1384 : decode cL_law 1384 = .ok (.aload 8, 2) := by decide +kernel
theorem dL_law_1386 : decode cL_law 1386 = .ok (.iload 15, 2) := by decide +kernel
theorem dL_law_1388 : decode cL_law 1388 = .ok (.iload 24, 2) := by decide +kernel
theorem dL_law_1390 : decode cL_law 1390 = .ok (.iastore, 1) := by decide +kernel
theorem dL_law_1391 : decode cL_law 1391 = .ok (.iinc 15 1, 3) := by decide +kernel
theorem dL_law_1394 : decode cL_law 1394 = .ok (.goto 1088, 3) := by decide +kernel
theorem dL_law_1397 : decode cL_law 1397 = .ok (.iload 20, 2) := by decide +kernel
theorem dL_law_1399 : decode cL_law 1399 = .ok (.iconst 3, 1) := by decide +kernel
theorem dL_law_1400 : decode cL_law 1400 = .ok (.if_icmp .ne 490, 3) := by decide +kernel
theorem dL_law_1403 : decode cL_law 1403 = .ok (.iload 15, 2) := by decide +kernel
theorem dL_law_1405 : decode cL_law 1405 = .ok (.iconst 1, 1) := by decide +kernel
theorem dL_law_1406 : decode cL_law 1406 = .ok (.if_icmp .le 484, 3) := by decide +kernel
theorem dL_law_1409 : decode cL_law 1409 = .ok (.iload 21, 2) := by decide +kernel
theorem dL_law_1411 : decode cL_law 1411 = .ok (.iconst 1, 1) := by decide +kernel
theorem dL_law_1412 : decode cL_law 1412 = .ok (.iadd, 1) := by decide +kernel
theorem dL_law_1413 : decode cL_law 1413 = .ok (.iload 19, 2) := by decide +kernel
theorem dL_law_1415 : decode cL_law 1415 = .ok (.iload 15, 2) := by decide +kernel
theorem dL_law_1417 : decode cL_law 1417 = .ok (.iconst 1, 1) := by decide +kernel
theorem dL_law_1418 : decode cL_law 1418 = .ok (.isub, 1) := by decide +kernel
theorem dL_law_1419 : decode cL_law 1419 = .ok (.invokestatic 57, 3) := by decide +kernel
theorem dL_law_1422 : decode cL_law 1422 = .ok (.iadd, 1) := by decide +kernel
theorem dL_law_1423 : decode cL_law 1423 = .ok (.iload 15, 2) := by decide +kernel
theorem dL_law_1425 : decode cL_law 1425 = .ok (.irem, 1) := by decide +kernel
theorem dL_law_1426 : decode cL_law 1426 = .ok (.istore 22, 2) := by decide +kernel
theorem dL_law_1428 : decode cL_law 1428 = .ok (.iload 19, 2) := by decide +kernel
theorem dL_law_1430 : decode cL_law 1430 = .ok (.iconst 3, 1) := by decide +kernel
theorem dL_law_1431 : decode cL_law 1431 = .ok (.ishr, 1) := by decide +kernel
theorem dL_law_1432 : decode cL_law 1432 = .ok (.bipush 10, 2) := by decide +kernel
theorem dL_law_1434 : decode cL_law 1434 = .ok (.invokestatic 57, 3) := by decide +kernel
theorem dL_law_1437 : decode cL_law 1437 = .ok (.istore 23, 2) := by decide +kernel
theorem dL_law_1439 : decode cL_law 1439 = .ok (.iload 23, 2) := by decide +kernel
theorem dL_law_1441 : decode cL_law 1441 = .ok (.iload 19, 2) := by decide +kernel
theorem dL_law_1443 : decode cL_law 1443 = .ok (.bipush 7, 2) := by decide +kernel
theorem dL_law_1445 : decode cL_law 1445 = .ok (.ishr, 1) := by decide +kernel
theorem dL_law_1446 : decode cL_law 1446 = .ok (.bipush 10, 2) := by decide +kernel
theorem dL_law_1448 : decode cL_law 1448 = .ok (.iload 23, 2) := by decide +kernel
theorem dL_law_1450 : decode cL_law 1450 = .ok (.isub, 1) := by decide +kernel
theorem dL_law_1451 : decode cL_law 1451 = .ok (.invokestatic 57, 3) := by decide +kernel
theorem dL_law_1454 : decode cL_law 1454 = .ok (.iadd, 1) := by decide +kernel
theorem dL_law_1455 : decode cL_law 1455 = .ok (.istore 24, 2) := by decide +kernel
theorem dL_law_1457 : decode cL_law 1457 = .ok (.aload 5, 2) := by decide +kernel
theorem dL_law_1459 : decode cL_law 1459 = .ok (.bipush 10, 2) := by decide +kernel
theorem dL_law_1461 : decode cL_law 1461 = .ok (.iload 21, 2) := by decide +kernel
theorem dL_law_1463 : decode cL_law 1463 = .ok (.imul, 1) := by decide +kernel
theorem dL_law_1464 : decode cL_law 1464 = .ok (.iload 23, 2) := by decide +kernel
theorem dL_law_1466 : decode cL_law 1466 = .ok (.iadd, 1) := by decide +kernel
theorem dL_law_1467 : decode cL_law 1467 = .ok (.iaload, 1) := by decide +kernel
theorem dL_law_1468 : decode cL_law 1468 = .ok (.bipush (-2), 2) := by decide +kernel
theorem dL_law_1470 : decode cL_law 1470 = .ok (.if_icmp .le 23, 3) := by decide +kernel
theorem dL_law_1473 : decode cL_law 1473 = .ok (.aload 5, 2) := by decide +kernel
theorem dL_law_1475 : decode cL_law 1475 = .ok (.bipush 10, 2) := by decide +kernel
theorem dL_law_1477 : decode cL_law 1477 = .ok (.iload 22, 2) := by decide +kernel
theorem dL_law_1479 : decode cL_law 1479 = .ok (.imul, 1) := by decide +kernel
theorem dL_law_1480 : decode cL_law 1480 = .ok (.iload 23, 2) := by decide +kernel
theorem dL_law_1482 : decode cL_law 1482 = .ok (.iadd, 1) := by decide +kernel
theorem dL_law_1483 : decode cL_law 1483 = .ok (.iaload, 1) := by decide +kernel
theorem dL_law_1484 : decode cL_law 1484 = .ok (.bipush (-2), 2) := by decide +kernel
theorem dL_law_1486 : decode cL_law 1486 = .ok (.if_icmp .le 7, 3) := by decide +kernel
theorem dL_law_1489 : decode cL_law 1489 = .ok (.iconst 1, 1) := by decide +kernel
theorem dL_law_1490 : decode cL_law 1490 = .ok (.goto 4, 3) := by decide +kernel
theorem dL_law_1493 : decode cL_law 1493 = .ok (.iconst 0, 1) := by decide +kernel
theorem dL_law_1494 : decode cL_law 1494 = .ok (.istore 25, 2) := by decide +kernel
theorem dL_law_1496 : decode cL_law 1496 = .ok (.iload 25, 2) := by decide +kernel
theorem dL_law_1498 : decode cL_law 1498 = .ok (.ifCond .eq 27, 3) := by decide +kernel
theorem dL_law_1501 : decode cL_law 1501 = .ok (.aload_n 2, 1) := by decide +kernel
theorem dL_law_1502 : decode cL_law 1502 = .ok (.bipush 10, 2) := by decide +kernel
theorem dL_law_1504 : decode cL_law 1504 = .ok (.iload 21, 2) := by decide +kernel
theorem dL_law_1506 : decode cL_law 1506 = .ok (.imul, 1) := by decide +kernel
theorem dL_law_1507 : decode cL_law 1507 = .ok (.iload 23, 2) := by decide +kernel
theorem dL_law_1509 : decode cL_law 1509 = .ok (.iadd, 1) := by decide +kernel
theorem dL_law_1510 : decode cL_law 1510 = .ok (.iaload, 1) := by decide +kernel
theorem dL_law_1511 : decode cL_law 1511 = .ok (.aload_n 2, 1) := by decide +kernel
theorem dL_law_1512 : decode cL_law 1512 = .ok (.bipush 10, 2) := by decide +kernel
theorem dL_law_1514 : decode cL_law 1514 = .ok (.iload 22, 2) := by decide +kernel
theorem dL_law_1516 : decode cL_law 1516 = .ok (.imul, 1) := by decide +kernel
theorem dL_law_1517 : decode cL_law 1517 = .ok (.iload 23, 2) := by decide +kernel
theorem dL_law_1519 : decode cL_law 1519 = .ok (.iadd, 1) := by decide +kernel
theorem dL_law_1520 : decode cL_law 1520 = .ok (.iaload, 1) := by decide +kernel
theorem dL_law_1521 : decode cL_law 1521 = .ok (.isub, 1) := by decide +kernel
theorem dL_law_1522 : decode cL_law 1522 = .ok (.goto 4, 3) := by decide +kernel
theorem dL_law_1525 : decode cL_law 1525 = .ok (.iconst 0, 1) := by decide +kernel
theorem dL_law_1526 : decode cL_law 1526 = .ok (.istore 26, 2) := by decide +kernel
theorem dL_law_1528 : decode cL_law 1528 = .ok (.iload 25, 2) := by decide +kernel
theorem dL_law_1530 : decode cL_law 1530 = .ok (.ifCond .eq 27, 3) := by decide +kernel
theorem dL_law_1533 : decode cL_law 1533 = .ok (.aload_n 3, 1) := by decide +kernel
theorem dL_law_1534 : decode cL_law 1534 = .ok (.bipush 10, 2) := by decide +kernel
theorem dL_law_1536 : decode cL_law 1536 = .ok (.iload 21, 2) := by decide +kernel
theorem dL_law_1538 : decode cL_law 1538 = .ok (.imul, 1) := by decide +kernel
theorem dL_law_1539 : decode cL_law 1539 = .ok (.iload 23, 2) := by decide +kernel
theorem dL_law_1541 : decode cL_law 1541 = .ok (.iadd, 1) := by decide +kernel
theorem dL_law_1542 : decode cL_law 1542 = .ok (.iaload, 1) := by decide +kernel
theorem dL_law_1543 : decode cL_law 1543 = .ok (.aload_n 3, 1) := by decide +kernel
theorem dL_law_1544 : decode cL_law 1544 = .ok (.bipush 10, 2) := by decide +kernel
theorem dL_law_1546 : decode cL_law 1546 = .ok (.iload 22, 2) := by decide +kernel
theorem dL_law_1548 : decode cL_law 1548 = .ok (.imul, 1) := by decide +kernel
theorem dL_law_1549 : decode cL_law 1549 = .ok (.iload 23, 2) := by decide +kernel
theorem dL_law_1551 : decode cL_law 1551 = .ok (.iadd, 1) := by decide +kernel
theorem dL_law_1552 : decode cL_law 1552 = .ok (.iaload, 1) := by decide +kernel
theorem dL_law_1553 : decode cL_law 1553 = .ok (.isub, 1) := by decide +kernel
theorem dL_law_1554 : decode cL_law 1554 = .ok (.goto 4, 3) := by decide +kernel
theorem dL_law_1557 : decode cL_law 1557 = .ok (.iconst 0, 1) := by decide +kernel
theorem dL_law_1558 : decode cL_law 1558 = .ok (.istore 27, 2) := by decide +kernel
theorem dL_law_1560 : decode cL_law 1560 = .ok (.aload 8, 2) := by decide +kernel
theorem dL_law_1562 : decode cL_law 1562 = .ok (.iload 22, 2) := by decide +kernel
theorem dL_law_1564 : decode cL_law 1564 = .ok (.iaload, 1) := by decide +kernel
theorem dL_law_1565 : decode cL_law 1565 = .ok (.aload 8, 2) := by decide +kernel
theorem dL_law_1567 : decode cL_law 1567 = .ok (.iload 21, 2) := by decide +kernel
theorem dL_law_1569 : decode cL_law 1569 = .ok (.iaload, 1) := by decide +kernel
theorem dL_law_1570 : decode cL_law 1570 = .ok (.if_icmp .gt 7, 3) := by decide +kernel
theorem dL_law_1573 : decode cL_law 1573 = .ok (.iconst 1, 1) := by decide +kernel
theorem dL_law_1574 : decode cL_law 1574 = .ok (.goto 4, 3) := by decide +kernel
theorem dL_law_1577 : decode cL_law 1577 = .ok (.iconst 0, 1) := by decide +kernel
theorem dL_law_1578 : decode cL_law 1578 = .ok (.istore 28, 2) := by decide +kernel
theorem dL_law_1580 : decode cL_law 1580 = .ok (.iload 23, 2) := by decide +kernel
theorem dL_law_1582 : decode cL_law 1582 = .ok (.istore 29, 2) := by decide +kernel
theorem dL_law_1584 : decode cL_law 1584 = .ok (.iload 29, 2) := by decide +kernel
theorem dL_law_1586 : decode cL_law 1586 = .ok (.iload 24, 2) := by decide +kernel
theorem dL_law_1588 : decode cL_law 1588 = .ok (.if_icmp .gt 159, 3) := by decide +kernel
theorem dL_law_1591 : decode cL_law 1591 = .ok (.aload 5, 2) := by decide +kernel
theorem dL_law_1593 : decode cL_law 1593 = .ok (.bipush 10, 2) := by decide +kernel
theorem dL_law_1595 : decode cL_law 1595 = .ok (.iload 22, 2) := by decide +kernel
theorem dL_law_1597 : decode cL_law 1597 = .ok (.imul, 1) := by decide +kernel
theorem dL_law_1598 : decode cL_law 1598 = .ok (.iload 29, 2) := by decide +kernel
theorem dL_law_1600 : decode cL_law 1600 = .ok (.iadd, 1) := by decide +kernel
theorem dL_law_1601 : decode cL_law 1601 = .ok (.iaload, 1) := by decide +kernel
theorem dL_law_1602 : decode cL_law 1602 = .ok (.bipush (-2), 2) := by decide +kernel
theorem dL_law_1604 : decode cL_law 1604 = .ok (.if_icmp .ne 7, 3) := by decide +kernel
theorem dL_law_1607 : decode cL_law 1607 = .ok (.iconst (-1), 1) := by decide +kernel
theorem dL_law_1608 : decode cL_law 1608 = .ok (.goto 5, 3) := by decide +kernel
theorem dL_law_1611 : decode cL_law 1611 = .ok (.iload 22, 2) := by decide +kernel
theorem dL_law_1613 : decode cL_law 1613 = .ok (.istore 30, 2) := by decide +kernel
theorem dL_law_1615 : decode cL_law 1615 = .ok (.iload 30, 2) := by decide +kernel
theorem dL_law_1617 : decode cL_law 1617 = .ok (.ifCond .lt 59, 3) := by decide +kernel
theorem dL_law_1620 : decode cL_law 1620 = .ok (.iload 28, 2) := by decide +kernel
theorem dL_law_1622 : decode cL_law 1622 = .ok (.ifCond .eq 51, 3) := by decide +kernel
theorem dL_law_1625 : decode cL_law 1625 = .ok (.aload_n 2, 1) := by decide +kernel
theorem dL_law_1626 : decode cL_law 1626 = .ok (.bipush 10, 2) := by decide +kernel
theorem dL_law_1628 : decode cL_law 1628 = .ok (.iload 22, 2) := by decide +kernel
theorem dL_law_1630 : decode cL_law 1630 = .ok (.imul, 1) := by decide +kernel
theorem dL_law_1631 : decode cL_law 1631 = .ok (.iload 29, 2) := by decide +kernel
theorem dL_law_1633 : decode cL_law 1633 = .ok (.iadd, 1) := by decide +kernel
theorem dL_law_1634 : decode cL_law 1634 = .ok (.iaload, 1) := by decide +kernel
theorem dL_law_1635 : decode cL_law 1635 = .ok (.iload 26, 2) := by decide +kernel
theorem dL_law_1637 : decode cL_law 1637 = .ok (.iadd, 1) := by decide +kernel
theorem dL_law_1638 : decode cL_law 1638 = .ok (.invokestatic 34, 3) := by decide +kernel
theorem dL_law_1641 : decode cL_law 1641 = .ok (.sipush 10000, 3) := by decide +kernel
theorem dL_law_1644 : decode cL_law 1644 = .ok (.if_icmp .ge 29, 3) := by decide +kernel
theorem dL_law_1647 : decode cL_law 1647 = .ok (.aload_n 3, 1) := by decide +kernel
theorem dL_law_1648 : decode cL_law 1648 = .ok (.bipush 10, 2) := by decide +kernel
theorem dL_law_1650 : decode cL_law 1650 = .ok (.iload 22, 2) := by decide +kernel
theorem dL_law_1652 : decode cL_law 1652 = .ok (.imul, 1) := by decide +kernel
theorem dL_law_1653 : decode cL_law 1653 = .ok (.iload 29, 2) := by decide +kernel
theorem dL_law_1655 : decode cL_law 1655 = .ok (.iadd, 1) := by decide +kernel
theorem dL_law_1656 : decode cL_law 1656 = .ok (.iaload, 1) := by decide +kernel
theorem dL_law_1657 : decode cL_law 1657 = .ok (.iload 27, 2) := by decide +kernel
theorem dL_law_1659 : decode cL_law 1659 = .ok (.iadd, 1) := by decide +kernel
theorem dL_law_1660 : decode cL_law 1660 = .ok (.invokestatic 34, 3) := by decide +kernel
theorem dL_law_1663 : decode cL_law 1663 = .ok (.sipush 10000, 3) := by decide +kernel
theorem dL_law_1666 : decode cL_law 1666 = .ok (.if_icmp .ge 7, 3) := by decide +kernel
theorem dL_law_1669 : decode cL_law 1669 = .ok (.iconst 1, 1) := by decide +kernel
theorem dL_law_1670 : decode cL_law 1670 = .ok (.goto 4, 3) := by decide +kernel
theorem dL_law_1673 : decode cL_law 1673 = .ok (.iconst 0, 1) := by decide +kernel
theorem dL_law_1674 : decode cL_law 1674 = .ok (.istore 28, 2) := by decide +kernel
theorem dL_law_1676 : decode cL_law 1676 = .ok (.iload 30, 2) := by decide +kernel
theorem dL_law_1678 : decode cL_law 1678 = .ok (.ifCond .lt 44, 3) := by decide +kernel
theorem dL_law_1681 : decode cL_law 1681 = .ok (.iload 30, 2) := by decide +kernel
theorem dL_law_1683 : decode cL_law 1683 = .ok (.iload 21, 2) := by decide +kernel
theorem dL_law_1685 : decode cL_law 1685 = .ok (.if_icmp .eq 37, 3) := by decide +kernel
theorem dL_law_1688 : decode cL_law 1688 = .ok (.aload 5, 2) := by decide +kernel
theorem dL_law_1690 : decode cL_law 1690 = .ok (.bipush 10, 2) := by decide +kernel
theorem dL_law_1692 : decode cL_law 1692 = .ok (.iload 30, 2) := by decide +kernel
theorem dL_law_1694 : decode cL_law 1694 = .ok (.imul, 1) := by decide +kernel
theorem dL_law_1695 : decode cL_law 1695 = .ok (.iload 29, 2) := by decide +kernel
theorem dL_law_1697 : decode cL_law 1697 = .ok (.iadd, 1) := by decide +kernel
theorem dL_law_1698 : decode cL_law 1698 = .ok (.iaload, 1) := by decide +kernel
theorem dL_law_1699 : decode cL_law 1699 = .ok (.ifCond .ge 7, 3) := by decide +kernel
theorem dL_law_1702 : decode cL_law 1702 = .ok (.iconst (-1), 1) := by decide +kernel
theorem dL_law_1703 : decode cL_law 1703 = .ok (.goto 14, 3) := by decide +kernel
theorem dL_law_1706 : decode cL_law 1706 = .ok (.aload 5, 2) := by decide +kernel
theorem dL_law_1708 : decode cL_law 1708 = .ok (.bipush 10, 2) := by decide +kernel
theorem dL_law_1710 : decode cL_law 1710 = .ok (.iload 30, 2) := by decide +kernel
theorem dL_law_1712 : decode cL_law 1712 = .ok (.imul, 1) := by decide +kernel
theorem dL_law_1713 : decode cL_law 1713 = .ok (.iload 29, 2) := by decide +kernel
theorem dL_law_1715 : decode cL_law 1715 = .ok (.iadd, 1) := by decide +kernel
theorem dL_law_1716 : decode cL_law 1716 = .ok (.iaload, 1) := by decide +kernel
theorem dL_law_1717 : decode cL_law 1717 = .ok (.istore 30, 2) := by decide +kernel
theorem dL_law_1719 : decode cL_law 1719 = .ok (.goto (-43), 3) := by decide +kernel
theorem dL_law_1722 : decode cL_law 1722 = .ok (.iload 28, 2) := by decide +kernel
theorem dL_law_1724 : decode cL_law 1724 = .ok (.ifCond .eq 14, 3) := by decide +kernel
theorem dL_law_1727 : decode cL_law 1727 = .ok (.iload 30, 2) := by decide +kernel
theorem dL_law_1729 : decode cL_law 1729 = .ok (.iload 21, 2) := by decide +kernel
theorem dL_law_1731 : decode cL_law 1731 = .ok (.if_icmp .eq 7, 3) := by decide +kernel
theorem dL_law_1734 : decode cL_law 1734 = .ok (.iconst 1, 1) := by decide +kernel
theorem dL_law_1735 : decode cL_law 1735 = .ok (.goto 4, 3) := by decide +kernel
theorem dL_law_1738 : decode cL_law 1738 = .ok (.iconst 0, 1) := by decide +kernel
theorem dL_law_1739 : decode cL_law 1739 = .ok (.istore 28, 2) := by decide +kernel
theorem dL_law_1741 : decode cL_law 1741 = .ok (.iinc 29 1, 3) := by decide +kernel
theorem dL_law_1744 : decode cL_law 1744 = .ok (.goto (-160), 3) := by decide +kernel
theorem dL_law_1747 : decode cL_law 1747 = .ok (.iconst 0, 1) := by decide +kernel
theorem dL_law_1748 : decode cL_law 1748 = .ok (.istore 29, 2) := by decide +kernel
theorem dL_law_1750 : decode cL_law 1750 = .ok (.iload 23, 2) := by decide +kernel
theorem dL_law_1752 : decode cL_law 1752 = .ok (.istore 30, 2) := by decide +kernel
theorem dL_law_1754 : decode cL_law 1754 = .ok (.iload 30, 2) := by decide +kernel
theorem dL_law_1756 : decode cL_law 1756 = .ok (.iload 24, 2) := by decide +kernel
theorem dL_law_1758 : decode cL_law 1758 = .ok (.if_icmp .gt 101, 3) := by decide +kernel
theorem dL_law_1761 : decode cL_law 1761 = .ok (.iload 28, 2) := by decide +kernel
theorem dL_law_1763 : decode cL_law 1763 = .ok (.ifCond .eq 96, 3) := by decide +kernel
theorem dL_law_1766 : decode cL_law 1766 = .ok (.bipush 10, 2) := by decide +kernel
theorem dL_law_1768 : decode cL_law 1768 = .ok (.iload 21, 2) := by decide +kernel
theorem dL_law_1770 : decode cL_law 1770 = .ok (.imul, 1) := by decide +kernel
theorem dL_law_1771 : decode cL_law 1771 = .ok (.iload 30, 2) := by decide +kernel
theorem dL_law_1773 : decode cL_law 1773 = .ok (.iadd, 1) := by decide +kernel
theorem dL_law_1774 : decode cL_law 1774 = .ok (.istore 31, 2) := by decide +kernel
theorem dL_law_1776 : decode cL_law 1776 = .ok (.bipush 10, 2) := by decide +kernel
theorem dL_law_1778 : decode cL_law 1778 = .ok (.iload 22, 2) := by decide +kernel
theorem dL_law_1780 : decode cL_law 1780 = .ok (.imul, 1) := by decide +kernel
theorem dL_law_1781 : decode cL_law 1781 = .ok (.iload 30, 2) := by decide +kernel
theorem dL_law_1783 : decode cL_law 1783 = .ok (.iadd, 1) := by decide +kernel
theorem dL_law_1784 : decode cL_law 1784 = .ok (.istore 32, 2) := by decide +kernel
theorem dL_law_1786 : decode cL_law 1786 = .ok (.aload 5, 2) := by decide +kernel
theorem dL_law_1788 : decode cL_law 1788 = .ok (.iload 31, 2) := by decide +kernel
theorem dL_law_1790 : decode cL_law 1790 = .ok (.aload 5, 2) := by decide +kernel
theorem dL_law_1792 : decode cL_law 1792 = .ok (.iload 32, 2) := by decide +kernel
theorem dL_law_1794 : decode cL_law 1794 = .ok (.iaload, 1) := by decide +kernel
theorem dL_law_1795 : decode cL_law 1795 = .ok (.bipush (-2), 2) := by decide +kernel
theorem dL_law_1797 : decode cL_law 1797 = .ok (.if_icmp .ne 8, 3) := by decide +kernel
theorem dL_law_1800 : decode cL_law 1800 = .ok (.bipush (-2), 2) := by decide +kernel
theorem dL_law_1802 : decode cL_law 1802 = .ok (.goto 5, 3) := by decide +kernel
theorem dL_law_1805 : decode cL_law 1805 = .ok (.iload 22, 2) := by decide +kernel
theorem dL_law_1807 : decode cL_law 1807 = .ok (.iastore, 1) := by decide +kernel
theorem dL_law_1808 : decode cL_law 1808 = .ok (.aload_n 2, 1) := by decide +kernel
theorem dL_law_1809 : decode cL_law 1809 = .ok (.iload 31, 2) := by decide +kernel
theorem dL_law_1811 : decode cL_law 1811 = .ok (.aload_n 2, 1) := by decide +kernel
theorem dL_law_1812 : decode cL_law 1812 = .ok (.iload 32, 2) := by decide +kernel
theorem dL_law_1814 : decode cL_law 1814 = .ok (.iaload, 1) := by decide +kernel
theorem dL_law_1815 : decode cL_law 1815 = .ok (.iload 26, 2) := by decide +kernel
theorem dL_law_1817 : decode cL_law 1817 = .ok (.iadd, 1) := by decide +kernel
theorem dL_law_1818 : decode cL_law 1818 = .ok (.iastore, 1) := by decide +kernel
theorem dL_law_1819 : decode cL_law 1819 = .ok (.aload_n 3, 1) := by decide +kernel
theorem dL_law_1820 : decode cL_law 1820 = .ok (.iload 31, 2) := by decide +kernel
theorem dL_law_1822 : decode cL_law 1822 = .ok (.aload_n 3, 1) := by decide +kernel
theorem dL_law_1823 : decode cL_law 1823 = .ok (.iload 32, 2) := by decide +kernel
theorem dL_law_1825 : decode cL_law 1825 = .ok (.iaload, 1) := by decide +kernel
theorem dL_law_1826 : decode cL_law 1826 = .ok (.iload 27, 2) := by decide +kernel
theorem dL_law_1828 : decode cL_law 1828 = .ok (.iadd, 1) := by decide +kernel
theorem dL_law_1829 : decode cL_law 1829 = .ok (.iastore, 1) := by decide +kernel
theorem dL_law_1830 : decode cL_law 1830 = .ok (.aload 4, 2) := by decide +kernel
theorem dL_law_1832 : decode cL_law 1832 = .ok (.iload 31, 2) := by decide +kernel
theorem dL_law_1834 : decode cL_law 1834 = .ok (.aload 4, 2) := by decide +kernel
theorem dL_law_1836 : decode cL_law 1836 = .ok (.iload 32, 2) := by decide +kernel
theorem dL_law_1838 : decode cL_law 1838 = .ok (.iaload, 1) := by decide +kernel
theorem dL_law_1839 : decode cL_law 1839 = .ok (.iastore, 1) := by decide +kernel
theorem dL_law_1840 : decode cL_law 1840 = .ok (.aload 5, 2) := by decide +kernel
theorem dL_law_1842 : decode cL_law 1842 = .ok (.iload 31, 2) := by decide +kernel
theorem dL_law_1844 : decode cL_law 1844 = .ok (.iaload, 1) := by decide +kernel
theorem dL_law_1845 : decode cL_law 1845 = .ok (.bipush (-2), 2) := by decide +kernel
theorem dL_law_1847 : decode cL_law 1847 = .ok (.if_icmp .le 6, 3) := by decide +kernel
theorem dL_law_1850 : decode cL_law 1850 = .ok (.iinc 29 1, 3) := by decide +kernel
theorem dL_law_1853 : decode cL_law 1853 = .ok (.iinc 30 1, 3) := by decide +kernel
theorem dL_law_1856 : decode cL_law 1856 = .ok (.goto (-102), 3) := by decide +kernel
theorem dL_law_1859 : decode cL_law 1859 = .ok (.aload_n 1, 1) := by decide +kernel
theorem dL_law_1860 : decode cL_law 1860 = .ok (.iload 21, 2) := by decide +kernel
theorem dL_law_1862 : decode cL_law 1862 = .ok (.iload 22, 2) := by decide +kernel
theorem dL_law_1864 : decode cL_law 1864 = .ok (.iload 23, 2) := by decide +kernel
theorem dL_law_1866 : decode cL_law 1866 = .ok (.iload 24, 2) := by decide +kernel
theorem dL_law_1868 : decode cL_law 1868 = .ok (.invokestatic 80, 3) := by decide +kernel
theorem dL_law_1871 : decode cL_law 1871 = .ok (.iload 28, 2) := by decide +kernel
theorem dL_law_1873 : decode cL_law 1873 = .ok (.ifCond .eq 8, 3) := by decide +kernel
theorem dL_law_1876 : decode cL_law 1876 = .ok (.iload 29, 2) := by decide +kernel
theorem dL_law_1878 : decode cL_law 1878 = .ok (.goto 4, 3) := by decide +kernel
theorem dL_law_1881 : decode cL_law 1881 = .ok (.iconst (-1), 1) := by decide +kernel
theorem dL_law_1882 : decode cL_law 1882 = .ok (.if_icmp .eq 5, 3) := by decide +kernel
theorem dL_law_1885 : decode cL_law 1885 = .ok (.iconst 0, 1) := by decide +kernel
theorem dL_law_1886 : decode cL_law 1886 = .ok (.ireturn, 1) := by decide +kernel
theorem dL_law_1887 : decode cL_law 1887 = .ok (.goto 595, 3) := by decide +kernel
theorem dL_law_1890 : decode cL_law 1890 = .ok (.iload 20, 2) := by decide +kernel
theorem dL_law_1892 : decode cL_law 1892 = .ok (.iconst 4, 1) := by decide +kernel
theorem dL_law_1893 : decode cL_law 1893 = .ok (.if_icmp .ne 40, 3) := by decide +kernel
theorem dL_law_1896 : decode cL_law 1896 = .ok (.iload 16, 2) := by decide +kernel
theorem dL_law_1898 : decode cL_law 1898 = .ok (.iconst 4, 1) := by decide +kernel
theorem dL_law_1899 : decode cL_law 1899 = .ok (.if_icmp .ge 34, 3) := by decide +kernel
theorem dL_law_1902 : decode cL_law 1902 = .ok (.aload_n 1, 1) := by decide +kernel
theorem dL_law_1903 : decode cL_law 1903 = .ok (.iload 21, 2) := by decide +kernel
theorem dL_law_1905 : decode cL_law 1905 = .ok (.iconst 5, 1) := by decide +kernel
theorem dL_law_1906 : decode cL_law 1906 = .ok (.bipush (-5), 2) := by decide +kernel
theorem dL_law_1908 : decode cL_law 1908 = .ok (.invokevirtual 84, 3) := by decide +kernel
theorem dL_law_1911 : decode cL_law 1911 = .ok (.iload 16, 2) := by decide +kernel
theorem dL_law_1913 : decode cL_law 1913 = .ok (.if_icmp .eq 5, 3) := by decide +kernel
theorem dL_law_1916 : decode cL_law 1916 = .ok (.iconst 0, 1) := by decide +kernel
theorem dL_law_1917 : decode cL_law 1917 = .ok (.ireturn, 1) := by decide +kernel
theorem dL_law_1918 : decode cL_law 1918 = .ok (.aload 7, 2) := by decide +kernel
theorem dL_law_1920 : decode cL_law 1920 = .ok (.iload 16, 2) := by decide +kernel
theorem dL_law_1922 : decode cL_law 1922 = .ok (.iconst 1, 1) := by decide +kernel
theorem dL_law_1923 : decode cL_law 1923 = .ok (.iload 21, 2) := by decide +kernel
theorem dL_law_1925 : decode cL_law 1925 = .ok (.ishl, 1) := by decide +kernel
theorem dL_law_1926 : decode cL_law 1926 = .ok (.iastore, 1) := by decide +kernel
theorem dL_law_1927 : decode cL_law 1927 = .ok (.iinc 16 1, 3) := by decide +kernel
theorem dL_law_1930 : decode cL_law 1930 = .ok (.goto 552, 3) := by decide +kernel
theorem dL_law_1933 : decode cL_law 1933 = .ok (.iload 20, 2) := by decide +kernel
theorem dL_law_1935 : decode cL_law 1935 = .ok (.iconst 5, 1) := by decide +kernel
theorem dL_law_1936 : decode cL_law 1936 = .ok (.if_icmp .ne 84, 3) := by decide +kernel
theorem dL_law_1939 : decode cL_law 1939 = .ok (.iload 19, 2) := by decide +kernel
theorem dL_law_1941 : decode cL_law 1941 = .ok (.bipush 10, 2) := by decide +kernel
theorem dL_law_1943 : decode cL_law 1943 = .ok (.invokestatic 57, 3) := by decide +kernel
theorem dL_law_1946 : decode cL_law 1946 = .ok (.istore 22, 2) := by decide +kernel
theorem dL_law_1948 : decode cL_law 1948 = .ok (.iload 19, 2) := by decide +kernel
theorem dL_law_1950 : decode cL_law 1950 = .ok (.iconst 4, 1) := by decide +kernel
theorem dL_law_1951 : decode cL_law 1951 = .ok (.ishr, 1) := by decide +kernel
theorem dL_law_1952 : decode cL_law 1952 = .ok (.bipush 10, 2) := by decide +kernel
theorem dL_law_1954 : decode cL_law 1954 = .ok (.invokestatic 57, 3) := by decide +kernel
theorem dL_law_1957 : decode cL_law 1957 = .ok (.istore 23, 2) := by decide +kernel
theorem dL_law_1959 : decode cL_law 1959 = .ok (.aload_n 1, 1) := by decide +kernel
theorem dL_law_1960 : decode cL_law 1960 = .ok (.iload 21, 2) := by decide +kernel
theorem dL_law_1962 : decode cL_law 1962 = .ok (.iload 22, 2) := by decide +kernel
theorem dL_law_1964 : decode cL_law 1964 = .ok (.iload 23, 2) := by decide +kernel
theorem dL_law_1966 : decode cL_law 1966 = .ok (.invokevirtual 87, 3) := by decide +kernel
theorem dL_law_1969 : decode cL_law 1969 = .ok (.aload 4, 2) := by decide +kernel
theorem dL_law_1971 : decode cL_law 1971 = .ok (.bipush 10, 2) := by decide +kernel
theorem dL_law_1973 : decode cL_law 1973 = .ok (.iload 21, 2) := by decide +kernel
theorem dL_law_1975 : decode cL_law 1975 = .ok (.imul, 1) := by decide +kernel
theorem dL_law_1976 : decode cL_law 1976 = .ok (.iload 22, 2) := by decide +kernel
theorem dL_law_1978 : decode cL_law 1978 = .ok (.iadd, 1) := by decide +kernel
theorem dL_law_1979 : decode cL_law 1979 = .ok (.iaload, 1) := by decide +kernel
theorem dL_law_1980 : decode cL_law 1980 = .ok (.istore 24, 2) := by decide +kernel
theorem dL_law_1982 : decode cL_law 1982 = .ok (.aload 4, 2) := by decide +kernel
theorem dL_law_1984 : decode cL_law 1984 = .ok (.bipush 10, 2) := by decide +kernel
theorem dL_law_1986 : decode cL_law 1986 = .ok (.iload 21, 2) := by decide +kernel
theorem dL_law_1988 : decode cL_law 1988 = .ok (.imul, 1) := by decide +kernel
theorem dL_law_1989 : decode cL_law 1989 = .ok (.iload 22, 2) := by decide +kernel
theorem dL_law_1991 : decode cL_law 1991 = .ok (.iadd, 1) := by decide +kernel
theorem dL_law_1992 : decode cL_law 1992 = .ok (.aload 4, 2) := by decide +kernel
theorem dL_law_1994 : decode cL_law 1994 = .ok (.bipush 10, 2) := by decide +kernel
theorem dL_law_1996 : decode cL_law 1996 = .ok (.iload 21, 2) := by decide +kernel
theorem dL_law_1998 : decode cL_law 1998 = .ok (.imul, 1) := by decide +kernel
theorem dL_law_1999 : decode cL_law 1999 = .ok (.iload 23, 2) := by decide +kernel
theorem dL_law_2001 : decode cL_law 2001 = .ok (.iadd, 1) := by decide +kernel
theorem dL_law_2002 : decode cL_law 2002 = .ok (.iaload, 1) := by decide +kernel
theorem dL_law_2003 : decode cL_law 2003 = .ok (.iastore, 1) := by decide +kernel
theorem dL_law_2004 : decode cL_law 2004 = .ok (.aload 4, 2) := by decide +kernel
theorem dL_law_2006 : decode cL_law 2006 = .ok (.bipush 10, 2) := by decide +kernel
theorem dL_law_2008 : decode cL_law 2008 = .ok (.iload 21, 2) := by decide +kernel
theorem dL_law_2010 : decode cL_law 2010 = .ok (.imul, 1) := by decide +kernel
theorem dL_law_2011 : decode cL_law 2011 = .ok (.iload 23, 2) := by decide +kernel
theorem dL_law_2013 : decode cL_law 2013 = .ok (.iadd, 1) := by decide +kernel
theorem dL_law_2014 : decode cL_law 2014 = .ok (.iload 24, 2) := by decide +kernel
theorem dL_law_2016 : decode cL_law 2016 = .ok (.iastore, 1) := by decide +kernel
theorem dL_law_2017 : decode cL_law 2017 = .ok (.goto 465, 3) := by decide +kernel
theorem dL_law_2020 : decode cL_law 2020 = .ok (.iload 20, 2) := by decide +kernel
theorem dL_law_2022 : decode cL_law 2022 = .ok (.bipush 6, 2) := by decide +kernel
theorem dL_law_2024 : decode cL_law 2024 = .ok (.if_icmp .ne 104, 3) := by decide +kernel
theorem dL_law_2027 : decode cL_law 2027 = .ok (.iload 19, 2) := by decide +kernel
theorem dL_law_2029 : decode cL_law 2029 = .ok (.iconst 4, 1) := by decide +kernel
theorem dL_law_2030 : decode cL_law 2030 = .ok (.invokestatic 57, 3) := by decide +kernel
theorem dL_law_2033 : decode cL_law 2033 = .ok (.istore 22, 2) := by decide +kernel
theorem dL_law_2035 : decode cL_law 2035 = .ok (.iload 19, 2) := by decide +kernel
theorem dL_law_2037 : decode cL_law 2037 = .ok (.iconst 2, 1) := by decide +kernel
theorem dL_law_2038 : decode cL_law 2038 = .ok (.ishr, 1) := by decide +kernel
theorem dL_law_2039 : decode cL_law 2039 = .ok (.bipush 19, 2) := by decide +kernel
theorem dL_law_2041 : decode cL_law 2041 = .ok (.invokestatic 57, 3) := by decide +kernel
theorem dL_law_2044 : decode cL_law 2044 = .ok (.bipush 9, 2) := by decide +kernel
theorem dL_law_2046 : decode cL_law 2046 = .ok (.isub, 1) := by decide +kernel
theorem dL_law_2047 : decode cL_law 2047 = .ok (.istore 23, 2) := by decide +kernel
theorem dL_law_2049 : decode cL_law 2049 = .ok (.aload_n 1, 1) := by decide +kernel
theorem dL_law_2050 : decode cL_law 2050 = .ok (.iload 22, 2) := by decide +kernel
theorem dL_law_2052 : decode cL_law 2052 = .ok (.iload 23, 2) := by decide +kernel
theorem dL_law_2054 : decode cL_law 2054 = .ok (.invokevirtual 91, 3) := by decide +kernel
theorem dL_law_2057 : decode cL_law 2057 = .ok (.aload 9, 2) := by decide +kernel
theorem dL_law_2059 : decode cL_law 2059 = .ok (.iload 22, 2) := by decide +kernel
theorem dL_law_2061 : decode cL_law 2061 = .ok (.iaload, 1) := by decide +kernel
theorem dL_law_2062 : decode cL_law 2062 = .ok (.if_icmp .eq 5, 3) := by decide +kernel
theorem dL_law_2065 : decode cL_law 2065 = .ok (.iconst 0, 1) := by decide +kernel
theorem dL_law_2066 : decode cL_law 2066 = .ok (.ireturn, 1) := by decide +kernel
theorem dL_law_2067 : decode cL_law 2067 = .ok (.aload 9, 2) := by decide +kernel
theorem dL_law_2069 : decode cL_law 2069 = .ok (.iload 22, 2) := by decide +kernel
theorem dL_law_2071 : decode cL_law 2071 = .ok (.iload 23, 2) := by decide +kernel
theorem dL_law_2073 : decode cL_law 2073 = .ok (.iastore, 1) := by decide +kernel
theorem dL_law_2074 : decode cL_law 2074 = .ok (.iconst 1, 1) := by decide +kernel
theorem dL_law_2075 : decode cL_law 2075 = .ok (.iload 19, 2) := by decide +kernel
theorem dL_law_2077 : decode cL_law 2077 = .ok (.bipush 8, 2) := by decide +kernel
theorem dL_law_2079 : decode cL_law 2079 = .ok (.ishr, 1) := by decide +kernel
theorem dL_law_2080 : decode cL_law 2080 = .ok (.bipush 10, 2) := by decide +kernel
theorem dL_law_2082 : decode cL_law 2082 = .ok (.invokestatic 57, 3) := by decide +kernel
theorem dL_law_2085 : decode cL_law 2085 = .ok (.iadd, 1) := by decide +kernel
theorem dL_law_2086 : decode cL_law 2086 = .ok (.istore 24, 2) := by decide +kernel
theorem dL_law_2088 : decode cL_law 2088 = .ok (.iconst 1, 1) := by decide +kernel
theorem dL_law_2089 : decode cL_law 2089 = .ok (.iload 19, 2) := by decide +kernel
theorem dL_law_2091 : decode cL_law 2091 = .ok (.bipush 12, 2) := by decide +kernel
theorem dL_law_2093 : decode cL_law 2093 = .ok (.ishr, 1) := by decide +kernel
theorem dL_law_2094 : decode cL_law 2094 = .ok (.bipush 12, 2) := by decide +kernel
theorem dL_law_2096 : decode cL_law 2096 = .ok (.invokestatic 57, 3) := by decide +kernel
theorem dL_law_2099 : decode cL_law 2099 = .ok (.iadd, 1) := by decide +kernel
theorem dL_law_2100 : decode cL_law 2100 = .ok (.istore 25, 2) := by decide +kernel
theorem dL_law_2102 : decode cL_law 2102 = .ok (.aload_n 1, 1) := by decide +kernel
theorem dL_law_2103 : decode cL_law 2103 = .ok (.iload 22, 2) := by decide +kernel
theorem dL_law_2105 : decode cL_law 2105 = .ok (.iload 24, 2) := by decide +kernel
theorem dL_law_2107 : decode cL_law 2107 = .ok (.iload 25, 2) := by decide +kernel
theorem dL_law_2109 : decode cL_law 2109 = .ok (.invokevirtual 94, 3) := by decide +kernel
theorem dL_law_2112 : decode cL_law 2112 = .ok (.aload 10, 2) := by decide +kernel
theorem dL_law_2114 : decode cL_law 2114 = .ok (.bipush 16, 2) := by decide +kernel
theorem dL_law_2116 : decode cL_law 2116 = .ok (.iload 22, 2) := by decide +kernel
theorem dL_law_2118 : decode cL_law 2118 = .ok (.imul, 1) := by decide +kernel
theorem dL_law_2119 : decode cL_law 2119 = .ok (.iload 24, 2) := by decide +kernel
theorem dL_law_2121 : decode cL_law 2121 = .ok (.iadd, 1) := by decide +kernel
theorem dL_law_2122 : decode cL_law 2122 = .ok (.iload 25, 2) := by decide +kernel
theorem dL_law_2124 : decode cL_law 2124 = .ok (.iastore, 1) := by decide +kernel
theorem dL_law_2125 : decode cL_law 2125 = .ok (.goto 357, 3) := by decide +kernel
theorem dL_law_2128 : decode cL_law 2128 = .ok (.iload 20, 2) := by decide +kernel
theorem dL_law_2130 : decode cL_law 2130 = .ok (.bipush 7, 2) := by decide +kernel
theorem dL_law_2132 : decode cL_law 2132 = .ok (.if_icmp .ne 212, 3) := by decide +kernel
theorem dL_law_2135 : decode cL_law 2135 = .ok (.bipush 80, 2) := by decide +kernel
theorem dL_law_2137 : decode cL_law 2137 = .ok (.iload 19, 2) := by decide +kernel
theorem dL_law_2139 : decode cL_law 2139 = .ok (.bipush 41, 2) := by decide +kernel
theorem dL_law_2141 : decode cL_law 2141 = .ok (.invokestatic 57, 3) := by decide +kernel
theorem dL_law_2144 : decode cL_law 2144 = .ok (.iadd, 1) := by decide +kernel
theorem dL_law_2145 : decode cL_law 2145 = .ok (.istore 22, 2) := by decide +kernel
theorem dL_law_2147 : decode cL_law 2147 = .ok (.iconst 1, 1) := by decide +kernel
theorem dL_law_2148 : decode cL_law 2148 = .ok (.istore 23, 2) := by decide +kernel
theorem dL_law_2150 : decode cL_law 2150 = .ok (.iconst 0, 1) := by decide +kernel
theorem dL_law_2151 : decode cL_law 2151 = .ok (.istore 24, 2) := by decide +kernel
theorem dL_law_2153 : decode cL_law 2153 = .ok (.iload 24, 2) := by decide +kernel
theorem dL_law_2155 : decode cL_law 2155 = .ok (.bipush 8, 2) := by decide +kernel
theorem dL_law_2157 : decode cL_law 2157 = .ok (.if_icmp .ge 87, 3) := by decide +kernel
theorem dL_law_2160 : decode cL_law 2160 = .ok (.aload 5, 2) := by decide +kernel
theorem dL_law_2162 : decode cL_law 2162 = .ok (.bipush 10, 2) := by decide +kernel
theorem dL_law_2164 : decode cL_law 2164 = .ok (.iload 21, 2) := by decide +kernel
theorem dL_law_2166 : decode cL_law 2166 = .ok (.imul, 1) := by decide +kernel
theorem dL_law_2167 : decode cL_law 2167 = .ok (.iload 24, 2) := by decide +kernel
theorem dL_law_2169 : decode cL_law 2169 = .ok (.iadd, 1) := by decide +kernel
theorem dL_law_2170 : decode cL_law 2170 = .ok (.iaload, 1) := by decide +kernel
theorem dL_law_2171 : decode cL_law 2171 = .ok (.bipush (-2), 2) := by decide +kernel
theorem dL_law_2173 : decode cL_law 2173 = .ok (.if_icmp .le 65, 3) := by decide +kernel
theorem dL_law_2176 : decode cL_law 2176 = .ok (.iload 23, 2) := by decide +kernel
theorem dL_law_2178 : decode cL_law 2178 = .ok (.ifCond .eq 57, 3) := by decide +kernel
theorem dL_law_2181 : decode cL_law 2181 = .ok (.aload_n 2, 1) := by decide +kernel
theorem dL_law_2182 : decode cL_law 2182 = .ok (.bipush 10, 2) := by decide +kernel
theorem dL_law_2184 : decode cL_law 2184 = .ok (.iload 21, 2) := by decide +kernel
theorem dL_law_2186 : decode cL_law 2186 = .ok (.imul, 1) := by decide +kernel
theorem dL_law_2187 : decode cL_law 2187 = .ok (.iload 24, 2) := by decide +kernel
theorem dL_law_2189 : decode cL_law 2189 = .ok (.iadd, 1) := by decide +kernel
theorem dL_law_2190 : decode cL_law 2190 = .ok (.iaload, 1) := by decide +kernel
theorem dL_law_2191 : decode cL_law 2191 = .ok (.iload 22, 2) := by decide +kernel
theorem dL_law_2193 : decode cL_law 2193 = .ok (.imul, 1) := by decide +kernel
theorem dL_law_2194 : decode cL_law 2194 = .ok (.bipush 100, 2) := by decide +kernel
theorem dL_law_2196 : decode cL_law 2196 = .ok (.idiv, 1) := by decide +kernel
theorem dL_law_2197 : decode cL_law 2197 = .ok (.invokestatic 34, 3) := by decide +kernel
theorem dL_law_2200 : decode cL_law 2200 = .ok (.sipush 10000, 3) := by decide +kernel
theorem dL_law_2203 : decode cL_law 2203 = .ok (.if_icmp .ge 32, 3) := by decide +kernel
theorem dL_law_2206 : decode cL_law 2206 = .ok (.aload_n 3, 1) := by decide +kernel
theorem dL_law_2207 : decode cL_law 2207 = .ok (.bipush 10, 2) := by decide +kernel
theorem dL_law_2209 : decode cL_law 2209 = .ok (.iload 21, 2) := by decide +kernel
theorem dL_law_2211 : decode cL_law 2211 = .ok (.imul, 1) := by decide +kernel
theorem dL_law_2212 : decode cL_law 2212 = .ok (.iload 24, 2) := by decide +kernel
theorem dL_law_2214 : decode cL_law 2214 = .ok (.iadd, 1) := by decide +kernel
theorem dL_law_2215 : decode cL_law 2215 = .ok (.iaload, 1) := by decide +kernel
theorem dL_law_2216 : decode cL_law 2216 = .ok (.iload 22, 2) := by decide +kernel
theorem dL_law_2218 : decode cL_law 2218 = .ok (.imul, 1) := by decide +kernel
theorem dL_law_2219 : decode cL_law 2219 = .ok (.bipush 100, 2) := by decide +kernel
theorem dL_law_2221 : decode cL_law 2221 = .ok (.idiv, 1) := by decide +kernel
theorem dL_law_2222 : decode cL_law 2222 = .ok (.invokestatic 34, 3) := by decide +kernel
theorem dL_law_2225 : decode cL_law 2225 = .ok (.sipush 10000, 3) := by decide +kernel
theorem dL_law_2228 : decode cL_law 2228 = .ok (.if_icmp .ge 7, 3) := by decide +kernel
theorem dL_law_2231 : decode cL_law 2231 = .ok (.iconst 1, 1) := by decide +kernel
theorem dL_law_2232 : decode cL_law 2232 = .ok (.goto 4, 3) := by decide +kernel
theorem dL_law_2235 : decode cL_law 2235 = .ok (.iconst 0, 1) := by decide +kernel
theorem dL_law_2236 : decode cL_law 2236 = .ok (.istore 23, 2) := by decide +kernel
theorem dL_law_2238 : decode cL_law 2238 = .ok (.iinc 24 1, 3) := by decide +kernel
theorem dL_law_2241 : decode cL_law 2241 = .ok (.goto (-88), 3) := by decide +kernel
theorem dL_law_2244 : decode cL_law 2244 = .ok (.aload_n 1, 1) := by decide +kernel
theorem dL_law_2245 : decode cL_law 2245 = .ok (.iload 21, 2) := by decide +kernel
theorem dL_law_2247 : decode cL_law 2247 = .ok (.iload 22, 2) := by decide +kernel
theorem dL_law_2249 : decode cL_law 2249 = .ok (.invokestatic 97, 3) := by decide +kernel
theorem dL_law_2252 : decode cL_law 2252 = .ok (.iload 23, 2) := by decide +kernel
theorem dL_law_2254 : decode cL_law 2254 = .ok (.ifCond .eq 8, 3) := by decide +kernel
theorem dL_law_2257 : decode cL_law 2257 = .ok (.bipush 100, 2) := by decide +kernel
theorem dL_law_2259 : decode cL_law 2259 = .ok (.goto 4, 3) := by decide +kernel
theorem dL_law_2262 : decode cL_law 2262 = .ok (.iconst (-1), 1) := by decide +kernel
theorem dL_law_2263 : decode cL_law 2263 = .ok (.if_icmp .eq 5, 3) := by decide +kernel
theorem dL_law_2266 : decode cL_law 2266 = .ok (.iconst 0, 1) := by decide +kernel
theorem dL_law_2267 : decode cL_law 2267 = .ok (.ireturn, 1) := by decide +kernel
theorem dL_law_2268 : decode cL_law 2268 = .ok (.iconst 0, 1) := by decide +kernel
theorem dL_law_2269 : decode cL_law 2269 = .ok (.istore 24, 2) := by decide +kernel
theorem dL_law_2271 : decode cL_law 2271 = .ok (.iload 24, 2) := by decide +kernel
theorem dL_law_2273 : decode cL_law 2273 = .ok (.bipush 8, 2) := by decide +kernel
theorem dL_law_2275 : decode cL_law 2275 = .ok (.if_icmp .ge 66, 3) := by decide +kernel
theorem dL_law_2278 : decode cL_law 2278 = .ok (.iload 23, 2) := by decide +kernel
theorem dL_law_2280 : decode cL_law 2280 = .ok (.ifCond .eq 61, 3) := by decide +kernel
theorem dL_law_2283 : decode cL_law 2283 = .ok (.aload_n 2, 1) := by decide +kernel
theorem dL_law_2284 : decode cL_law 2284 = .ok (.bipush 10, 2) := by decide +kernel
theorem dL_law_2286 : decode cL_law 2286 = .ok (.iload 21, 2) := by decide +kernel
theorem dL_law_2288 : decode cL_law 2288 = .ok (.imul, 1) := by decide +kernel
theorem dL_law_2289 : decode cL_law 2289 = .ok (.iload 24, 2) := by decide +kernel
theorem dL_law_2291 : decode cL_law 2291 = .ok (.iadd, 1) := by decide +kernel
theorem dL_law_2292 : decode cL_law 2292 = .ok (.aload_n 2, 1) := by decide +kernel
theorem dL_law_2293 : decode cL_law 2293 = .ok (.bipush 10, 2) := by decide +kernel
theorem dL_law_2295 : decode cL_law 2295 = .ok (.iload 21, 2) := by decide +kernel
theorem dL_law_2297 : decode cL_law 2297 = .ok (.imul, 1) := by decide +kernel
theorem dL_law_2298 : decode cL_law 2298 = .ok (.iload 24, 2) := by decide +kernel
theorem dL_law_2300 : decode cL_law 2300 = .ok (.iadd, 1) := by decide +kernel
theorem dL_law_2301 : decode cL_law 2301 = .ok (.iaload, 1) := by decide +kernel
theorem dL_law_2302 : decode cL_law 2302 = .ok (.iload 22, 2) := by decide +kernel
theorem dL_law_2304 : decode cL_law 2304 = .ok (.imul, 1) := by decide +kernel
theorem dL_law_2305 : decode cL_law 2305 = .ok (.bipush 100, 2) := by decide +kernel
theorem dL_law_2307 : decode cL_law 2307 = .ok (.idiv, 1) := by decide +kernel
theorem dL_law_2308 : decode cL_law 2308 = .ok (.iastore, 1) := by decide +kernel
theorem dL_law_2309 : decode cL_law 2309 = .ok (.aload_n 3, 1) := by decide +kernel
theorem dL_law_2310 : decode cL_law 2310 = .ok (.bipush 10, 2) := by decide +kernel
theorem dL_law_2312 : decode cL_law 2312 = .ok (.iload 21, 2) := by decide +kernel
theorem dL_law_2314 : decode cL_law 2314 = .ok (.imul, 1) := by decide +kernel
theorem dL_law_2315 : decode cL_law 2315 = .ok (.iload 24, 2) := by decide +kernel
theorem dL_law_2317 : decode cL_law 2317 = .ok (.iadd, 1) := by decide +kernel
theorem dL_law_2318 : decode cL_law 2318 = .ok (.aload_n 3, 1) := by decide +kernel
theorem dL_law_2319 : decode cL_law 2319 = .ok (.bipush 10, 2) := by decide +kernel
theorem dL_law_2321 : decode cL_law 2321 = .ok (.iload 21, 2) := by decide +kernel
theorem dL_law_2323 : decode cL_law 2323 = .ok (.imul, 1) := by decide +kernel
theorem dL_law_2324 : decode cL_law 2324 = .ok (.iload 24, 2) := by decide +kernel
theorem dL_law_2326 : decode cL_law 2326 = .ok (.iadd, 1) := by decide +kernel
theorem dL_law_2327 : decode cL_law 2327 = .ok (.iaload, 1) := by decide +kernel
theorem dL_law_2328 : decode cL_law 2328 = .ok (.iload 22, 2) := by decide +kernel
theorem dL_law_2330 : decode cL_law 2330 = .ok (.imul, 1) := by decide +kernel
theorem dL_law_2331 : decode cL_law 2331 = .ok (.bipush 100, 2) := by decide +kernel
theorem dL_law_2333 : decode cL_law 2333 = .ok (.idiv, 1) := by decide +kernel
theorem dL_law_2334 : decode cL_law 2334 = .ok (.iastore, 1) := by decide +kernel
theorem dL_law_2335 : decode cL_law 2335 = .ok (.iinc 24 1, 3) := by decide +kernel
theorem dL_law_2338 : decode cL_law 2338 = .ok (.goto (-67), 3) := by decide +kernel
theorem dL_law_2341 : decode cL_law 2341 = .ok (.goto 141, 3) := by decide +kernel
theorem dL_law_2344 : decode cL_law 2344 = .ok (.iload 19, 2) := by decide +kernel
theorem dL_law_2346 : decode cL_law 2346 = .ok (.iconst 3, 1) := by decide +kernel
theorem dL_law_2347 : decode cL_law 2347 = .ok (.invokestatic 57, 3) := by decide +kernel
theorem dL_law_2350 : decode cL_law 2350 = .ok (.ifCond .ne 70, 3) := by decide +kernel
theorem dL_law_2353 : decode cL_law 2353 = .ok (.iload 19, 2) := by decide +kernel
theorem dL_law_2355 : decode cL_law 2355 = .ok (.iconst 2, 1) := by decide +kernel
theorem dL_law_2356 : decode cL_law 2356 = .ok (.ishr, 1) := by decide +kernel
theorem dL_law_2357 : decode cL_law 2357 = .ok (.bipush 10, 2) := by decide +kernel
theorem dL_law_2359 : decode cL_law 2359 = .ok (.invokestatic 57, 3) := by decide +kernel
theorem dL_law_2362 : decode cL_law 2362 = .ok (.istore 22, 2) := by decide +kernel
theorem dL_law_2364 : decode cL_law 2364 = .ok (.aload 5, 2) := by decide +kernel
theorem dL_law_2366 : decode cL_law 2366 = .ok (.bipush 10, 2) := by decide +kernel
theorem dL_law_2368 : decode cL_law 2368 = .ok (.iload 21, 2) := by decide +kernel
theorem dL_law_2370 : decode cL_law 2370 = .ok (.imul, 1) := by decide +kernel
theorem dL_law_2371 : decode cL_law 2371 = .ok (.iload 22, 2) := by decide +kernel
theorem dL_law_2373 : decode cL_law 2373 = .ok (.iadd, 1) := by decide +kernel
theorem dL_law_2374 : decode cL_law 2374 = .ok (.iaload, 1) := by decide +kernel
theorem dL_law_2375 : decode cL_law 2375 = .ok (.bipush (-2), 2) := by decide +kernel
theorem dL_law_2377 : decode cL_law 2377 = .ok (.if_icmp .le 7, 3) := by decide +kernel
theorem dL_law_2380 : decode cL_law 2380 = .ok (.iconst 1, 1) := by decide +kernel
theorem dL_law_2381 : decode cL_law 2381 = .ok (.goto 4, 3) := by decide +kernel
theorem dL_law_2384 : decode cL_law 2384 = .ok (.iconst 0, 1) := by decide +kernel
theorem dL_law_2385 : decode cL_law 2385 = .ok (.istore 23, 2) := by decide +kernel
theorem dL_law_2387 : decode cL_law 2387 = .ok (.aload_n 1, 1) := by decide +kernel
theorem dL_law_2388 : decode cL_law 2388 = .ok (.iload 21, 2) := by decide +kernel
theorem dL_law_2390 : decode cL_law 2390 = .ok (.iload 22, 2) := by decide +kernel
theorem dL_law_2392 : decode cL_law 2392 = .ok (.iload 22, 2) := by decide +kernel
theorem dL_law_2394 : decode cL_law 2394 = .ok (.invokevirtual 101, 3) := by decide +kernel
theorem dL_law_2397 : decode cL_law 2397 = .ok (.iload 23, 2) := by decide +kernel
theorem dL_law_2399 : decode cL_law 2399 = .ok (.if_icmp .eq 5, 3) := by decide +kernel
theorem dL_law_2402 : decode cL_law 2402 = .ok (.iconst 0, 1) := by decide +kernel
theorem dL_law_2403 : decode cL_law 2403 = .ok (.ireturn, 1) := by decide +kernel
theorem dL_law_2404 : decode cL_law 2404 = .ok (.aload 5, 2) := by decide +kernel
theorem dL_law_2406 : decode cL_law 2406 = .ok (.bipush 10, 2) := by decide +kernel
theorem dL_law_2408 : decode cL_law 2408 = .ok (.iload 21, 2) := by decide +kernel
theorem dL_law_2410 : decode cL_law 2410 = .ok (.imul, 1) := by decide +kernel
theorem dL_law_2411 : decode cL_law 2411 = .ok (.iload 22, 2) := by decide +kernel
theorem dL_law_2413 : decode cL_law 2413 = .ok (.iadd, 1) := by decide +kernel
theorem dL_law_2414 : decode cL_law 2414 = .ok (.bipush (-2), 2) := by decide +kernel
theorem dL_law_2416 : decode cL_law 2416 = .ok (.iastore, 1) := by decide +kernel
theorem dL_law_2417 : decode cL_law 2417 = .ok (.goto 65, 3) := by decide +kernel
theorem dL_law_2420 : decode cL_law 2420 = .ok (.iload 16, 2) := by decide +kernel
theorem dL_law_2422 : decode cL_law 2422 = .ok (.ifCond .le 60, 3) := by decide +kernel
theorem dL_law_2425 : decode cL_law 2425 = .ok (.iload 19, 2) := by decide +kernel
theorem dL_law_2427 : decode cL_law 2427 = .ok (.iconst 2, 1) := by decide +kernel
theorem dL_law_2428 : decode cL_law 2428 = .ok (.ishr, 1) := by decide +kernel
theorem dL_law_2429 : decode cL_law 2429 = .ok (.iload 16, 2) := by decide +kernel
theorem dL_law_2431 : decode cL_law 2431 = .ok (.invokestatic 57, 3) := by decide +kernel
theorem dL_law_2434 : decode cL_law 2434 = .ok (.istore 22, 2) := by decide +kernel
theorem dL_law_2436 : decode cL_law 2436 = .ok (.aload_n 1, 1) := by decide +kernel
theorem dL_law_2437 : decode cL_law 2437 = .ok (.iload 21, 2) := by decide +kernel
theorem dL_law_2439 : decode cL_law 2439 = .ok (.iload 22, 2) := by decide +kernel
theorem dL_law_2441 : decode cL_law 2441 = .ok (.invokevirtual 104, 3) := by decide +kernel
theorem dL_law_2444 : decode cL_law 2444 = .ok (.aload 7, 2) := by decide +kernel
theorem dL_law_2446 : decode cL_law 2446 = .ok (.iload 22, 2) := by decide +kernel
theorem dL_law_2448 : decode cL_law 2448 = .ok (.iaload, 1) := by decide +kernel
theorem dL_law_2449 : decode cL_law 2449 = .ok (.iload 21, 2) := by decide +kernel
theorem dL_law_2451 : decode cL_law 2451 = .ok (.ishr, 1) := by decide +kernel
theorem dL_law_2452 : decode cL_law 2452 = .ok (.iconst 1, 1) := by decide +kernel
theorem dL_law_2453 : decode cL_law 2453 = .ok (.iand, 1) := by decide +kernel
theorem dL_law_2454 : decode cL_law 2454 = .ok (.iconst 1, 1) := by decide +kernel
theorem dL_law_2455 : decode cL_law 2455 = .ok (.if_icmp .ne 7, 3) := by decide +kernel
theorem dL_law_2458 : decode cL_law 2458 = .ok (.iconst 1, 1) := by decide +kernel
theorem dL_law_2459 : decode cL_law 2459 = .ok (.goto 4, 3) := by decide +kernel
theorem dL_law_2462 : decode cL_law 2462 = .ok (.iconst 0, 1) := by decide +kernel
theorem dL_law_2463 : decode cL_law 2463 = .ok (.if_icmp .eq 5, 3) := by decide +kernel
theorem dL_law_2466 : decode cL_law 2466 = .ok (.iconst 0, 1) := by decide +kernel
theorem dL_law_2467 : decode cL_law 2467 = .ok (.ireturn, 1) := by decide +kernel
theorem dL_law_2468 : decode cL_law 2468 = .ok (.aload 7, 2) := by decide +kernel
theorem dL_law_2470 : decode cL_law 2470 = .ok (.iload 22, 2) := by decide +kernel
theorem dL_law_2472 : decode cL_law 2472 = .ok (.dup2, 1) := by decide +kernel
theorem dL_law_2473 : decode cL_law 2473 = .ok (.iaload, 1) := by decide +kernel
theorem dL_law_2474 : decode cL_law 2474 = .ok (.iconst (-1), 1) := by decide +kernel
theorem dL_law_2475 : decode cL_law 2475 = .ok (.iconst 1, 1) := by decide +kernel
theorem dL_law_2476 : decode cL_law 2476 = .ok (.iload 21, 2) := by decide +kernel
theorem dL_law_2478 : decode cL_law 2478 = .ok (.ishl, 1) := by decide +kernel
theorem dL_law_2479 : decode cL_law 2479 = .ok (.isub, 1) := by decide +kernel
theorem dL_law_2480 : decode cL_law 2480 = .ok (.iand, 1) := by decide +kernel
theorem dL_law_2481 : decode cL_law 2481 = .ok (.iastore, 1) := by decide +kernel
theorem dL_law_2482 : decode cL_law 2482 = .ok (.aload_n 1, 1) := by decide +kernel
theorem dL_law_2483 : decode cL_law 2483 = .ok (.aload_n 2, 1) := by decide +kernel
theorem dL_law_2484 : decode cL_law 2484 = .ok (.aload_n 3, 1) := by decide +kernel
theorem dL_law_2485 : decode cL_law 2485 = .ok (.aload 4, 2) := by decide +kernel
theorem dL_law_2487 : decode cL_law 2487 = .ok (.aload 5, 2) := by decide +kernel
theorem dL_law_2489 : decode cL_law 2489 = .ok (.aload 6, 2) := by decide +kernel
theorem dL_law_2491 : decode cL_law 2491 = .ok (.aload 7, 2) := by decide +kernel
theorem dL_law_2493 : decode cL_law 2493 = .ok (.iload 15, 2) := by decide +kernel
theorem dL_law_2495 : decode cL_law 2495 = .ok (.invokestatic 108, 3) := by decide +kernel
theorem dL_law_2498 : decode cL_law 2498 = .ok (.ifCond .ne 5, 3) := by decide +kernel
theorem dL_law_2501 : decode cL_law 2501 = .ok (.iconst 0, 1) := by decide +kernel
theorem dL_law_2502 : decode cL_law 2502 = .ok (.ireturn, 1) := by decide +kernel
theorem dL_law_2503 : decode cL_law 2503 = .ok (.iinc 17 1, 3) := by decide +kernel
theorem dL_law_2506 : decode cL_law 2506 = .ok (.goto (-1903), 3) := by decide +kernel
theorem dL_law_2509 : decode cL_law 2509 = .ok (.iconst 1, 1) := by decide +kernel
theorem dL_law_2510 : decode cL_law 2510 = .ok (.ireturn, 1) := by decide +kernel
