/-! THE LAW: its instructions, 3 -/
theorem dL_1082 : decode code 1082 = .ok (.iload_n 3, 1) := by decide +kernel
theorem dL_1083 : decode code 1083 = .ok (.iconst 3, 1) := by decide +kernel
theorem dL_1084 : decode code 1084 = .ok (.iadd, 1) := by decide +kernel
theorem dL_1085 : decode code 1085 = .ok (.iaload, 1) := by decide +kernel
theorem dL_1086 : decode code 1086 = .ok (.aload_n 0, 1) := by decide +kernel
theorem dL_1087 : decode code 1087 = .ok (.iload_n 3, 1) := by decide +kernel
theorem dL_1088 : decode code 1088 = .ok (.iconst 4, 1) := by decide +kernel
theorem dL_1089 : decode code 1089 = .ok (.iadd, 1) := by decide +kernel
theorem dL_1090 : decode code 1090 = .ok (.iaload, 1) := by decide +kernel
theorem dL_1091 : decode code 1091 = .ok (.aload_n 0, 1) := by decide +kernel
theorem dL_1092 : decode code 1092 = .ok (.iload_n 3, 1) := by decide +kernel
theorem dL_1093 : decode code 1093 = .ok (.iconst 5, 1) := by decide +kernel
theorem dL_1094 : decode code 1094 = .ok (.iadd, 1) := by decide +kernel
theorem dL_1095 : decode code 1095 = .ok (.iaload, 1) := by decide +kernel
theorem dL_1096 : decode code 1096 = .ok (.invokevirtual 115, 3) := by decide +kernel
theorem dL_1099 : decode code 1099 = .ok (.aload_n 2, 1) := by decide +kernel
theorem dL_1100 : decode code 1100 = .ok (.aload_n 0, 1) := by decide +kernel
theorem dL_1101 : decode code 1101 = .ok (.iload_n 3, 1) := by decide +kernel
theorem dL_1102 : decode code 1102 = .ok (.iconst 1, 1) := by decide +kernel
theorem dL_1103 : decode code 1103 = .ok (.iadd, 1) := by decide +kernel
theorem dL_1104 : decode code 1104 = .ok (.iaload, 1) := by decide +kernel
theorem dL_1105 : decode code 1105 = .ok (.aload_n 0, 1) := by decide +kernel
theorem dL_1106 : decode code 1106 = .ok (.iload_n 3, 1) := by decide +kernel
theorem dL_1107 : decode code 1107 = .ok (.iconst 2, 1) := by decide +kernel
theorem dL_1108 : decode code 1108 = .ok (.iadd, 1) := by decide +kernel
theorem dL_1109 : decode code 1109 = .ok (.iaload, 1) := by decide +kernel
theorem dL_1110 : decode code 1110 = .ok (.aload_n 0, 1) := by decide +kernel
theorem dL_1111 : decode code 1111 = .ok (.iload_n 3, 1) := by decide +kernel
theorem dL_1112 : decode code 1112 = .ok (.iconst 3, 1) := by decide +kernel
theorem dL_1113 : decode code 1113 = .ok (.iadd, 1) := by decide +kernel
theorem dL_1114 : decode code 1114 = .ok (.iaload, 1) := by decide +kernel
theorem dL_1115 : decode code 1115 = .ok (.aload_n 0, 1) := by decide +kernel
theorem dL_1116 : decode code 1116 = .ok (.iload_n 3, 1) := by decide +kernel
theorem dL_1117 : decode code 1117 = .ok (.iconst 4, 1) := by decide +kernel
theorem dL_1118 : decode code 1118 = .ok (.iadd, 1) := by decide +kernel
theorem dL_1119 : decode code 1119 = .ok (.iaload, 1) := by decide +kernel
theorem dL_1120 : decode code 1120 = .ok (.aload_n 0, 1) := by decide +kernel
theorem dL_1121 : decode code 1121 = .ok (.iload_n 3, 1) := by decide +kernel
theorem dL_1122 : decode code 1122 = .ok (.iconst 5, 1) := by decide +kernel
theorem dL_1123 : decode code 1123 = .ok (.iadd, 1) := by decide +kernel
theorem dL_1124 : decode code 1124 = .ok (.iaload, 1) := by decide +kernel
theorem dL_1125 : decode code 1125 = .ok (.invokevirtual 118, 3) := by decide +kernel
theorem dL_1128 : decode code 1128 = .ok (.if_icmp .eq 787, 3) := by decide +kernel
theorem dL_1131 : decode code 1131 = .ok (.iconst 0, 1) := by decide +kernel
theorem dL_1132 : decode code 1132 = .ok (.ireturn, 1) := by decide +kernel
theorem dL_1133 : decode code 1133 = .ok (.aload_n 1, 1) := by decide +kernel
theorem dL_1134 : decode code 1134 = .ok (.aload_n 0, 1) := by decide +kernel
theorem dL_1135 : decode code 1135 = .ok (.iload_n 3, 1) := by decide +kernel
theorem dL_1136 : decode code 1136 = .ok (.iconst 1, 1) := by decide +kernel
theorem dL_1137 : decode code 1137 = .ok (.iadd, 1) := by decide +kernel
theorem dL_1138 : decode code 1138 = .ok (.iaload, 1) := by decide +kernel
theorem dL_1139 : decode code 1139 = .ok (.invokevirtual 119, 3) := by decide +kernel
theorem dL_1142 : decode code 1142 = .ok (.aload_n 2, 1) := by decide +kernel
theorem dL_1143 : decode code 1143 = .ok (.aload_n 0, 1) := by decide +kernel
theorem dL_1144 : decode code 1144 = .ok (.iload_n 3, 1) := by decide +kernel
theorem dL_1145 : decode code 1145 = .ok (.iconst 1, 1) := by decide +kernel
theorem dL_1146 : decode code 1146 = .ok (.iadd, 1) := by decide +kernel
theorem dL_1147 : decode code 1147 = .ok (.iaload, 1) := by decide +kernel
theorem dL_1148 : decode code 1148 = .ok (.invokevirtual 122, 3) := by decide +kernel
theorem dL_1151 : decode code 1151 = .ok (.if_icmp .eq 764, 3) := by decide +kernel
theorem dL_1154 : decode code 1154 = .ok (.iconst 0, 1) := by decide +kernel
theorem dL_1155 : decode code 1155 = .ok (.ireturn, 1) := by decide +kernel
theorem dL_1156 : decode code 1156 = .ok (.aload_n 1, 1) := by decide +kernel
theorem dL_1157 : decode code 1157 = .ok (.aload_n 0, 1) := by decide +kernel
theorem dL_1158 : decode code 1158 = .ok (.iload_n 3, 1) := by decide +kernel
theorem dL_1159 : decode code 1159 = .ok (.iconst 1, 1) := by decide +kernel
theorem dL_1160 : decode code 1160 = .ok (.iadd, 1) := by decide +kernel
theorem dL_1161 : decode code 1161 = .ok (.iaload, 1) := by decide +kernel
theorem dL_1162 : decode code 1162 = .ok (.aload_n 0, 1) := by decide +kernel
theorem dL_1163 : decode code 1163 = .ok (.iload_n 3, 1) := by decide +kernel
theorem dL_1164 : decode code 1164 = .ok (.iconst 2, 1) := by decide +kernel
theorem dL_1165 : decode code 1165 = .ok (.iadd, 1) := by decide +kernel
theorem dL_1166 : decode code 1166 = .ok (.iaload, 1) := by decide +kernel
theorem dL_1167 : decode code 1167 = .ok (.invokevirtual 123, 3) := by decide +kernel
theorem dL_1170 : decode code 1170 = .ok (.aload_n 2, 1) := by decide +kernel
theorem dL_1171 : decode code 1171 = .ok (.aload_n 0, 1) := by decide +kernel
theorem dL_1172 : decode code 1172 = .ok (.iload_n 3, 1) := by decide +kernel
theorem dL_1173 : decode code 1173 = .ok (.iconst 1, 1) := by decide +kernel
theorem dL_1174 : decode code 1174 = .ok (.iadd, 1) := by decide +kernel
theorem dL_1175 : decode code 1175 = .ok (.iaload, 1) := by decide +kernel
theorem dL_1176 : decode code 1176 = .ok (.aload_n 0, 1) := by decide +kernel
theorem dL_1177 : decode code 1177 = .ok (.iload_n 3, 1) := by decide +kernel
theorem dL_1178 : decode code 1178 = .ok (.iconst 2, 1) := by decide +kernel
theorem dL_1179 : decode code 1179 = .ok (.iadd, 1) := by decide +kernel
theorem dL_1180 : decode code 1180 = .ok (.iaload, 1) := by decide +kernel
theorem dL_1181 : decode code 1181 = .ok (.invokevirtual 126, 3) := by decide +kernel
theorem dL_1184 : decode code 1184 = .ok (.if_icmp .eq 731, 3) := by decide +kernel
theorem dL_1187 : decode code 1187 = .ok (.iconst 0, 1) := by decide +kernel
theorem dL_1188 : decode code 1188 = .ok (.ireturn, 1) := by decide +kernel
theorem dL_1189 : decode code 1189 = .ok (.aload_n 1, 1) := by decide +kernel
theorem dL_1190 : decode code 1190 = .ok (.aload_n 0, 1) := by decide +kernel
theorem dL_1191 : decode code 1191 = .ok (.iload_n 3, 1) := by decide +kernel
theorem dL_1192 : decode code 1192 = .ok (.iconst 1, 1) := by decide +kernel
theorem dL_1193 : decode code 1193 = .ok (.iadd, 1) := by decide +kernel
theorem dL_1194 : decode code 1194 = .ok (.iaload, 1) := by decide +kernel
theorem dL_1195 : decode code 1195 = .ok (.aload_n 0, 1) := by decide +kernel
theorem dL_1196 : decode code 1196 = .ok (.iload_n 3, 1) := by decide +kernel
theorem dL_1197 : decode code 1197 = .ok (.iconst 2, 1) := by decide +kernel
theorem dL_1198 : decode code 1198 = .ok (.iadd, 1) := by decide +kernel
theorem dL_1199 : decode code 1199 = .ok (.iaload, 1) := by decide +kernel
theorem dL_1200 : decode code 1200 = .ok (.aload_n 0, 1) := by decide +kernel
theorem dL_1201 : decode code 1201 = .ok (.iload_n 3, 1) := by decide +kernel
theorem dL_1202 : decode code 1202 = .ok (.iconst 3, 1) := by decide +kernel
theorem dL_1203 : decode code 1203 = .ok (.iadd, 1) := by decide +kernel
theorem dL_1204 : decode code 1204 = .ok (.iaload, 1) := by decide +kernel
theorem dL_1205 : decode code 1205 = .ok (.invokevirtual 127, 3) := by decide +kernel
theorem dL_1208 : decode code 1208 = .ok (.aload_n 2, 1) := by decide +kernel
theorem dL_1209 : decode code 1209 = .ok (.aload_n 0, 1) := by decide +kernel
theorem dL_1210 : decode code 1210 = .ok (.iload_n 3, 1) := by decide +kernel
theorem dL_1211 : decode code 1211 = .ok (.iconst 1, 1) := by decide +kernel
theorem dL_1212 : decode code 1212 = .ok (.iadd, 1) := by decide +kernel
theorem dL_1213 : decode code 1213 = .ok (.iaload, 1) := by decide +kernel
theorem dL_1214 : decode code 1214 = .ok (.aload_n 0, 1) := by decide +kernel
theorem dL_1215 : decode code 1215 = .ok (.iload_n 3, 1) := by decide +kernel
theorem dL_1216 : decode code 1216 = .ok (.iconst 2, 1) := by decide +kernel
theorem dL_1217 : decode code 1217 = .ok (.iadd, 1) := by decide +kernel
theorem dL_1218 : decode code 1218 = .ok (.iaload, 1) := by decide +kernel
theorem dL_1219 : decode code 1219 = .ok (.aload_n 0, 1) := by decide +kernel
theorem dL_1220 : decode code 1220 = .ok (.iload_n 3, 1) := by decide +kernel
theorem dL_1221 : decode code 1221 = .ok (.iconst 3, 1) := by decide +kernel
theorem dL_1222 : decode code 1222 = .ok (.iadd, 1) := by decide +kernel
theorem dL_1223 : decode code 1223 = .ok (.iaload, 1) := by decide +kernel
theorem dL_1224 : decode code 1224 = .ok (.invokevirtual 130, 3) := by decide +kernel
theorem dL_1227 : decode code 1227 = .ok (.if_icmp .eq 688, 3) := by decide +kernel
theorem dL_1230 : decode code 1230 = .ok (.iconst 0, 1) := by decide +kernel
theorem dL_1231 : decode code 1231 = .ok (.ireturn, 1) := by decide +kernel
theorem dL_1232 : decode code 1232 = .ok (.aload_n 1, 1) := by decide +kernel
theorem dL_1233 : decode code 1233 = .ok (.aload_n 0, 1) := by decide +kernel
theorem dL_1234 : decode code 1234 = .ok (.iload_n 3, 1) := by decide +kernel
theorem dL_1235 : decode code 1235 = .ok (.iconst 1, 1) := by decide +kernel
theorem dL_1236 : decode code 1236 = .ok (.iadd, 1) := by decide +kernel
theorem dL_1237 : decode code 1237 = .ok (.iaload, 1) := by decide +kernel
theorem dL_1238 : decode code 1238 = .ok (.aload_n 0, 1) := by decide +kernel
theorem dL_1239 : decode code 1239 = .ok (.iload_n 3, 1) := by decide +kernel
theorem dL_1240 : decode code 1240 = .ok (.iconst 2, 1) := by decide +kernel
theorem dL_1241 : decode code 1241 = .ok (.iadd, 1) := by decide +kernel
theorem dL_1242 : decode code 1242 = .ok (.iaload, 1) := by decide +kernel
theorem dL_1243 : decode code 1243 = .ok (.aload_n 0, 1) := by decide +kernel
theorem dL_1244 : decode code 1244 = .ok (.iload_n 3, 1) := by decide +kernel
theorem dL_1245 : decode code 1245 = .ok (.iconst 3, 1) := by decide +kernel
theorem dL_1246 : decode code 1246 = .ok (.iadd, 1) := by decide +kernel
theorem dL_1247 : decode code 1247 = .ok (.iaload, 1) := by decide +kernel
theorem dL_1248 : decode code 1248 = .ok (.aload_n 0, 1) := by decide +kernel
theorem dL_1249 : decode code 1249 = .ok (.iload_n 3, 1) := by decide +kernel
theorem dL_1250 : decode code 1250 = .ok (.iconst 4, 1) := by decide +kernel
theorem dL_1251 : decode code 1251 = .ok (.iadd, 1) := by decide +kernel
theorem dL_1252 : decode code 1252 = .ok (.iaload, 1) := by decide +kernel
theorem dL_1253 : decode code 1253 = .ok (.invokevirtual 131, 3) := by decide +kernel
theorem dL_1256 : decode code 1256 = .ok (.aload_n 2, 1) := by decide +kernel
theorem dL_1257 : decode code 1257 = .ok (.aload_n 0, 1) := by decide +kernel
theorem dL_1258 : decode code 1258 = .ok (.iload_n 3, 1) := by decide +kernel
theorem dL_1259 : decode code 1259 = .ok (.iconst 1, 1) := by decide +kernel
theorem dL_1260 : decode code 1260 = .ok (.iadd, 1) := by decide +kernel
theorem dL_1261 : decode code 1261 = .ok (.iaload, 1) := by decide +kernel
theorem dL_1262 : decode code 1262 = .ok (.aload_n 0, 1) := by decide +kernel
theorem dL_1263 : decode code 1263 = .ok (.iload_n 3, 1) := by decide +kernel
theorem dL_1264 : decode code 1264 = .ok (.iconst 2, 1) := by decide +kernel
theorem dL_1265 : decode code 1265 = .ok (.iadd, 1) := by decide +kernel
theorem dL_1266 : decode code 1266 = .ok (.iaload, 1) := by decide +kernel
theorem dL_1267 : decode code 1267 = .ok (.aload_n 0, 1) := by decide +kernel
theorem dL_1268 : decode code 1268 = .ok (.iload_n 3, 1) := by decide +kernel
theorem dL_1269 : decode code 1269 = .ok (.iconst 3, 1) := by decide +kernel
theorem dL_1270 : decode code 1270 = .ok (.iadd, 1) := by decide +kernel
theorem dL_1271 : decode code 1271 = .ok (.iaload, 1) := by decide +kernel
theorem dL_1272 : decode code 1272 = .ok (.aload_n 0, 1) := by decide +kernel
theorem dL_1273 : decode code 1273 = .ok (.iload_n 3, 1) := by decide +kernel
theorem dL_1274 : decode code 1274 = .ok (.iconst 4, 1) := by decide +kernel
theorem dL_1275 : decode code 1275 = .ok (.iadd, 1) := by decide +kernel
theorem dL_1276 : decode code 1276 = .ok (.iaload, 1) := by decide +kernel
theorem dL_1277 : decode code 1277 = .ok (.invokevirtual 134, 3) := by decide +kernel
theorem dL_1280 : decode code 1280 = .ok (.if_icmp .eq 635, 3) := by decide +kernel
theorem dL_1283 : decode code 1283 = .ok (.iconst 0, 1) := by decide +kernel
theorem dL_1284 : decode code 1284 = .ok (.ireturn, 1) := by decide +kernel
theorem dL_1285 : decode code 1285 = .ok (.aload_n 1, 1) := by decide +kernel
theorem dL_1286 : decode code 1286 = .ok (.aload_n 0, 1) := by decide +kernel
theorem dL_1287 : decode code 1287 = .ok (.iload_n 3, 1) := by decide +kernel
theorem dL_1288 : decode code 1288 = .ok (.iconst 1, 1) := by decide +kernel
theorem dL_1289 : decode code 1289 = .ok (.iadd, 1) := by decide +kernel
theorem dL_1290 : decode code 1290 = .ok (.iaload, 1) := by decide +kernel
theorem dL_1291 : decode code 1291 = .ok (.aload_n 0, 1) := by decide +kernel
theorem dL_1292 : decode code 1292 = .ok (.iload_n 3, 1) := by decide +kernel
theorem dL_1293 : decode code 1293 = .ok (.iconst 2, 1) := by decide +kernel
theorem dL_1294 : decode code 1294 = .ok (.iadd, 1) := by decide +kernel
theorem dL_1295 : decode code 1295 = .ok (.iaload, 1) := by decide +kernel
theorem dL_1296 : decode code 1296 = .ok (.aload_n 0, 1) := by decide +kernel
theorem dL_1297 : decode code 1297 = .ok (.iload_n 3, 1) := by decide +kernel
theorem dL_1298 : decode code 1298 = .ok (.iconst 3, 1) := by decide +kernel
theorem dL_1299 : decode code 1299 = .ok (.iadd, 1) := by decide +kernel
theorem dL_1300 : decode code 1300 = .ok (.iaload, 1) := by decide +kernel
theorem dL_1301 : decode code 1301 = .ok (.invokevirtual 135, 3) := by decide +kernel
theorem dL_1304 : decode code 1304 = .ok (.aload_n 2, 1) := by decide +kernel
theorem dL_1305 : decode code 1305 = .ok (.aload_n 0, 1) := by decide +kernel
theorem dL_1306 : decode code 1306 = .ok (.iload_n 3, 1) := by decide +kernel
theorem dL_1307 : decode code 1307 = .ok (.iconst 1, 1) := by decide +kernel
theorem dL_1308 : decode code 1308 = .ok (.iadd, 1) := by decide +kernel
theorem dL_1309 : decode code 1309 = .ok (.iaload, 1) := by decide +kernel
theorem dL_1310 : decode code 1310 = .ok (.aload_n 0, 1) := by decide +kernel
theorem dL_1311 : decode code 1311 = .ok (.iload_n 3, 1) := by decide +kernel
theorem dL_1312 : decode code 1312 = .ok (.iconst 2, 1) := by decide +kernel
theorem dL_1313 : decode code 1313 = .ok (.iadd, 1) := by decide +kernel
theorem dL_1314 : decode code 1314 = .ok (.iaload, 1) := by decide +kernel
theorem dL_1315 : decode code 1315 = .ok (.aload_n 0, 1) := by decide +kernel
theorem dL_1316 : decode code 1316 = .ok (.iload_n 3, 1) := by decide +kernel
theorem dL_1317 : decode code 1317 = .ok (.iconst 3, 1) := by decide +kernel
theorem dL_1318 : decode code 1318 = .ok (.iadd, 1) := by decide +kernel
theorem dL_1319 : decode code 1319 = .ok (.iaload, 1) := by decide +kernel
theorem dL_1320 : decode code 1320 = .ok (.invokevirtual 138, 3) := by decide +kernel
theorem dL_1323 : decode code 1323 = .ok (.if_icmp .eq 592, 3) := by decide +kernel
theorem dL_1326 : decode code 1326 = .ok (.iconst 0, 1) := by decide +kernel
theorem dL_1327 : decode code 1327 = .ok (.ireturn, 1) := by decide +kernel
theorem dL_1328 : decode code 1328 = .ok (.aload_n 1, 1) := by decide +kernel
theorem dL_1329 : decode code 1329 = .ok (.aload_n 0, 1) := by decide +kernel
theorem dL_1330 : decode code 1330 = .ok (.iload_n 3, 1) := by decide +kernel
theorem dL_1331 : decode code 1331 = .ok (.iconst 1, 1) := by decide +kernel
theorem dL_1332 : decode code 1332 = .ok (.iadd, 1) := by decide +kernel
theorem dL_1333 : decode code 1333 = .ok (.iaload, 1) := by decide +kernel
theorem dL_1334 : decode code 1334 = .ok (.aload_n 0, 1) := by decide +kernel
theorem dL_1335 : decode code 1335 = .ok (.iload_n 3, 1) := by decide +kernel
theorem dL_1336 : decode code 1336 = .ok (.iconst 2, 1) := by decide +kernel
theorem dL_1337 : decode code 1337 = .ok (.iadd, 1) := by decide +kernel
theorem dL_1338 : decode code 1338 = .ok (.iaload, 1) := by decide +kernel
theorem dL_1339 : decode code 1339 = .ok (.invokevirtual 139, 3) := by decide +kernel
theorem dL_1342 : decode code 1342 = .ok (.aload_n 2, 1) := by decide +kernel
theorem dL_1343 : decode code 1343 = .ok (.aload_n 0, 1) := by decide +kernel
theorem dL_1344 : decode code 1344 = .ok (.iload_n 3, 1) := by decide +kernel
theorem dL_1345 : decode code 1345 = .ok (.iconst 1, 1) := by decide +kernel
theorem dL_1346 : decode code 1346 = .ok (.iadd, 1) := by decide +kernel
theorem dL_1347 : decode code 1347 = .ok (.iaload, 1) := by decide +kernel
theorem dL_1348 : decode code 1348 = .ok (.aload_n 0, 1) := by decide +kernel
theorem dL_1349 : decode code 1349 = .ok (.iload_n 3, 1) := by decide +kernel
theorem dL_1350 : decode code 1350 = .ok (.iconst 2, 1) := by decide +kernel
theorem dL_1351 : decode code 1351 = .ok (.iadd, 1) := by decide +kernel
theorem dL_1352 : decode code 1352 = .ok (.iaload, 1) := by decide +kernel
theorem dL_1353 : decode code 1353 = .ok (.invokevirtual 142, 3) := by decide +kernel
theorem dL_1356 : decode code 1356 = .ok (.if_icmp .eq 559, 3) := by decide +kernel
theorem dL_1359 : decode code 1359 = .ok (.iconst 0, 1) := by decide +kernel
theorem dL_1360 : decode code 1360 = .ok (.ireturn, 1) := by decide +kernel
theorem dL_1361 : decode code 1361 = .ok (.aload_n 1, 1) := by decide +kernel
theorem dL_1362 : decode code 1362 = .ok (.aload_n 0, 1) := by decide +kernel
theorem dL_1363 : decode code 1363 = .ok (.iload_n 3, 1) := by decide +kernel
theorem dL_1364 : decode code 1364 = .ok (.iconst 1, 1) := by decide +kernel
theorem dL_1365 : decode code 1365 = .ok (.iadd, 1) := by decide +kernel
theorem dL_1366 : decode code 1366 = .ok (.iaload, 1) := by decide +kernel
theorem dL_1367 : decode code 1367 = .ok (.aload_n 0, 1) := by decide +kernel
theorem dL_1368 : decode code 1368 = .ok (.iload_n 3, 1) := by decide +kernel
theorem dL_1369 : decode code 1369 = .ok (.iconst 2, 1) := by decide +kernel
theorem dL_1370 : decode code 1370 = .ok (.iadd, 1) := by decide +kernel
theorem dL_1371 : decode code 1371 = .ok (.iaload, 1) := by decide +kernel
theorem dL_1372 : decode code 1372 = .ok (.invokevirtual 143, 3) := by decide +kernel
theorem dL_1375 : decode code 1375 = .ok (.aload_n 2, 1) := by decide +kernel
theorem dL_1376 : decode code 1376 = .ok (.aload_n 0, 1) := by decide +kernel
theorem dL_1377 : decode code 1377 = .ok (.iload_n 3, 1) := by decide +kernel
theorem dL_1378 : decode code 1378 = .ok (.iconst 1, 1) := by decide +kernel
theorem dL_1379 : decode code 1379 = .ok (.iadd, 1) := by decide +kernel
theorem dL_1380 : decode code 1380 = .ok (.iaload, 1) := by decide +kernel
theorem dL_1381 : decode code 1381 = .ok (.aload_n 0, 1) := by decide +kernel
theorem dL_1382 : decode code 1382 = .ok (.iload_n 3, 1) := by decide +kernel
theorem dL_1383 : decode code 1383 = .ok (.iconst 2, 1) := by decide +kernel
theorem dL_1384 : decode code 1384 = .ok (.iadd, 1) := by decide +kernel
theorem dL_1385 : decode code 1385 = .ok (.iaload, 1) := by decide +kernel
theorem dL_1386 : decode code 1386 = .ok (.invokevirtual 146, 3) := by decide +kernel
theorem dL_1389 : decode code 1389 = .ok (.if_icmp .eq 526, 3) := by decide +kernel
theorem dL_1392 : decode code 1392 = .ok (.iconst 0, 1) := by decide +kernel
theorem dL_1393 : decode code 1393 = .ok (.ireturn, 1) := by decide +kernel
theorem dL_1394 : decode code 1394 = .ok (.aload_n 1, 1) := by decide +kernel
theorem dL_1395 : decode code 1395 = .ok (.aload_n 0, 1) := by decide +kernel
theorem dL_1396 : decode code 1396 = .ok (.iload_n 3, 1) := by decide +kernel
theorem dL_1397 : decode code 1397 = .ok (.iconst 1, 1) := by decide +kernel
theorem dL_1398 : decode code 1398 = .ok (.iadd, 1) := by decide +kernel
theorem dL_1399 : decode code 1399 = .ok (.iaload, 1) := by decide +kernel
theorem dL_1400 : decode code 1400 = .ok (.aload_n 0, 1) := by decide +kernel
theorem dL_1401 : decode code 1401 = .ok (.iload_n 3, 1) := by decide +kernel
theorem dL_1402 : decode code 1402 = .ok (.iconst 2, 1) := by decide +kernel
theorem dL_1403 : decode code 1403 = .ok (.iadd, 1) := by decide +kernel
theorem dL_1404 : decode code 1404 = .ok (.iaload, 1) := by decide +kernel
theorem dL_1405 : decode code 1405 = .ok (.invokevirtual 147, 3) := by decide +kernel
theorem dL_1408 : decode code 1408 = .ok (.aload_n 2, 1) := by decide +kernel
theorem dL_1409 : decode code 1409 = .ok (.aload_n 0, 1) := by decide +kernel
theorem dL_1410 : decode code 1410 = .ok (.iload_n 3, 1) := by decide +kernel
theorem dL_1411 : decode code 1411 = .ok (.iconst 1, 1) := by decide +kernel
theorem dL_1412 : decode code 1412 = .ok (.iadd, 1) := by decide +kernel
theorem dL_1413 : decode code 1413 = .ok (.iaload, 1) := by decide +kernel
theorem dL_1414 : decode code 1414 = .ok (.aload_n 0, 1) := by decide +kernel
theorem dL_1415 : decode code 1415 = .ok (.iload_n 3, 1) := by decide +kernel
theorem dL_1416 : decode code 1416 = .ok (.iconst 2, 1) := by decide +kernel
theorem dL_1417 : decode code 1417 = .ok (.iadd, 1) := by decide +kernel
theorem dL_1418 : decode code 1418 = .ok (.iaload, 1) := by decide +kernel
theorem dL_1419 : decode code 1419 = .ok (.invokevirtual 150, 3) := by decide +kernel
theorem dL_1422 : decode code 1422 = .ok (.if_icmp .eq 493, 3) := by decide +kernel
theorem dL_1425 : decode code 1425 = .ok (.iconst 0, 1) := by decide +kernel
theorem dL_1426 : decode code 1426 = .ok (.ireturn, 1) := by decide +kernel
theorem dL_1427 : decode code 1427 = .ok (.aload_n 1, 1) := by decide +kernel
theorem dL_1428 : decode code 1428 = .ok (.aload_n 0, 1) := by decide +kernel
theorem dL_1429 : decode code 1429 = .ok (.iload_n 3, 1) := by decide +kernel
theorem dL_1430 : decode code 1430 = .ok (.iconst 1, 1) := by decide +kernel
theorem dL_1431 : decode code 1431 = .ok (.iadd, 1) := by decide +kernel
theorem dL_1432 : decode code 1432 = .ok (.iaload, 1) := by decide +kernel
theorem dL_1433 : decode code 1433 = .ok (.aload_n 0, 1) := by decide +kernel
theorem dL_1434 : decode code 1434 = .ok (.iload_n 3, 1) := by decide +kernel
theorem dL_1435 : decode code 1435 = .ok (.iconst 2, 1) := by decide +kernel
theorem dL_1436 : decode code 1436 = .ok (.iadd, 1) := by decide +kernel
theorem dL_1437 : decode code 1437 = .ok (.iaload, 1) := by decide +kernel
theorem dL_1438 : decode code 1438 = .ok (.invokevirtual 151, 3) := by decide +kernel
theorem dL_1441 : decode code 1441 = .ok (.aload_n 2, 1) := by decide +kernel
theorem dL_1442 : decode code 1442 = .ok (.aload_n 0, 1) := by decide +kernel
theorem dL_1443 : decode code 1443 = .ok (.iload_n 3, 1) := by decide +kernel
theorem dL_1444 : decode code 1444 = .ok (.iconst 1, 1) := by decide +kernel
theorem dL_1445 : decode code 1445 = .ok (.iadd, 1) := by decide +kernel
theorem dL_1446 : decode code 1446 = .ok (.iaload, 1) := by decide +kernel
theorem dL_1447 : decode code 1447 = .ok (.aload_n 0, 1) := by decide +kernel
theorem dL_1448 : decode code 1448 = .ok (.iload_n 3, 1) := by decide +kernel
theorem dL_1449 : decode code 1449 = .ok (.iconst 2, 1) := by decide +kernel
theorem dL_1450 : decode code 1450 = .ok (.iadd, 1) := by decide +kernel
theorem dL_1451 : decode code 1451 = .ok (.iaload, 1) := by decide +kernel
theorem dL_1452 : decode code 1452 = .ok (.invokevirtual 154, 3) := by decide +kernel
theorem dL_1455 : decode code 1455 = .ok (.if_icmp .eq 460, 3) := by decide +kernel
theorem dL_1458 : decode code 1458 = .ok (.iconst 0, 1) := by decide +kernel
theorem dL_1459 : decode code 1459 = .ok (.ireturn, 1) := by decide +kernel
theorem dL_1460 : decode code 1460 = .ok (.aload_n 1, 1) := by decide +kernel
theorem dL_1461 : decode code 1461 = .ok (.aload_n 0, 1) := by decide +kernel
theorem dL_1462 : decode code 1462 = .ok (.iload_n 3, 1) := by decide +kernel
theorem dL_1463 : decode code 1463 = .ok (.iconst 1, 1) := by decide +kernel
theorem dL_1464 : decode code 1464 = .ok (.iadd, 1) := by decide +kernel
theorem dL_1465 : decode code 1465 = .ok (.iaload, 1) := by decide +kernel
theorem dL_1466 : decode code 1466 = .ok (.aload_n 0, 1) := by decide +kernel
theorem dL_1467 : decode code 1467 = .ok (.iload_n 3, 1) := by decide +kernel
theorem dL_1468 : decode code 1468 = .ok (.iconst 2, 1) := by decide +kernel
theorem dL_1469 : decode code 1469 = .ok (.iadd, 1) := by decide +kernel
theorem dL_1470 : decode code 1470 = .ok (.iaload, 1) := by decide +kernel
theorem dL_1471 : decode code 1471 = .ok (.aload_n 0, 1) := by decide +kernel
theorem dL_1472 : decode code 1472 = .ok (.iload_n 3, 1) := by decide +kernel
theorem dL_1473 : decode code 1473 = .ok (.iconst 3, 1) := by decide +kernel
theorem dL_1474 : decode code 1474 = .ok (.iadd, 1) := by decide +kernel
theorem dL_1475 : decode code 1475 = .ok (.iaload, 1) := by decide +kernel
theorem dL_1476 : decode code 1476 = .ok (.aload_n 0, 1) := by decide +kernel
theorem dL_1477 : decode code 1477 = .ok (.iload_n 3, 1) := by decide +kernel
theorem dL_1478 : decode code 1478 = .ok (.iconst 4, 1) := by decide +kernel
theorem dL_1479 : decode code 1479 = .ok (.iadd, 1) := by decide +kernel
theorem dL_1480 : decode code 1480 = .ok (.iaload, 1) := by decide +kernel
theorem dL_1481 : decode code 1481 = .ok (.invokevirtual 155, 3) := by decide +kernel
theorem dL_1484 : decode code 1484 = .ok (.aload_n 2, 1) := by decide +kernel
theorem dL_1485 : decode code 1485 = .ok (.aload_n 0, 1) := by decide +kernel
theorem dL_1486 : decode code 1486 = .ok (.iload_n 3, 1) := by decide +kernel
theorem dL_1487 : decode code 1487 = .ok (.iconst 1, 1) := by decide +kernel
theorem dL_1488 : decode code 1488 = .ok (.iadd, 1) := by decide +kernel
theorem dL_1489 : decode code 1489 = .ok (.iaload, 1) := by decide +kernel
theorem dL_1490 : decode code 1490 = .ok (.aload_n 0, 1) := by decide +kernel
theorem dL_1491 : decode code 1491 = .ok (.iload_n 3, 1) := by decide +kernel
theorem dL_1492 : decode code 1492 = .ok (.iconst 2, 1) := by decide +kernel
theorem dL_1493 : decode code 1493 = .ok (.iadd, 1) := by decide +kernel
theorem dL_1494 : decode code 1494 = .ok (.iaload, 1) := by decide +kernel
theorem dL_1495 : decode code 1495 = .ok (.aload_n 0, 1) := by decide +kernel
theorem dL_1496 : decode code 1496 = .ok (.iload_n 3, 1) := by decide +kernel
theorem dL_1497 : decode code 1497 = .ok (.iconst 3, 1) := by decide +kernel
theorem dL_1498 : decode code 1498 = .ok (.iadd, 1) := by decide +kernel
theorem dL_1499 : decode code 1499 = .ok (.iaload, 1) := by decide +kernel
theorem dL_1500 : decode code 1500 = .ok (.aload_n 0, 1) := by decide +kernel
theorem dL_1501 : decode code 1501 = .ok (.iload_n 3, 1) := by decide +kernel
theorem dL_1502 : decode code 1502 = .ok (.iconst 4, 1) := by decide +kernel
theorem dL_1503 : decode code 1503 = .ok (.iadd, 1) := by decide +kernel
