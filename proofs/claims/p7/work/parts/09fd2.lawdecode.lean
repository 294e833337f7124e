theorem dL_law__1124 : decode cL_law_ 1124 = .ok (.iload 4, 2) := by decide +kernel
theorem dL_law__1126 : decode cL_law_ 1126 = .ok (.iconst 3, 1) := by decide +kernel
theorem dL_law__1127 : decode cL_law_ 1127 = .ok (.iadd, 1) := by decide +kernel
theorem dL_law__1128 : decode cL_law_ 1128 = .ok (.iaload, 1) := by decide +kernel
theorem dL_law__1129 : decode cL_law_ 1129 = .ok (.aload_n 0, 1) := by decide +kernel
theorem dL_law__1130 : decode cL_law_ 1130 = .ok (.iload 4, 2) := by decide +kernel
theorem dL_law__1132 : decode cL_law_ 1132 = .ok (.iconst 4, 1) := by decide +kernel
theorem dL_law__1133 : decode cL_law_ 1133 = .ok (.iadd, 1) := by decide +kernel
theorem dL_law__1134 : decode cL_law_ 1134 = .ok (.iaload, 1) := by decide +kernel
theorem dL_law__1135 : decode cL_law_ 1135 = .ok (.invokevirtual 200, 3) := by decide +kernel
theorem dL_law__1138 : decode cL_law_ 1138 = .ok (.lstore 6, 2) := by decide +kernel
theorem dL_law__1140 : decode cL_law_ 1140 = .ok (.goto 447, 3) := by decide +kernel
theorem dL_law__1143 : decode cL_law_ 1143 = .ok (.aload_n 1, 1) := by decide +kernel
theorem dL_law__1144 : decode cL_law_ 1144 = .ok (.aload_n 0, 1) := by decide +kernel
theorem dL_law__1145 : decode cL_law_ 1145 = .ok (.iload 4, 2) := by decide +kernel
theorem dL_law__1147 : decode cL_law_ 1147 = .ok (.iconst 1, 1) := by decide +kernel
theorem dL_law__1148 : decode cL_law_ 1148 = .ok (.iadd, 1) := by decide +kernel
theorem dL_law__1149 : decode cL_law_ 1149 = .ok (.iaload, 1) := by decide +kernel
theorem dL_law__1150 : decode cL_law_ 1150 = .ok (.aload_n 0, 1) := by decide +kernel
theorem dL_law__1151 : decode cL_law_ 1151 = .ok (.iload 4, 2) := by decide +kernel
theorem dL_law__1153 : decode cL_law_ 1153 = .ok (.iconst 2, 1) := by decide +kernel
theorem dL_law__1154 : decode cL_law_ 1154 = .ok (.iadd, 1) := by decide +kernel
theorem dL_law__1155 : decode cL_law_ 1155 = .ok (.iaload, 1) := by decide +kernel
theorem dL_law__1156 : decode cL_law_ 1156 = .ok (.aload_n 0, 1) := by decide +kernel
theorem dL_law__1157 : decode cL_law_ 1157 = .ok (.iload 4, 2) := by decide +kernel
theorem dL_law__1159 : decode cL_law_ 1159 = .ok (.iconst 3, 1) := by decide +kernel
theorem dL_law__1160 : decode cL_law_ 1160 = .ok (.iadd, 1) := by decide +kernel
theorem dL_law__1161 : decode cL_law_ 1161 = .ok (.iaload, 1) := by decide +kernel
theorem dL_law__1162 : decode cL_law_ 1162 = .ok (.aload_n 3, 1) := by decide +kernel
theorem dL_law__1163 : decode cL_law_ 1163 = .ok (.invokestatic 201, 3) := by decide +kernel
theorem dL_law__1166 : decode cL_law_ 1166 = .ok (.istore 5, 2) := by decide +kernel
theorem dL_law__1168 : decode cL_law_ 1168 = .ok (.aload_n 2, 1) := by decide +kernel
theorem dL_law__1169 : decode cL_law_ 1169 = .ok (.aload_n 0, 1) := by decide +kernel
theorem dL_law__1170 : decode cL_law_ 1170 = .ok (.iload 4, 2) := by decide +kernel
theorem dL_law__1172 : decode cL_law_ 1172 = .ok (.iconst 1, 1) := by decide +kernel
theorem dL_law__1173 : decode cL_law_ 1173 = .ok (.iadd, 1) := by decide +kernel
theorem dL_law__1174 : decode cL_law_ 1174 = .ok (.iaload, 1) := by decide +kernel
theorem dL_law__1175 : decode cL_law_ 1175 = .ok (.aload_n 0, 1) := by decide +kernel
theorem dL_law__1176 : decode cL_law_ 1176 = .ok (.iload 4, 2) := by decide +kernel
theorem dL_law__1178 : decode cL_law_ 1178 = .ok (.iconst 2, 1) := by decide +kernel
theorem dL_law__1179 : decode cL_law_ 1179 = .ok (.iadd, 1) := by decide +kernel
theorem dL_law__1180 : decode cL_law_ 1180 = .ok (.iaload, 1) := by decide +kernel
theorem dL_law__1181 : decode cL_law_ 1181 = .ok (.aload_n 0, 1) := by decide +kernel
theorem dL_law__1182 : decode cL_law_ 1182 = .ok (.iload 4, 2) := by decide +kernel
theorem dL_law__1184 : decode cL_law_ 1184 = .ok (.iconst 3, 1) := by decide +kernel
theorem dL_law__1185 : decode cL_law_ 1185 = .ok (.iadd, 1) := by decide +kernel
theorem dL_law__1186 : decode cL_law_ 1186 = .ok (.iaload, 1) := by decide +kernel
theorem dL_law__1187 : decode cL_law_ 1187 = .ok (.invokevirtual 204, 3) := by decide +kernel
theorem dL_law__1190 : decode cL_law_ 1190 = .ok (.istore 6, 2) := by decide +kernel
theorem dL_law__1192 : decode cL_law_ 1192 = .ok (.goto 395, 3) := by decide +kernel
theorem dL_law__1195 : decode cL_law_ 1195 = .ok (.aload_n 1, 1) := by decide +kernel
theorem dL_law__1196 : decode cL_law_ 1196 = .ok (.aload_n 0, 1) := by decide +kernel
theorem dL_law__1197 : decode cL_law_ 1197 = .ok (.iload 4, 2) := by decide +kernel
theorem dL_law__1199 : decode cL_law_ 1199 = .ok (.iconst 1, 1) := by decide +kernel
theorem dL_law__1200 : decode cL_law_ 1200 = .ok (.iadd, 1) := by decide +kernel
theorem dL_law__1201 : decode cL_law_ 1201 = .ok (.iaload, 1) := by decide +kernel
theorem dL_law__1202 : decode cL_law_ 1202 = .ok (.aload_n 0, 1) := by decide +kernel
theorem dL_law__1203 : decode cL_law_ 1203 = .ok (.iload 4, 2) := by decide +kernel
theorem dL_law__1205 : decode cL_law_ 1205 = .ok (.iconst 2, 1) := by decide +kernel
theorem dL_law__1206 : decode cL_law_ 1206 = .ok (.iadd, 1) := by decide +kernel
theorem dL_law__1207 : decode cL_law_ 1207 = .ok (.iaload, 1) := by decide +kernel
theorem dL_law__1208 : decode cL_law_ 1208 = .ok (.aload_n 0, 1) := by decide +kernel
theorem dL_law__1209 : decode cL_law_ 1209 = .ok (.iload 4, 2) := by decide +kernel
theorem dL_law__1211 : decode cL_law_ 1211 = .ok (.iconst 3, 1) := by decide +kernel
theorem dL_law__1212 : decode cL_law_ 1212 = .ok (.iadd, 1) := by decide +kernel
theorem dL_law__1213 : decode cL_law_ 1213 = .ok (.iaload, 1) := by decide +kernel
theorem dL_law__1214 : decode cL_law_ 1214 = .ok (.aload_n 3, 1) := by decide +kernel
theorem dL_law__1215 : decode cL_law_ 1215 = .ok (.invokestatic 205, 3) := by decide +kernel
theorem dL_law__1218 : decode cL_law_ 1218 = .ok (.istore 5, 2) := by decide +kernel
theorem dL_law__1220 : decode cL_law_ 1220 = .ok (.aload_n 2, 1) := by decide +kernel
theorem dL_law__1221 : decode cL_law_ 1221 = .ok (.aload_n 0, 1) := by decide +kernel
theorem dL_law__1222 : decode cL_law_ 1222 = .ok (.iload 4, 2) := by decide +kernel
theorem dL_law__1224 : decode cL_law_ 1224 = .ok (.iconst 1, 1) := by decide +kernel
theorem dL_law__1225 : decode cL_law_ 1225 = .ok (.iadd, 1) := by decide +kernel
theorem dL_law__1226 : decode cL_law_ 1226 = .ok (.iaload, 1) := by decide +kernel
theorem dL_law__1227 : decode cL_law_ 1227 = .ok (.aload_n 0, 1) := by decide +kernel
theorem dL_law__1228 : decode cL_law_ 1228 = .ok (.iload 4, 2) := by decide +kernel
theorem dL_law__1230 : decode cL_law_ 1230 = .ok (.iconst 2, 1) := by decide +kernel
theorem dL_law__1231 : decode cL_law_ 1231 = .ok (.iadd, 1) := by decide +kernel
theorem dL_law__1232 : decode cL_law_ 1232 = .ok (.iaload, 1) := by decide +kernel
theorem dL_law__1233 : decode cL_law_ 1233 = .ok (.aload_n 0, 1) := by decide +kernel
theorem dL_law__1234 : decode cL_law_ 1234 = .ok (.iload 4, 2) := by decide +kernel
theorem dL_law__1236 : decode cL_law_ 1236 = .ok (.iconst 3, 1) := by decide +kernel
theorem dL_law__1237 : decode cL_law_ 1237 = .ok (.iadd, 1) := by decide +kernel
theorem dL_law__1238 : decode cL_law_ 1238 = .ok (.iaload, 1) := by decide +kernel
theorem dL_law__1239 : decode cL_law_ 1239 = .ok (.invokevirtual 207, 3) := by decide +kernel
theorem dL_law__1242 : decode cL_law_ 1242 = .ok (.istore 6, 2) := by decide +kernel
theorem dL_law__1244 : decode cL_law_ 1244 = .ok (.goto 343, 3) := by decide +kernel
theorem dL_law__1247 : decode cL_law_ 1247 = .ok (.aload_n 1, 1) := by decide +kernel
theorem dL_law__1248 : decode cL_law_ 1248 = .ok (.aload_n 0, 1) := by decide +kernel
theorem dL_law__1249 : decode cL_law_ 1249 = .ok (.iload 4, 2) := by decide +kernel
theorem dL_law__1251 : decode cL_law_ 1251 = .ok (.iconst 1, 1) := by decide +kernel
theorem dL_law__1252 : decode cL_law_ 1252 = .ok (.iadd, 1) := by decide +kernel
theorem dL_law__1253 : decode cL_law_ 1253 = .ok (.iaload, 1) := by decide +kernel
theorem dL_law__1254 : decode cL_law_ 1254 = .ok (.aload_n 3, 1) := by decide +kernel
theorem dL_law__1255 : decode cL_law_ 1255 = .ok (.invokestatic 208, 3) := by decide +kernel
theorem dL_law__1258 : decode cL_law_ 1258 = .ok (.istore 5, 2) := by decide +kernel
theorem dL_law__1260 : decode cL_law_ 1260 = .ok (.aload_n 2, 1) := by decide +kernel
theorem dL_law__1261 : decode cL_law_ 1261 = .ok (.aload_n 0, 1) := by decide +kernel
theorem dL_law__1262 : decode cL_law_ 1262 = .ok (.iload 4, 2) := by decide +kernel
theorem dL_law__1264 : decode cL_law_ 1264 = .ok (.iconst 1, 1) := by decide +kernel
theorem dL_law__1265 : decode cL_law_ 1265 = .ok (.iadd, 1) := by decide +kernel
theorem dL_law__1266 : decode cL_law_ 1266 = .ok (.iaload, 1) := by decide +kernel
theorem dL_law__1267 : decode cL_law_ 1267 = .ok (.invokevirtual 210, 3) := by decide +kernel
theorem dL_law__1270 : decode cL_law_ 1270 = .ok (.istore 6, 2) := by decide +kernel
theorem dL_law__1272 : decode cL_law_ 1272 = .ok (.goto 315, 3) := by decide +kernel
theorem dL_law__1275 : decode cL_law_ 1275 = .ok (.aload_n 1, 1) := by decide +kernel
theorem dL_law__1276 : decode cL_law_ 1276 = .ok (.aload_n 0, 1) := by decide +kernel
theorem dL_law__1277 : decode cL_law_ 1277 = .ok (.iload 4, 2) := by decide +kernel
theorem dL_law__1279 : decode cL_law_ 1279 = .ok (.iconst 1, 1) := by decide +kernel
theorem dL_law__1280 : decode cL_law_ 1280 = .ok (.iadd, 1) := by decide +kernel
theorem dL_law__1281 : decode cL_law_ 1281 = .ok (.iaload, 1) := by decide +kernel
theorem dL_law__1282 : decode cL_law_ 1282 = .ok (.aload_n 0, 1) := by decide +kernel
theorem dL_law__1283 : decode cL_law_ 1283 = .ok (.iload 4, 2) := by decide +kernel
theorem dL_law__1285 : decode cL_law_ 1285 = .ok (.iconst 2, 1) := by decide +kernel
theorem dL_law__1286 : decode cL_law_ 1286 = .ok (.iadd, 1) := by decide +kernel
theorem dL_law__1287 : decode cL_law_ 1287 = .ok (.iaload, 1) := by decide +kernel
theorem dL_law__1288 : decode cL_law_ 1288 = .ok (.aload_n 3, 1) := by decide +kernel
theorem dL_law__1289 : decode cL_law_ 1289 = .ok (.invokestatic 211, 3) := by decide +kernel
theorem dL_law__1292 : decode cL_law_ 1292 = .ok (.istore 5, 2) := by decide +kernel
theorem dL_law__1294 : decode cL_law_ 1294 = .ok (.aload_n 2, 1) := by decide +kernel
theorem dL_law__1295 : decode cL_law_ 1295 = .ok (.aload_n 0, 1) := by decide +kernel
theorem dL_law__1296 : decode cL_law_ 1296 = .ok (.iload 4, 2) := by decide +kernel
theorem dL_law__1298 : decode cL_law_ 1298 = .ok (.iconst 1, 1) := by decide +kernel
theorem dL_law__1299 : decode cL_law_ 1299 = .ok (.iadd, 1) := by decide +kernel
theorem dL_law__1300 : decode cL_law_ 1300 = .ok (.iaload, 1) := by decide +kernel
theorem dL_law__1301 : decode cL_law_ 1301 = .ok (.aload_n 0, 1) := by decide +kernel
theorem dL_law__1302 : decode cL_law_ 1302 = .ok (.iload 4, 2) := by decide +kernel
theorem dL_law__1304 : decode cL_law_ 1304 = .ok (.iconst 2, 1) := by decide +kernel
theorem dL_law__1305 : decode cL_law_ 1305 = .ok (.iadd, 1) := by decide +kernel
theorem dL_law__1306 : decode cL_law_ 1306 = .ok (.iaload, 1) := by decide +kernel
theorem dL_law__1307 : decode cL_law_ 1307 = .ok (.invokevirtual 213, 3) := by decide +kernel
theorem dL_law__1310 : decode cL_law_ 1310 = .ok (.istore 6, 2) := by decide +kernel
theorem dL_law__1312 : decode cL_law_ 1312 = .ok (.goto 275, 3) := by decide +kernel
theorem dL_law__1315 : decode cL_law_ 1315 = .ok (.aload_n 1, 1) := by decide +kernel
theorem dL_law__1316 : decode cL_law_ 1316 = .ok (.aload_n 0, 1) := by decide +kernel
theorem dL_law__1317 : decode cL_law_ 1317 = .ok (.iload 4, 2) := by decide +kernel
theorem dL_law__1319 : decode cL_law_ 1319 = .ok (.iconst 1, 1) := by decide +kernel
theorem dL_law__1320 : decode cL_law_ 1320 = .ok (.iadd, 1) := by decide +kernel
theorem dL_law__1321 : decode cL_law_ 1321 = .ok (.iaload, 1) := by decide +kernel
theorem dL_law__1322 : decode cL_law_ 1322 = .ok (.aload_n 0, 1) := by decide +kernel
theorem dL_law__1323 : decode cL_law_ 1323 = .ok (.iload 4, 2) := by decide +kernel
theorem dL_law__1325 : decode cL_law_ 1325 = .ok (.iconst 2, 1) := by decide +kernel
theorem dL_law__1326 : decode cL_law_ 1326 = .ok (.iadd, 1) := by decide +kernel
theorem dL_law__1327 : decode cL_law_ 1327 = .ok (.iaload, 1) := by decide +kernel
theorem dL_law__1328 : decode cL_law_ 1328 = .ok (.aload_n 3, 1) := by decide +kernel
theorem dL_law__1329 : decode cL_law_ 1329 = .ok (.invokestatic 214, 3) := by decide +kernel
theorem dL_law__1332 : decode cL_law_ 1332 = .ok (.istore 5, 2) := by decide +kernel
theorem dL_law__1334 : decode cL_law_ 1334 = .ok (.aload_n 2, 1) := by decide +kernel
theorem dL_law__1335 : decode cL_law_ 1335 = .ok (.aload_n 0, 1) := by decide +kernel
theorem dL_law__1336 : decode cL_law_ 1336 = .ok (.iload 4, 2) := by decide +kernel
theorem dL_law__1338 : decode cL_law_ 1338 = .ok (.iconst 1, 1) := by decide +kernel
theorem dL_law__1339 : decode cL_law_ 1339 = .ok (.iadd, 1) := by decide +kernel
theorem dL_law__1340 : decode cL_law_ 1340 = .ok (.iaload, 1) := by decide +kernel
theorem dL_law__1341 : decode cL_law_ 1341 = .ok (.aload_n 0, 1) := by decide +kernel
theorem dL_law__1342 : decode cL_law_ 1342 = .ok (.iload 4, 2) := by decide +kernel
theorem dL_law__1344 : decode cL_law_ 1344 = .ok (.iconst 2, 1) := by decide +kernel
theorem dL_law__1345 : decode cL_law_ 1345 = .ok (.iadd, 1) := by decide +kernel
theorem dL_law__1346 : decode cL_law_ 1346 = .ok (.iaload, 1) := by decide +kernel
theorem dL_law__1347 : decode cL_law_ 1347 = .ok (.invokevirtual 216, 3) := by decide +kernel
theorem dL_law__1350 : decode cL_law_ 1350 = .ok (.istore 6, 2) := by decide +kernel
theorem dL_law__1352 : decode cL_law_ 1352 = .ok (.goto 235, 3) := by decide +kernel
theorem dL_law__1355 : decode cL_law_ 1355 = .ok (.aload_n 1, 1) := by decide +kernel
theorem dL_law__1356 : decode cL_law_ 1356 = .ok (.aload_n 0, 1) := by decide +kernel
theorem dL_law__1357 : decode cL_law_ 1357 = .ok (.iload 4, 2) := by decide +kernel
theorem dL_law__1359 : decode cL_law_ 1359 = .ok (.iconst 1, 1) := by decide +kernel
theorem dL_law__1360 : decode cL_law_ 1360 = .ok (.iadd, 1) := by decide +kernel
theorem dL_law__1361 : decode cL_law_ 1361 = .ok (.iaload, 1) := by decide +kernel
theorem dL_law__1362 : decode cL_law_ 1362 = .ok (.aload_n 3, 1) := by decide +kernel
theorem dL_law__1363 : decode cL_law_ 1363 = .ok (.invokestatic 217, 3) := by decide +kernel
theorem dL_law__1366 : decode cL_law_ 1366 = .ok (.istore 5, 2) := by decide +kernel
theorem dL_law__1368 : decode cL_law_ 1368 = .ok (.aload_n 2, 1) := by decide +kernel
theorem dL_law__1369 : decode cL_law_ 1369 = .ok (.aload_n 0, 1) := by decide +kernel
theorem dL_law__1370 : decode cL_law_ 1370 = .ok (.iload 4, 2) := by decide +kernel
theorem dL_law__1372 : decode cL_law_ 1372 = .ok (.iconst 1, 1) := by decide +kernel
theorem dL_law__1373 : decode cL_law_ 1373 = .ok (.iadd, 1) := by decide +kernel
theorem dL_law__1374 : decode cL_law_ 1374 = .ok (.iaload, 1) := by decide +kernel
theorem dL_law__1375 : decode cL_law_ 1375 = .ok (.invokevirtual 219, 3) := by decide +kernel
theorem dL_law__1378 : decode cL_law_ 1378 = .ok (.istore 6, 2) := by decide +kernel
theorem dL_law__1380 : decode cL_law_ 1380 = .ok (.goto 207, 3) := by decide +kernel
theorem dL_law__1383 : decode cL_law_ 1383 = .ok (.aload_n 1, 1) := by decide +kernel
theorem dL_law__1384 : decode cL_law_ 1384 = .ok (.aload_n 0, 1) := by decide +kernel
theorem dL_law__1385 : decode cL_law_ 1385 = .ok (.iload 4, 2) := by decide +kernel
theorem dL_law__1387 : decode cL_law_ 1387 = .ok (.iconst 1, 1) := by decide +kernel
theorem dL_law__1388 : decode cL_law_ 1388 = .ok (.iadd, 1) := by decide +kernel
theorem dL_law__1389 : decode cL_law_ 1389 = .ok (.iaload, 1) := by decide +kernel
theorem dL_law__1390 : decode cL_law_ 1390 = .ok (.aload_n 0, 1) := by decide +kernel
theorem dL_law__1391 : decode cL_law_ 1391 = .ok (.iload 4, 2) := by decide +kernel
theorem dL_law__1393 : decode cL_law_ 1393 = .ok (.iconst 2, 1) := by decide +kernel
theorem dL_law__1394 : decode cL_law_ 1394 = .ok (.iadd, 1) := by decide +kernel
theorem dL_law__1395 : decode cL_law_ 1395 = .ok (.iaload, 1) := by decide +kernel
theorem dL_law__1396 : decode cL_law_ 1396 = .ok (.aload_n 0, 1) := by decide +kernel
theorem dL_law__1397 : decode cL_law_ 1397 = .ok (.iload 4, 2) := by decide +kernel
theorem dL_law__1399 : decode cL_law_ 1399 = .ok (.iconst 3, 1) := by decide +kernel
theorem dL_law__1400 : decode cL_law_ 1400 = .ok (.iadd, 1) := by decide +kernel
theorem dL_law__1401 : decode cL_law_ 1401 = .ok (.iaload, 1) := by decide +kernel
theorem dL_law__1402 : decode cL_law_ 1402 = .ok (.aload_n 3, 1) := by decide +kernel
theorem dL_law__1403 : decode cL_law_ 1403 = .ok (.invokestatic 220, 3) := by decide +kernel
theorem dL_law__1406 : decode cL_law_ 1406 = .ok (.istore 5, 2) := by decide +kernel
theorem dL_law__1408 : decode cL_law_ 1408 = .ok (.aload_n 2, 1) := by decide +kernel
theorem dL_law__1409 : decode cL_law_ 1409 = .ok (.aload_n 0, 1) := by decide +kernel
theorem dL_law__1410 : decode cL_law_ 1410 = .ok (.iload 4, 2) := by decide +kernel
theorem dL_law__1412 : decode cL_law_ 1412 = .ok (.iconst 1, 1) := by decide +kernel
theorem dL_law__1413 : decode cL_law_ 1413 = .ok (.iadd, 1) := by decide +kernel
theorem dL_law__1414 : decode cL_law_ 1414 = .ok (.iaload, 1) := by decide +kernel
theorem dL_law__1415 : decode cL_law_ 1415 = .ok (.aload_n 0, 1) := by decide +kernel
theorem dL_law__1416 : decode cL_law_ 1416 = .ok (.iload 4, 2) := by decide +kernel
theorem dL_law__1418 : decode cL_law_ 1418 = .ok (.iconst 2, 1) := by decide +kernel
theorem dL_law__1419 : decode cL_law_ 1419 = .ok (.iadd, 1) := by decide +kernel
theorem dL_law__1420 : decode cL_law_ 1420 = .ok (.iaload, 1) := by decide +kernel
theorem dL_law__1421 : decode cL_law_ 1421 = .ok (.aload_n 0, 1) := by decide +kernel
theorem dL_law__1422 : decode cL_law_ 1422 = .ok (.iload 4, 2) := by decide +kernel
theorem dL_law__1424 : decode cL_law_ 1424 = .ok (.iconst 3, 1) := by decide +kernel
theorem dL_law__1425 : decode cL_law_ 1425 = .ok (.iadd, 1) := by decide +kernel
theorem dL_law__1426 : decode cL_law_ 1426 = .ok (.iaload, 1) := by decide +kernel
theorem dL_law__1427 : decode cL_law_ 1427 = .ok (.invokevirtual 222, 3) := by decide +kernel
theorem dL_law__1430 : decode cL_law_ 1430 = .ok (.istore 6, 2) := by decide +kernel
theorem dL_law__1432 : decode cL_law_ 1432 = .ok (.goto 155, 3) := by decide +kernel
theorem dL_law__1435 : decode cL_law_ 1435 = .ok (.aload_n 1, 1) := by decide +kernel
theorem dL_law__1436 : decode cL_law_ 1436 = .ok (.aload_n 0, 1) := by decide +kernel
theorem dL_law__1437 : decode cL_law_ 1437 = .ok (.iload 4, 2) := by decide +kernel
theorem dL_law__1439 : decode cL_law_ 1439 = .ok (.iconst 1, 1) := by decide +kernel
theorem dL_law__1440 : decode cL_law_ 1440 = .ok (.iadd, 1) := by decide +kernel
theorem dL_law__1441 : decode cL_law_ 1441 = .ok (.iaload, 1) := by decide +kernel
theorem dL_law__1442 : decode cL_law_ 1442 = .ok (.aload_n 0, 1) := by decide +kernel
theorem dL_law__1443 : decode cL_law_ 1443 = .ok (.iload 4, 2) := by decide +kernel
theorem dL_law__1445 : decode cL_law_ 1445 = .ok (.iconst 2, 1) := by decide +kernel
theorem dL_law__1446 : decode cL_law_ 1446 = .ok (.iadd, 1) := by decide +kernel
theorem dL_law__1447 : decode cL_law_ 1447 = .ok (.iaload, 1) := by decide +kernel
theorem dL_law__1448 : decode cL_law_ 1448 = .ok (.aload_n 0, 1) := by decide +kernel
theorem dL_law__1449 : decode cL_law_ 1449 = .ok (.iload 4, 2) := by decide +kernel
theorem dL_law__1451 : decode cL_law_ 1451 = .ok (.iconst 3, 1) := by decide +kernel
theorem dL_law__1452 : decode cL_law_ 1452 = .ok (.iadd, 1) := by decide +kernel
theorem dL_law__1453 : decode cL_law_ 1453 = .ok (.iaload, 1) := by decide +kernel
theorem dL_law__1454 : decode cL_law_ 1454 = .ok (.aload_n 0, 1) := by decide +kernel
theorem dL_law__1455 : decode cL_law_ 1455 = .ok (.iload 4, 2) := by decide +kernel
theorem dL_law__1457 : decode cL_law_ 1457 = .ok (.iconst 4, 1) := by decide +kernel
theorem dL_law__1458 : decode cL_law_ 1458 = .ok (.iadd, 1) := by decide +kernel
theorem dL_law__1459 : decode cL_law_ 1459 = .ok (.iaload, 1) := by decide +kernel
theorem dL_law__1460 : decode cL_law_ 1460 = .ok (.aload_n 0, 1) := by decide +kernel
theorem dL_law__1461 : decode cL_law_ 1461 = .ok (.iload 4, 2) := by decide +kernel
theorem dL_law__1463 : decode cL_law_ 1463 = .ok (.iconst 5, 1) := by decide +kernel
theorem dL_law__1464 : decode cL_law_ 1464 = .ok (.iadd, 1) := by decide +kernel
theorem dL_law__1465 : decode cL_law_ 1465 = .ok (.iaload, 1) := by decide +kernel
theorem dL_law__1466 : decode cL_law_ 1466 = .ok (.aload_n 3, 1) := by decide +kernel
theorem dL_law__1467 : decode cL_law_ 1467 = .ok (.invokestatic 223, 3) := by decide +kernel
theorem dL_law__1470 : decode cL_law_ 1470 = .ok (.istore 5, 2) := by decide +kernel
theorem dL_law__1472 : decode cL_law_ 1472 = .ok (.aload_n 2, 1) := by decide +kernel
theorem dL_law__1473 : decode cL_law_ 1473 = .ok (.aload_n 0, 1) := by decide +kernel
theorem dL_law__1474 : decode cL_law_ 1474 = .ok (.iload 4, 2) := by decide +kernel
theorem dL_law__1476 : decode cL_law_ 1476 = .ok (.iconst 1, 1) := by decide +kernel
theorem dL_law__1477 : decode cL_law_ 1477 = .ok (.iadd, 1) := by decide +kernel
theorem dL_law__1478 : decode cL_law_ 1478 = .ok (.iaload, 1) := by decide +kernel
theorem dL_law__1479 : decode cL_law_ 1479 = .ok (.aload_n 0, 1) := by decide +kernel
theorem dL_law__1480 : decode cL_law_ 1480 = .ok (.iload 4, 2) := by decide +kernel
theorem dL_law__1482 : decode cL_law_ 1482 = .ok (.iconst 2, 1) := by decide +kernel
theorem dL_law__1483 : decode cL_law_ 1483 = .ok (.iadd, 1) := by decide +kernel
theorem dL_law__1484 : decode cL_law_ 1484 = .ok (.iaload, 1) := by decide +kernel
theorem dL_law__1485 : decode cL_law_ 1485 = .ok (.aload_n 0, 1) := by decide +kernel
theorem dL_law__1486 : decode cL_law_ 1486 = .ok (.iload 4, 2) := by decide +kernel
theorem dL_law__1488 : decode cL_law_ 1488 = .ok (.iconst 3, 1) := by decide +kernel
theorem dL_law__1489 : decode cL_law_ 1489 = .ok (.iadd, 1) := by decide +kernel
theorem dL_law__1490 : decode cL_law_ 1490 = .ok (.iaload, 1) := by decide +kernel
theorem dL_law__1491 : decode cL_law_ 1491 = .ok (.aload_n 0, 1) := by decide +kernel
theorem dL_law__1492 : decode cL_law_ 1492 = .ok (.iload 4, 2) := by decide +kernel
theorem dL_law__1494 : decode cL_law_ 1494 = .ok (.iconst 4, 1) := by decide +kernel
theorem dL_law__1495 : decode cL_law_ 1495 = .ok (.iadd, 1) := by decide +kernel
theorem dL_law__1496 : decode cL_law_ 1496 = .ok (.iaload, 1) := by decide +kernel
theorem dL_law__1497 : decode cL_law_ 1497 = .ok (.aload_n 0, 1) := by decide +kernel
theorem dL_law__1498 : decode cL_law_ 1498 = .ok (.iload 4, 2) := by decide +kernel
theorem dL_law__1500 : decode cL_law_ 1500 = .ok (.iconst 5, 1) := by decide +kernel
theorem dL_law__1501 : decode cL_law_ 1501 = .ok (.iadd, 1) := by decide +kernel
theorem dL_law__1502 : decode cL_law_ 1502 = .ok (.iaload, 1) := by decide +kernel
theorem dL_law__1503 : decode cL_law_ 1503 = .ok (.invokevirtual 226, 3) := by decide +kernel
theorem dL_law__1506 : decode cL_law_ 1506 = .ok (.istore 6, 2) := by decide +kernel
theorem dL_law__1508 : decode cL_law_ 1508 = .ok (.goto 79, 3) := by decide +kernel
theorem dL_law__1511 : decode cL_law_ 1511 = .ok (.aload_n 1, 1) := by decide +kernel
theorem dL_law__1512 : decode cL_law_ 1512 = .ok (.invokevirtual 227, 3) := by decide +kernel
theorem dL_law__1515 : decode cL_law_ 1515 = .ok (.pop, 1) := by decide +kernel
theorem dL_law__1516 : decode cL_law_ 1516 = .ok (.aload_n 2, 1) := by decide +kernel
theorem dL_law__1517 : decode cL_law_ 1517 = .ok (.invokevirtual 230, 3) := by decide +kernel
theorem dL_law__1520 : decode cL_law_ 1520 = .ok (.pop, 1) := by decide +kernel
theorem dL_law__1521 : decode cL_law_ 1521 = .ok (.goto 66, 3) := by decide +kernel
theorem dL_law__1524 : decode cL_law_ 1524 = .ok (.aload_n 1, 1) := by decide +kernel
theorem dL_law__1525 : decode cL_law_ 1525 = .ok (.invokevirtual 231, 3) := by decide +kernel
theorem dL_law__1528 : decode cL_law_ 1528 = .ok (.pop, 1) := by decide +kernel
theorem dL_law__1529 : decode cL_law_ 1529 = .ok (.aload_n 2, 1) := by decide +kernel
theorem dL_law__1530 : decode cL_law_ 1530 = .ok (.invokevirtual 234, 3) := by decide +kernel
theorem dL_law__1533 : decode cL_law_ 1533 = .ok (.pop, 1) := by decide +kernel
theorem dL_law__1534 : decode cL_law_ 1534 = .ok (.goto 53, 3) := by decide +kernel
theorem dL_law__1537 : decode cL_law_ 1537 = .ok (.aload_n 1, 1) := by decide +kernel
theorem dL_law__1538 : decode cL_law_ 1538 = .ok (.aload_n 0, 1) := by decide +kernel
theorem dL_law__1539 : decode cL_law_ 1539 = .ok (.iload 4, 2) := by decide +kernel
theorem dL_law__1541 : decode cL_law_ 1541 = .ok (.iconst 1, 1) := by decide +kernel
theorem dL_law__1542 : decode cL_law_ 1542 = .ok (.iadd, 1) := by decide +kernel
theorem dL_law__1543 : decode cL_law_ 1543 = .ok (.iaload, 1) := by decide +kernel
theorem dL_law__1544 : decode cL_law_ 1544 = .ok (.invokevirtual 235, 3) := by decide +kernel
theorem dL_law__1547 : decode cL_law_ 1547 = .ok (.pop, 1) := by decide +kernel
theorem dL_law__1548 : decode cL_law_ 1548 = .ok (.aload_n 2, 1) := by decide +kernel
theorem dL_law__1549 : decode cL_law_ 1549 = .ok (.aload_n 0, 1) := by decide +kernel
theorem dL_law__1550 : decode cL_law_ 1550 = .ok (.iload 4, 2) := by decide +kernel
theorem dL_law__1552 : decode cL_law_ 1552 = .ok (.iconst 1, 1) := by decide +kernel
theorem dL_law__1553 : decode cL_law_ 1553 = .ok (.iadd, 1) := by decide +kernel
theorem dL_law__1554 : decode cL_law_ 1554 = .ok (.iaload, 1) := by decide +kernel
theorem dL_law__1555 : decode cL_law_ 1555 = .ok (.invokevirtual 238, 3) := by decide +kernel
theorem dL_law__1558 : decode cL_law_ 1558 = .ok (.pop, 1) := by decide +kernel
theorem dL_law__1559 : decode cL_law_ 1559 = .ok (.goto 28, 3) := by decide +kernel
theorem dL_law__1562 : decode cL_law_ 1562 = .ok (.aload_n 1, 1) := by decide +kernel
theorem dL_law__1563 : decode cL_law_ 1563 = .ok (.aload_n 0, 1) := by decide +kernel
theorem dL_law__1564 : decode cL_law_ 1564 = .ok (.iload 4, 2) := by decide +kernel
theorem dL_law__1566 : decode cL_law_ 1566 = .ok (.iconst 1, 1) := by decide +kernel
theorem dL_law__1567 : decode cL_law_ 1567 = .ok (.iadd, 1) := by decide +kernel
theorem dL_law__1568 : decode cL_law_ 1568 = .ok (.iaload, 1) := by decide +kernel
theorem dL_law__1569 : decode cL_law_ 1569 = .ok (.invokevirtual 239, 3) := by decide +kernel
theorem dL_law__1572 : decode cL_law_ 1572 = .ok (.pop, 1) := by decide +kernel
theorem dL_law__1573 : decode cL_law_ 1573 = .ok (.aload_n 2, 1) := by decide +kernel
theorem dL_law__1574 : decode cL_law_ 1574 = .ok (.aload_n 0, 1) := by decide +kernel
theorem dL_law__1575 : decode cL_law_ 1575 = .ok (.iload 4, 2) := by decide +kernel
theorem dL_law__1577 : decode cL_law_ 1577 = .ok (.iconst 1, 1) := by decide +kernel
theorem dL_law__1578 : decode cL_law_ 1578 = .ok (.iadd, 1) := by decide +kernel
theorem dL_law__1579 : decode cL_law_ 1579 = .ok (.iaload, 1) := by decide +kernel
theorem dL_law__1580 : decode cL_law_ 1580 = .ok (.invokevirtual 242, 3) := by decide +kernel
theorem dL_law__1583 : decode cL_law_ 1583 = .ok (.pop, 1) := by decide +kernel
theorem dL_law__1584 : decode cL_law_ 1584 = .ok (.goto 3, 3) := by decide +kernel
theorem dL_law__1587 : decode cL_law_ 1587 = .ok (.iinc 4 9, 3) := by decide +kernel
theorem dL_law__1590 : decode cL_law_ 1590 = .ok (.goto (-1567), 3) := by decide +kernel
theorem dL_law__1593 : decode cL_law_ 1593 = .ok (.iconst 1, 1) := by decide +kernel
theorem dL_law__1594 : decode cL_law_ 1594 = .ok (.ireturn, 1) := by decide +kernel
