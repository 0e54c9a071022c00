/-! ===== the law: its instructions, 5 (by program, wip/whole/p107.py) ===== -/
theorem dl_1186 : decode code 1186 = .ok ((.aload_n 0), 1) := by decide +kernel
theorem dl_1187 : decode code 1187 = .ok ((.iload 4), 2) := by decide +kernel
theorem dl_1189 : decode code 1189 = .ok ((.iconst 3), 1) := by decide +kernel
theorem dl_1190 : decode code 1190 = .ok (.iadd, 1) := by decide +kernel
theorem dl_1191 : decode code 1191 = .ok (.iaload, 1) := by decide +kernel
theorem dl_1192 : decode code 1192 = .ok ((.invokevirtual 151), 3) := by decide +kernel
theorem dl_1195 : decode code 1195 = .ok ((.aload_n 2), 1) := by decide +kernel
theorem dl_1196 : decode code 1196 = .ok ((.aload_n 0), 1) := by decide +kernel
theorem dl_1197 : decode code 1197 = .ok ((.iload 4), 2) := by decide +kernel
theorem dl_1199 : decode code 1199 = .ok ((.iconst 1), 1) := by decide +kernel
theorem dl_1200 : decode code 1200 = .ok (.iadd, 1) := by decide +kernel
theorem dl_1201 : decode code 1201 = .ok (.iaload, 1) := by decide +kernel
theorem dl_1202 : decode code 1202 = .ok ((.aload_n 0), 1) := by decide +kernel
theorem dl_1203 : decode code 1203 = .ok ((.iload 4), 2) := by decide +kernel
theorem dl_1205 : decode code 1205 = .ok ((.iconst 2), 1) := by decide +kernel
theorem dl_1206 : decode code 1206 = .ok (.iadd, 1) := by decide +kernel
theorem dl_1207 : decode code 1207 = .ok (.iaload, 1) := by decide +kernel
theorem dl_1208 : decode code 1208 = .ok ((.aload_n 0), 1) := by decide +kernel
theorem dl_1209 : decode code 1209 = .ok ((.iload 4), 2) := by decide +kernel
theorem dl_1211 : decode code 1211 = .ok ((.iconst 3), 1) := by decide +kernel
theorem dl_1212 : decode code 1212 = .ok (.iadd, 1) := by decide +kernel
theorem dl_1213 : decode code 1213 = .ok (.iaload, 1) := by decide +kernel
theorem dl_1214 : decode code 1214 = .ok ((.invokevirtual 155), 3) := by decide +kernel
theorem dl_1217 : decode code 1217 = .ok ((.if_icmp .eq 226), 3) := by decide +kernel
theorem dl_1220 : decode code 1220 = .ok ((.iconst 0), 1) := by decide +kernel
theorem dl_1221 : decode code 1221 = .ok (.ireturn, 1) := by decide +kernel
theorem dl_1222 : decode code 1222 = .ok ((.aload_n 1), 1) := by decide +kernel
theorem dl_1223 : decode code 1223 = .ok ((.aload_n 0), 1) := by decide +kernel
theorem dl_1224 : decode code 1224 = .ok ((.iload 4), 2) := by decide +kernel
theorem dl_1226 : decode code 1226 = .ok ((.iconst 1), 1) := by decide +kernel
theorem dl_1227 : decode code 1227 = .ok (.iadd, 1) := by decide +kernel
theorem dl_1228 : decode code 1228 = .ok (.iaload, 1) := by decide +kernel
theorem dl_1229 : decode code 1229 = .ok ((.invokevirtual 156), 3) := by decide +kernel
theorem dl_1232 : decode code 1232 = .ok ((.aload_n 2), 1) := by decide +kernel
theorem dl_1233 : decode code 1233 = .ok ((.aload_n 0), 1) := by decide +kernel
theorem dl_1234 : decode code 1234 = .ok ((.iload 4), 2) := by decide +kernel
theorem dl_1236 : decode code 1236 = .ok ((.iconst 1), 1) := by decide +kernel
theorem dl_1237 : decode code 1237 = .ok (.iadd, 1) := by decide +kernel
theorem dl_1238 : decode code 1238 = .ok (.iaload, 1) := by decide +kernel
theorem dl_1239 : decode code 1239 = .ok ((.invokevirtual 159), 3) := by decide +kernel
theorem dl_1242 : decode code 1242 = .ok ((.if_icmp .eq 201), 3) := by decide +kernel
theorem dl_1245 : decode code 1245 = .ok ((.iconst 0), 1) := by decide +kernel
theorem dl_1246 : decode code 1246 = .ok (.ireturn, 1) := by decide +kernel
theorem dl_1247 : decode code 1247 = .ok ((.aload_n 1), 1) := by decide +kernel
theorem dl_1248 : decode code 1248 = .ok ((.invokevirtual 160), 3) := by decide +kernel
theorem dl_1251 : decode code 1251 = .ok ((.aload_n 2), 1) := by decide +kernel
theorem dl_1252 : decode code 1252 = .ok ((.invokevirtual 163), 3) := by decide +kernel
theorem dl_1255 : decode code 1255 = .ok ((.if_icmp .eq 188), 3) := by decide +kernel
theorem dl_1258 : decode code 1258 = .ok ((.iconst 0), 1) := by decide +kernel
theorem dl_1259 : decode code 1259 = .ok (.ireturn, 1) := by decide +kernel
theorem dl_1260 : decode code 1260 = .ok ((.aload_n 1), 1) := by decide +kernel
theorem dl_1261 : decode code 1261 = .ok ((.aload_n 0), 1) := by decide +kernel
theorem dl_1262 : decode code 1262 = .ok ((.iload 4), 2) := by decide +kernel
theorem dl_1264 : decode code 1264 = .ok ((.iconst 1), 1) := by decide +kernel
theorem dl_1265 : decode code 1265 = .ok (.iadd, 1) := by decide +kernel
theorem dl_1266 : decode code 1266 = .ok (.iaload, 1) := by decide +kernel
theorem dl_1267 : decode code 1267 = .ok ((.invokevirtual 164), 3) := by decide +kernel
theorem dl_1270 : decode code 1270 = .ok ((.aload_n 2), 1) := by decide +kernel
theorem dl_1271 : decode code 1271 = .ok ((.aload_n 0), 1) := by decide +kernel
theorem dl_1272 : decode code 1272 = .ok ((.iload 4), 2) := by decide +kernel
theorem dl_1274 : decode code 1274 = .ok ((.iconst 1), 1) := by decide +kernel
theorem dl_1275 : decode code 1275 = .ok (.iadd, 1) := by decide +kernel
theorem dl_1276 : decode code 1276 = .ok (.iaload, 1) := by decide +kernel
theorem dl_1277 : decode code 1277 = .ok ((.invokevirtual 167), 3) := by decide +kernel
theorem dl_1280 : decode code 1280 = .ok ((.if_icmp .eq 163), 3) := by decide +kernel
theorem dl_1283 : decode code 1283 = .ok ((.iconst 0), 1) := by decide +kernel
theorem dl_1284 : decode code 1284 = .ok (.ireturn, 1) := by decide +kernel
theorem dl_1285 : decode code 1285 = .ok ((.aload_n 1), 1) := by decide +kernel
theorem dl_1286 : decode code 1286 = .ok ((.invokevirtual 168), 3) := by decide +kernel
theorem dl_1289 : decode code 1289 = .ok ((.aload_n 2), 1) := by decide +kernel
theorem dl_1290 : decode code 1290 = .ok ((.invokevirtual 171), 3) := by decide +kernel
theorem dl_1293 : decode code 1293 = .ok ((.if_icmp .eq 150), 3) := by decide +kernel
theorem dl_1296 : decode code 1296 = .ok ((.iconst 0), 1) := by decide +kernel
theorem dl_1297 : decode code 1297 = .ok (.ireturn, 1) := by decide +kernel
theorem dl_1298 : decode code 1298 = .ok ((.aload_n 1), 1) := by decide +kernel
theorem dl_1299 : decode code 1299 = .ok ((.aload_n 0), 1) := by decide +kernel
theorem dl_1300 : decode code 1300 = .ok ((.iload 4), 2) := by decide +kernel
theorem dl_1302 : decode code 1302 = .ok ((.iconst 1), 1) := by decide +kernel
theorem dl_1303 : decode code 1303 = .ok (.iadd, 1) := by decide +kernel
theorem dl_1304 : decode code 1304 = .ok (.iaload, 1) := by decide +kernel
theorem dl_1305 : decode code 1305 = .ok ((.aload_n 0), 1) := by decide +kernel
theorem dl_1306 : decode code 1306 = .ok ((.iload 4), 2) := by decide +kernel
theorem dl_1308 : decode code 1308 = .ok ((.iconst 2), 1) := by decide +kernel
theorem dl_1309 : decode code 1309 = .ok (.iadd, 1) := by decide +kernel
theorem dl_1310 : decode code 1310 = .ok (.iaload, 1) := by decide +kernel
theorem dl_1311 : decode code 1311 = .ok (.i2l, 1) := by decide +kernel
theorem dl_1312 : decode code 1312 = .ok ((.bipush 32), 2) := by decide +kernel
theorem dl_1314 : decode code 1314 = .ok (.lshl, 1) := by decide +kernel
theorem dl_1315 : decode code 1315 = .ok ((.aload_n 0), 1) := by decide +kernel
theorem dl_1316 : decode code 1316 = .ok ((.iload 4), 2) := by decide +kernel
theorem dl_1318 : decode code 1318 = .ok ((.iconst 3), 1) := by decide +kernel
theorem dl_1319 : decode code 1319 = .ok (.iadd, 1) := by decide +kernel
theorem dl_1320 : decode code 1320 = .ok (.iaload, 1) := by decide +kernel
theorem dl_1321 : decode code 1321 = .ok (.i2l, 1) := by decide +kernel
theorem dl_1322 : decode code 1322 = .ok ((.ldc2_w 76), 3) := by decide +kernel
theorem dl_1325 : decode code 1325 = .ok (.land, 1) := by decide +kernel
theorem dl_1326 : decode code 1326 = .ok (.lor, 1) := by decide +kernel
theorem dl_1327 : decode code 1327 = .ok ((.invokevirtual 172), 3) := by decide +kernel
theorem dl_1330 : decode code 1330 = .ok ((.aload_n 2), 1) := by decide +kernel
theorem dl_1331 : decode code 1331 = .ok ((.aload_n 0), 1) := by decide +kernel
theorem dl_1332 : decode code 1332 = .ok ((.iload 4), 2) := by decide +kernel
theorem dl_1334 : decode code 1334 = .ok ((.iconst 1), 1) := by decide +kernel
theorem dl_1335 : decode code 1335 = .ok (.iadd, 1) := by decide +kernel
theorem dl_1336 : decode code 1336 = .ok (.iaload, 1) := by decide +kernel
theorem dl_1337 : decode code 1337 = .ok ((.aload_n 0), 1) := by decide +kernel
theorem dl_1338 : decode code 1338 = .ok ((.iload 4), 2) := by decide +kernel
theorem dl_1340 : decode code 1340 = .ok ((.iconst 2), 1) := by decide +kernel
theorem dl_1341 : decode code 1341 = .ok (.iadd, 1) := by decide +kernel
theorem dl_1342 : decode code 1342 = .ok (.iaload, 1) := by decide +kernel
theorem dl_1343 : decode code 1343 = .ok (.i2l, 1) := by decide +kernel
theorem dl_1344 : decode code 1344 = .ok ((.bipush 32), 2) := by decide +kernel
theorem dl_1346 : decode code 1346 = .ok (.lshl, 1) := by decide +kernel
theorem dl_1347 : decode code 1347 = .ok ((.aload_n 0), 1) := by decide +kernel
theorem dl_1348 : decode code 1348 = .ok ((.iload 4), 2) := by decide +kernel
theorem dl_1350 : decode code 1350 = .ok ((.iconst 3), 1) := by decide +kernel
theorem dl_1351 : decode code 1351 = .ok (.iadd, 1) := by decide +kernel
theorem dl_1352 : decode code 1352 = .ok (.iaload, 1) := by decide +kernel
theorem dl_1353 : decode code 1353 = .ok (.i2l, 1) := by decide +kernel
theorem dl_1354 : decode code 1354 = .ok ((.ldc2_w 76), 3) := by decide +kernel
theorem dl_1357 : decode code 1357 = .ok (.land, 1) := by decide +kernel
theorem dl_1358 : decode code 1358 = .ok (.lor, 1) := by decide +kernel
theorem dl_1359 : decode code 1359 = .ok ((.invokevirtual 175), 3) := by decide +kernel
theorem dl_1362 : decode code 1362 = .ok ((.if_icmp .eq 81), 3) := by decide +kernel
theorem dl_1365 : decode code 1365 = .ok ((.iconst 0), 1) := by decide +kernel
theorem dl_1366 : decode code 1366 = .ok (.ireturn, 1) := by decide +kernel
theorem dl_1367 : decode code 1367 = .ok ((.aload_n 1), 1) := by decide +kernel
theorem dl_1368 : decode code 1368 = .ok ((.aload_n 0), 1) := by decide +kernel
theorem dl_1369 : decode code 1369 = .ok ((.iload 4), 2) := by decide +kernel
theorem dl_1371 : decode code 1371 = .ok ((.iconst 1), 1) := by decide +kernel
theorem dl_1372 : decode code 1372 = .ok (.iadd, 1) := by decide +kernel
theorem dl_1373 : decode code 1373 = .ok (.iaload, 1) := by decide +kernel
theorem dl_1374 : decode code 1374 = .ok ((.invokevirtual 176), 3) := by decide +kernel
theorem dl_1377 : decode code 1377 = .ok ((.aload_n 2), 1) := by decide +kernel
theorem dl_1378 : decode code 1378 = .ok ((.aload_n 0), 1) := by decide +kernel
theorem dl_1379 : decode code 1379 = .ok ((.iload 4), 2) := by decide +kernel
theorem dl_1381 : decode code 1381 = .ok ((.iconst 1), 1) := by decide +kernel
theorem dl_1382 : decode code 1382 = .ok (.iadd, 1) := by decide +kernel
theorem dl_1383 : decode code 1383 = .ok (.iaload, 1) := by decide +kernel
theorem dl_1384 : decode code 1384 = .ok ((.invokevirtual 179), 3) := by decide +kernel
theorem dl_1387 : decode code 1387 = .ok ((.if_icmp .eq 56), 3) := by decide +kernel
theorem dl_1390 : decode code 1390 = .ok ((.iconst 0), 1) := by decide +kernel
theorem dl_1391 : decode code 1391 = .ok (.ireturn, 1) := by decide +kernel
theorem dl_1392 : decode code 1392 = .ok ((.aload_n 1), 1) := by decide +kernel
theorem dl_1393 : decode code 1393 = .ok ((.invokevirtual 180), 3) := by decide +kernel
theorem dl_1396 : decode code 1396 = .ok ((.aload_n 2), 1) := by decide +kernel
theorem dl_1397 : decode code 1397 = .ok ((.invokevirtual 183), 3) := by decide +kernel
theorem dl_1400 : decode code 1400 = .ok ((.if_icmp .eq 43), 3) := by decide +kernel
theorem dl_1403 : decode code 1403 = .ok ((.iconst 0), 1) := by decide +kernel
theorem dl_1404 : decode code 1404 = .ok (.ireturn, 1) := by decide +kernel
theorem dl_1405 : decode code 1405 = .ok ((.aload_n 1), 1) := by decide +kernel
theorem dl_1406 : decode code 1406 = .ok ((.invokevirtual 184), 3) := by decide +kernel
theorem dl_1409 : decode code 1409 = .ok ((.aload_n 2), 1) := by decide +kernel
theorem dl_1410 : decode code 1410 = .ok ((.invokevirtual 187), 3) := by decide +kernel
theorem dl_1413 : decode code 1413 = .ok ((.if_icmp .eq 30), 3) := by decide +kernel
theorem dl_1416 : decode code 1416 = .ok ((.iconst 0), 1) := by decide +kernel
theorem dl_1417 : decode code 1417 = .ok (.ireturn, 1) := by decide +kernel
theorem dl_1418 : decode code 1418 = .ok ((.aload_n 1), 1) := by decide +kernel
theorem dl_1419 : decode code 1419 = .ok ((.aload_n 0), 1) := by decide +kernel
theorem dl_1420 : decode code 1420 = .ok ((.iload 4), 2) := by decide +kernel
theorem dl_1422 : decode code 1422 = .ok ((.iconst 1), 1) := by decide +kernel
theorem dl_1423 : decode code 1423 = .ok (.iadd, 1) := by decide +kernel
theorem dl_1424 : decode code 1424 = .ok (.iaload, 1) := by decide +kernel
theorem dl_1425 : decode code 1425 = .ok ((.invokevirtual 188), 3) := by decide +kernel
theorem dl_1428 : decode code 1428 = .ok ((.aload_n 2), 1) := by decide +kernel
theorem dl_1429 : decode code 1429 = .ok ((.aload_n 0), 1) := by decide +kernel
theorem dl_1430 : decode code 1430 = .ok ((.iload 4), 2) := by decide +kernel
theorem dl_1432 : decode code 1432 = .ok ((.iconst 1), 1) := by decide +kernel
theorem dl_1433 : decode code 1433 = .ok (.iadd, 1) := by decide +kernel
theorem dl_1434 : decode code 1434 = .ok (.iaload, 1) := by decide +kernel
theorem dl_1435 : decode code 1435 = .ok ((.invokevirtual 191), 3) := by decide +kernel
theorem dl_1438 : decode code 1438 = .ok ((.if_icmp .eq 5), 3) := by decide +kernel
theorem dl_1441 : decode code 1441 = .ok ((.iconst 0), 1) := by decide +kernel
theorem dl_1442 : decode code 1442 = .ok (.ireturn, 1) := by decide +kernel
theorem dl_1443 : decode code 1443 = .ok ((.iinc 4 6), 3) := by decide +kernel
theorem dl_1446 : decode code 1446 = .ok ((.goto (-1423)), 3) := by decide +kernel
theorem dl_1449 : decode code 1449 = .ok ((.iconst 1), 1) := by decide +kernel
theorem dl_1450 : decode code 1450 = .ok (.ireturn, 1) := by decide +kernel
