theorem dL_law_1250 : decode cL_law 1250 = .ok (.iadd, 1) := by decide +kernel
theorem dL_law_1251 : decode cL_law 1251 = .ok (.iaload, 1) := by decide +kernel
theorem dL_law_1252 : decode cL_law 1252 = .ok (.aload_n 0, 1) := by decide +kernel
theorem dL_law_1253 : decode cL_law 1253 = .ok (.iload 4, 2) := by decide +kernel
theorem dL_law_1255 : decode cL_law 1255 = .ok (.iconst 4, 1) := by decide +kernel
theorem dL_law_1256 : decode cL_law 1256 = .ok (.iadd, 1) := by decide +kernel
theorem dL_law_1257 : decode cL_law 1257 = .ok (.iaload, 1) := by decide +kernel
theorem dL_law_1258 : decode cL_law 1258 = .ok (.aload_n 0, 1) := by decide +kernel
theorem dL_law_1259 : decode cL_law 1259 = .ok (.iload 4, 2) := by decide +kernel
theorem dL_law_1261 : decode cL_law 1261 = .ok (.iconst 5, 1) := by decide +kernel
theorem dL_law_1262 : decode cL_law 1262 = .ok (.iadd, 1) := by decide +kernel
theorem dL_law_1263 : decode cL_law 1263 = .ok (.iaload, 1) := by decide +kernel
theorem dL_law_1264 : decode cL_law 1264 = .ok (.ifCond .eq 7, 3) := by decide +kernel
theorem dL_law_1267 : decode cL_law 1267 = .ok (.iconst 1, 1) := by decide +kernel
theorem dL_law_1268 : decode cL_law 1268 = .ok (.goto 4, 3) := by decide +kernel
theorem dL_law_1271 : decode cL_law 1271 = .ok (.iconst 0, 1) := by decide +kernel
theorem dL_law_1272 : decode cL_law 1272 = .ok (.invokevirtual 149, 3) := by decide +kernel
theorem dL_law_1275 : decode cL_law 1275 = .ok (.if_icmp .eq 327, 3) := by decide +kernel
theorem dL_law_1278 : decode cL_law 1278 = .ok (.iconst 0, 1) := by decide +kernel
theorem dL_law_1279 : decode cL_law 1279 = .ok (.ireturn, 1) := by decide +kernel
theorem dL_law_1280 : decode cL_law 1280 = .ok (.aload_n 1, 1) := by decide +kernel
theorem dL_law_1281 : decode cL_law 1281 = .ok (.invokevirtual 150, 3) := by decide +kernel
theorem dL_law_1284 : decode cL_law 1284 = .ok (.aload_n 2, 1) := by decide +kernel
theorem dL_law_1285 : decode cL_law 1285 = .ok (.invokevirtual 153, 3) := by decide +kernel
theorem dL_law_1288 : decode cL_law 1288 = .ok (.if_icmp .eq 314, 3) := by decide +kernel
theorem dL_law_1291 : decode cL_law 1291 = .ok (.iconst 0, 1) := by decide +kernel
theorem dL_law_1292 : decode cL_law 1292 = .ok (.ireturn, 1) := by decide +kernel
theorem dL_law_1293 : decode cL_law 1293 = .ok (.aload_n 1, 1) := by decide +kernel
theorem dL_law_1294 : decode cL_law 1294 = .ok (.aload_n 0, 1) := by decide +kernel
theorem dL_law_1295 : decode cL_law 1295 = .ok (.iload 4, 2) := by decide +kernel
theorem dL_law_1297 : decode cL_law 1297 = .ok (.iconst 1, 1) := by decide +kernel
theorem dL_law_1298 : decode cL_law 1298 = .ok (.iadd, 1) := by decide +kernel
theorem dL_law_1299 : decode cL_law 1299 = .ok (.iaload, 1) := by decide +kernel
theorem dL_law_1300 : decode cL_law 1300 = .ok (.aload_n 0, 1) := by decide +kernel
theorem dL_law_1301 : decode cL_law 1301 = .ok (.iload 4, 2) := by decide +kernel
theorem dL_law_1303 : decode cL_law 1303 = .ok (.iconst 2, 1) := by decide +kernel
theorem dL_law_1304 : decode cL_law 1304 = .ok (.iadd, 1) := by decide +kernel
theorem dL_law_1305 : decode cL_law 1305 = .ok (.iaload, 1) := by decide +kernel
theorem dL_law_1306 : decode cL_law 1306 = .ok (.invokevirtual 154, 3) := by decide +kernel
theorem dL_law_1309 : decode cL_law 1309 = .ok (.aload_n 2, 1) := by decide +kernel
theorem dL_law_1310 : decode cL_law 1310 = .ok (.aload_n 0, 1) := by decide +kernel
theorem dL_law_1311 : decode cL_law 1311 = .ok (.iload 4, 2) := by decide +kernel
theorem dL_law_1313 : decode cL_law 1313 = .ok (.iconst 1, 1) := by decide +kernel
theorem dL_law_1314 : decode cL_law 1314 = .ok (.iadd, 1) := by decide +kernel
theorem dL_law_1315 : decode cL_law 1315 = .ok (.iaload, 1) := by decide +kernel
theorem dL_law_1316 : decode cL_law 1316 = .ok (.aload_n 0, 1) := by decide +kernel
theorem dL_law_1317 : decode cL_law 1317 = .ok (.iload 4, 2) := by decide +kernel
theorem dL_law_1319 : decode cL_law 1319 = .ok (.iconst 2, 1) := by decide +kernel
theorem dL_law_1320 : decode cL_law 1320 = .ok (.iadd, 1) := by decide +kernel
theorem dL_law_1321 : decode cL_law 1321 = .ok (.iaload, 1) := by decide +kernel
theorem dL_law_1322 : decode cL_law 1322 = .ok (.invokevirtual 157, 3) := by decide +kernel
theorem dL_law_1325 : decode cL_law 1325 = .ok (.if_icmp .eq 277, 3) := by decide +kernel
theorem dL_law_1328 : decode cL_law 1328 = .ok (.iconst 0, 1) := by decide +kernel
theorem dL_law_1329 : decode cL_law 1329 = .ok (.ireturn, 1) := by decide +kernel
theorem dL_law_1330 : decode cL_law 1330 = .ok (.aload_n 1, 1) := by decide +kernel
theorem dL_law_1331 : decode cL_law 1331 = .ok (.aload_n 0, 1) := by decide +kernel
theorem dL_law_1332 : decode cL_law 1332 = .ok (.iload 4, 2) := by decide +kernel
theorem dL_law_1334 : decode cL_law 1334 = .ok (.iconst 1, 1) := by decide +kernel
theorem dL_law_1335 : decode cL_law 1335 = .ok (.iadd, 1) := by decide +kernel
theorem dL_law_1336 : decode cL_law 1336 = .ok (.iaload, 1) := by decide +kernel
theorem dL_law_1337 : decode cL_law 1337 = .ok (.aload_n 0, 1) := by decide +kernel
theorem dL_law_1338 : decode cL_law 1338 = .ok (.iload 4, 2) := by decide +kernel
theorem dL_law_1340 : decode cL_law 1340 = .ok (.iconst 2, 1) := by decide +kernel
theorem dL_law_1341 : decode cL_law 1341 = .ok (.iadd, 1) := by decide +kernel
theorem dL_law_1342 : decode cL_law 1342 = .ok (.iaload, 1) := by decide +kernel
theorem dL_law_1343 : decode cL_law 1343 = .ok (.aload_n 0, 1) := by decide +kernel
theorem dL_law_1344 : decode cL_law 1344 = .ok (.iload 4, 2) := by decide +kernel
theorem dL_law_1346 : decode cL_law 1346 = .ok (.iconst 3, 1) := by decide +kernel
theorem dL_law_1347 : decode cL_law 1347 = .ok (.iadd, 1) := by decide +kernel
theorem dL_law_1348 : decode cL_law 1348 = .ok (.iaload, 1) := by decide +kernel
theorem dL_law_1349 : decode cL_law 1349 = .ok (.aload_n 0, 1) := by decide +kernel
theorem dL_law_1350 : decode cL_law 1350 = .ok (.iload 4, 2) := by decide +kernel
theorem dL_law_1352 : decode cL_law 1352 = .ok (.iconst 4, 1) := by decide +kernel
theorem dL_law_1353 : decode cL_law 1353 = .ok (.iadd, 1) := by decide +kernel
theorem dL_law_1354 : decode cL_law 1354 = .ok (.iaload, 1) := by decide +kernel
theorem dL_law_1355 : decode cL_law 1355 = .ok (.aload_n 0, 1) := by decide +kernel
theorem dL_law_1356 : decode cL_law 1356 = .ok (.iload 4, 2) := by decide +kernel
theorem dL_law_1358 : decode cL_law 1358 = .ok (.iconst 5, 1) := by decide +kernel
theorem dL_law_1359 : decode cL_law 1359 = .ok (.iadd, 1) := by decide +kernel
theorem dL_law_1360 : decode cL_law 1360 = .ok (.iaload, 1) := by decide +kernel
theorem dL_law_1361 : decode cL_law 1361 = .ok (.invokevirtual 158, 3) := by decide +kernel
theorem dL_law_1364 : decode cL_law 1364 = .ok (.aload_n 2, 1) := by decide +kernel
theorem dL_law_1365 : decode cL_law 1365 = .ok (.aload_n 0, 1) := by decide +kernel
theorem dL_law_1366 : decode cL_law 1366 = .ok (.iload 4, 2) := by decide +kernel
theorem dL_law_1368 : decode cL_law 1368 = .ok (.iconst 1, 1) := by decide +kernel
theorem dL_law_1369 : decode cL_law 1369 = .ok (.iadd, 1) := by decide +kernel
theorem dL_law_1370 : decode cL_law 1370 = .ok (.iaload, 1) := by decide +kernel
theorem dL_law_1371 : decode cL_law 1371 = .ok (.aload_n 0, 1) := by decide +kernel
theorem dL_law_1372 : decode cL_law 1372 = .ok (.iload 4, 2) := by decide +kernel
theorem dL_law_1374 : decode cL_law 1374 = .ok (.iconst 2, 1) := by decide +kernel
theorem dL_law_1375 : decode cL_law 1375 = .ok (.iadd, 1) := by decide +kernel
theorem dL_law_1376 : decode cL_law 1376 = .ok (.iaload, 1) := by decide +kernel
theorem dL_law_1377 : decode cL_law 1377 = .ok (.aload_n 0, 1) := by decide +kernel
theorem dL_law_1378 : decode cL_law 1378 = .ok (.iload 4, 2) := by decide +kernel
theorem dL_law_1380 : decode cL_law 1380 = .ok (.iconst 3, 1) := by decide +kernel
theorem dL_law_1381 : decode cL_law 1381 = .ok (.iadd, 1) := by decide +kernel
theorem dL_law_1382 : decode cL_law 1382 = .ok (.iaload, 1) := by decide +kernel
theorem dL_law_1383 : decode cL_law 1383 = .ok (.aload_n 0, 1) := by decide +kernel
theorem dL_law_1384 : decode cL_law 1384 = .ok (.iload 4, 2) := by decide +kernel
theorem dL_law_1386 : decode cL_law 1386 = .ok (.iconst 4, 1) := by decide +kernel
theorem dL_law_1387 : decode cL_law 1387 = .ok (.iadd, 1) := by decide +kernel
theorem dL_law_1388 : decode cL_law 1388 = .ok (.iaload, 1) := by decide +kernel
theorem dL_law_1389 : decode cL_law 1389 = .ok (.aload_n 0, 1) := by decide +kernel
theorem dL_law_1390 : decode cL_law 1390 = .ok (.iload 4, 2) := by decide +kernel
theorem dL_law_1392 : decode cL_law 1392 = .ok (.iconst 5, 1) := by decide +kernel
theorem dL_law_1393 : decode cL_law 1393 = .ok (.iadd, 1) := by decide +kernel
theorem dL_law_1394 : decode cL_law 1394 = .ok (.iaload, 1) := by decide +kernel
theorem dL_law_1395 : decode cL_law 1395 = .ok (.invokevirtual 161, 3) := by decide +kernel
theorem dL_law_1398 : decode cL_law 1398 = .ok (.if_icmp .eq 204, 3) := by decide +kernel
theorem dL_law_1401 : decode cL_law 1401 = .ok (.iconst 0, 1) := by decide +kernel
theorem dL_law_1402 : decode cL_law 1402 = .ok (.ireturn, 1) := by decide +kernel
theorem dL_law_1403 : decode cL_law 1403 = .ok (.aload_n 1, 1) := by decide +kernel
theorem dL_law_1404 : decode cL_law 1404 = .ok (.aload_n 0, 1) := by decide +kernel
theorem dL_law_1405 : decode cL_law 1405 = .ok (.iload 4, 2) := by decide +kernel
theorem dL_law_1407 : decode cL_law 1407 = .ok (.iconst 1, 1) := by decide +kernel
theorem dL_law_1408 : decode cL_law 1408 = .ok (.iadd, 1) := by decide +kernel
theorem dL_law_1409 : decode cL_law 1409 = .ok (.iaload, 1) := by decide +kernel
theorem dL_law_1410 : decode cL_law 1410 = .ok (.aload_n 0, 1) := by decide +kernel
theorem dL_law_1411 : decode cL_law 1411 = .ok (.iload 4, 2) := by decide +kernel
theorem dL_law_1413 : decode cL_law 1413 = .ok (.iconst 2, 1) := by decide +kernel
theorem dL_law_1414 : decode cL_law 1414 = .ok (.iadd, 1) := by decide +kernel
theorem dL_law_1415 : decode cL_law 1415 = .ok (.iaload, 1) := by decide +kernel
theorem dL_law_1416 : decode cL_law 1416 = .ok (.aload_n 0, 1) := by decide +kernel
theorem dL_law_1417 : decode cL_law 1417 = .ok (.iload 4, 2) := by decide +kernel
theorem dL_law_1419 : decode cL_law 1419 = .ok (.iconst 3, 1) := by decide +kernel
theorem dL_law_1420 : decode cL_law 1420 = .ok (.iadd, 1) := by decide +kernel
theorem dL_law_1421 : decode cL_law 1421 = .ok (.iaload, 1) := by decide +kernel
theorem dL_law_1422 : decode cL_law 1422 = .ok (.invokevirtual 162, 3) := by decide +kernel
