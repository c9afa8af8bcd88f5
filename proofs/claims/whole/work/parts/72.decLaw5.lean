theorem d_Lw_law_1255 : decode code 1255 = .ok (.istore 5, 2) := by decide +kernel
theorem d_Lw_law_1257 : decode code 1257 = .ok (.aload_n 2, 1) := by decide +kernel
theorem d_Lw_law_1258 : decode code 1258 = .ok (.aload_n 0, 1) := by decide +kernel
theorem d_Lw_law_1259 : decode code 1259 = .ok (.iload 4, 2) := by decide +kernel
theorem d_Lw_law_1261 : decode code 1261 = .ok (.iconst 1, 1) := by decide +kernel
theorem d_Lw_law_1262 : decode code 1262 = .ok (.iadd, 1) := by decide +kernel
theorem d_Lw_law_1263 : decode code 1263 = .ok (.iaload, 1) := by decide +kernel
theorem d_Lw_law_1264 : decode code 1264 = .ok (.invokevirtual 161, 3) := by decide +kernel
theorem d_Lw_law_1267 : decode code 1267 = .ok (.istore 6, 2) := by decide +kernel
theorem d_Lw_law_1269 : decode code 1269 = .ok (.aload_n 2, 1) := by decide +kernel
theorem d_Lw_law_1270 : decode code 1270 = .ok (.invokevirtual 96, 3) := by decide +kernel
theorem d_Lw_law_1273 : decode code 1273 = .ok (.iload 5, 2) := by decide +kernel
theorem d_Lw_law_1275 : decode code 1275 = .ok (.if_icmp .eq 5, 3) := by decide +kernel
theorem d_Lw_law_1278 : decode code 1278 = .ok (.iconst 0, 1) := by decide +kernel
theorem d_Lw_law_1279 : decode code 1279 = .ok (.ireturn, 1) := by decide +kernel
theorem d_Lw_law_1280 : decode code 1280 = .ok (.iload 5, 2) := by decide +kernel
theorem d_Lw_law_1282 : decode code 1282 = .ok (.ifCond .ne 15, 3) := by decide +kernel
theorem d_Lw_law_1285 : decode code 1285 = .ok (.aload_n 3, 1) := by decide +kernel
theorem d_Lw_law_1286 : decode code 1286 = .ok (.iconst 0, 1) := by decide +kernel
theorem d_Lw_law_1287 : decode code 1287 = .ok (.laload, 1) := by decide +kernel
theorem d_Lw_law_1288 : decode code 1288 = .ok (.iload 6, 2) := by decide +kernel
theorem d_Lw_law_1290 : decode code 1290 = .ok (.i2l, 1) := by decide +kernel
theorem d_Lw_law_1291 : decode code 1291 = .ok (.lcmp, 1) := by decide +kernel
theorem d_Lw_law_1292 : decode code 1292 = .ok (.ifCond .eq 5, 3) := by decide +kernel
theorem d_Lw_law_1295 : decode code 1295 = .ok (.iconst 0, 1) := by decide +kernel
theorem d_Lw_law_1296 : decode code 1296 = .ok (.ireturn, 1) := by decide +kernel
theorem d_Lw_law_1297 : decode code 1297 = .ok (.goto 236, 3) := by decide +kernel
theorem d_Lw_law_1300 : decode code 1300 = .ok (.aload_n 1, 1) := by decide +kernel
theorem d_Lw_law_1301 : decode code 1301 = .ok (.aload_n 0, 1) := by decide +kernel
theorem d_Lw_law_1302 : decode code 1302 = .ok (.iload 4, 2) := by decide +kernel
theorem d_Lw_law_1304 : decode code 1304 = .ok (.iconst 1, 1) := by decide +kernel
theorem d_Lw_law_1305 : decode code 1305 = .ok (.iadd, 1) := by decide +kernel
theorem d_Lw_law_1306 : decode code 1306 = .ok (.iaload, 1) := by decide +kernel
theorem d_Lw_law_1307 : decode code 1307 = .ok (.aload_n 0, 1) := by decide +kernel
theorem d_Lw_law_1308 : decode code 1308 = .ok (.iload 4, 2) := by decide +kernel
theorem d_Lw_law_1310 : decode code 1310 = .ok (.iconst 2, 1) := by decide +kernel
theorem d_Lw_law_1311 : decode code 1311 = .ok (.iadd, 1) := by decide +kernel
theorem d_Lw_law_1312 : decode code 1312 = .ok (.iaload, 1) := by decide +kernel
theorem d_Lw_law_1313 : decode code 1313 = .ok (.aload_n 0, 1) := by decide +kernel
theorem d_Lw_law_1314 : decode code 1314 = .ok (.iload 4, 2) := by decide +kernel
theorem d_Lw_law_1316 : decode code 1316 = .ok (.iconst 3, 1) := by decide +kernel
theorem d_Lw_law_1317 : decode code 1317 = .ok (.iadd, 1) := by decide +kernel
theorem d_Lw_law_1318 : decode code 1318 = .ok (.iaload, 1) := by decide +kernel
theorem d_Lw_law_1319 : decode code 1319 = .ok (.ifCond .eq 7, 3) := by decide +kernel
theorem d_Lw_law_1322 : decode code 1322 = .ok (.iconst 1, 1) := by decide +kernel
theorem d_Lw_law_1323 : decode code 1323 = .ok (.goto 4, 3) := by decide +kernel
theorem d_Lw_law_1326 : decode code 1326 = .ok (.iconst 0, 1) := by decide +kernel
theorem d_Lw_law_1327 : decode code 1327 = .ok (.aload_n 3, 1) := by decide +kernel
theorem d_Lw_law_1328 : decode code 1328 = .ok (.invokestatic 162, 3) := by decide +kernel
theorem d_Lw_law_1331 : decode code 1331 = .ok (.istore 5, 2) := by decide +kernel
theorem d_Lw_law_1333 : decode code 1333 = .ok (.aload_n 2, 1) := by decide +kernel
theorem d_Lw_law_1334 : decode code 1334 = .ok (.aload_n 0, 1) := by decide +kernel
theorem d_Lw_law_1335 : decode code 1335 = .ok (.iload 4, 2) := by decide +kernel
theorem d_Lw_law_1337 : decode code 1337 = .ok (.iconst 1, 1) := by decide +kernel
theorem d_Lw_law_1338 : decode code 1338 = .ok (.iadd, 1) := by decide +kernel
theorem d_Lw_law_1339 : decode code 1339 = .ok (.iaload, 1) := by decide +kernel
theorem d_Lw_law_1340 : decode code 1340 = .ok (.aload_n 0, 1) := by decide +kernel
theorem d_Lw_law_1341 : decode code 1341 = .ok (.iload 4, 2) := by decide +kernel
theorem d_Lw_law_1343 : decode code 1343 = .ok (.iconst 2, 1) := by decide +kernel
theorem d_Lw_law_1344 : decode code 1344 = .ok (.iadd, 1) := by decide +kernel
theorem d_Lw_law_1345 : decode code 1345 = .ok (.iaload, 1) := by decide +kernel
theorem d_Lw_law_1346 : decode code 1346 = .ok (.aload_n 0, 1) := by decide +kernel
theorem d_Lw_law_1347 : decode code 1347 = .ok (.iload 4, 2) := by decide +kernel
theorem d_Lw_law_1349 : decode code 1349 = .ok (.iconst 3, 1) := by decide +kernel
theorem d_Lw_law_1350 : decode code 1350 = .ok (.iadd, 1) := by decide +kernel
theorem d_Lw_law_1351 : decode code 1351 = .ok (.iaload, 1) := by decide +kernel
theorem d_Lw_law_1352 : decode code 1352 = .ok (.ifCond .eq 7, 3) := by decide +kernel
theorem d_Lw_law_1355 : decode code 1355 = .ok (.iconst 1, 1) := by decide +kernel
theorem d_Lw_law_1356 : decode code 1356 = .ok (.goto 4, 3) := by decide +kernel
theorem d_Lw_law_1359 : decode code 1359 = .ok (.iconst 0, 1) := by decide +kernel
theorem d_Lw_law_1360 : decode code 1360 = .ok (.invokevirtual 164, 3) := by decide +kernel
theorem d_Lw_law_1363 : decode code 1363 = .ok (.istore 6, 2) := by decide +kernel
theorem d_Lw_law_1365 : decode code 1365 = .ok (.aload_n 2, 1) := by decide +kernel
theorem d_Lw_law_1366 : decode code 1366 = .ok (.invokevirtual 96, 3) := by decide +kernel
theorem d_Lw_law_1369 : decode code 1369 = .ok (.iload 5, 2) := by decide +kernel
theorem d_Lw_law_1371 : decode code 1371 = .ok (.if_icmp .eq 5, 3) := by decide +kernel
theorem d_Lw_law_1374 : decode code 1374 = .ok (.iconst 0, 1) := by decide +kernel
theorem d_Lw_law_1375 : decode code 1375 = .ok (.ireturn, 1) := by decide +kernel
theorem d_Lw_law_1376 : decode code 1376 = .ok (.iload 5, 2) := by decide +kernel
theorem d_Lw_law_1378 : decode code 1378 = .ok (.ifCond .ne 15, 3) := by decide +kernel
theorem d_Lw_law_1381 : decode code 1381 = .ok (.aload_n 3, 1) := by decide +kernel
theorem d_Lw_law_1382 : decode code 1382 = .ok (.iconst 0, 1) := by decide +kernel
theorem d_Lw_law_1383 : decode code 1383 = .ok (.laload, 1) := by decide +kernel
theorem d_Lw_law_1384 : decode code 1384 = .ok (.iload 6, 2) := by decide +kernel
theorem d_Lw_law_1386 : decode code 1386 = .ok (.i2l, 1) := by decide +kernel
theorem d_Lw_law_1387 : decode code 1387 = .ok (.lcmp, 1) := by decide +kernel
theorem d_Lw_law_1388 : decode code 1388 = .ok (.ifCond .eq 5, 3) := by decide +kernel
theorem d_Lw_law_1391 : decode code 1391 = .ok (.iconst 0, 1) := by decide +kernel
theorem d_Lw_law_1392 : decode code 1392 = .ok (.ireturn, 1) := by decide +kernel
theorem d_Lw_law_1393 : decode code 1393 = .ok (.goto 140, 3) := by decide +kernel
theorem d_Lw_law_1396 : decode code 1396 = .ok (.aload_n 1, 1) := by decide +kernel
theorem d_Lw_law_1397 : decode code 1397 = .ok (.aload_n 0, 1) := by decide +kernel
theorem d_Lw_law_1398 : decode code 1398 = .ok (.iload 4, 2) := by decide +kernel
theorem d_Lw_law_1400 : decode code 1400 = .ok (.iconst 1, 1) := by decide +kernel
theorem d_Lw_law_1401 : decode code 1401 = .ok (.iadd, 1) := by decide +kernel
theorem d_Lw_law_1402 : decode code 1402 = .ok (.iaload, 1) := by decide +kernel
theorem d_Lw_law_1403 : decode code 1403 = .ok (.aload_n 0, 1) := by decide +kernel
theorem d_Lw_law_1404 : decode code 1404 = .ok (.iload 4, 2) := by decide +kernel
theorem d_Lw_law_1406 : decode code 1406 = .ok (.iconst 2, 1) := by decide +kernel
theorem d_Lw_law_1407 : decode code 1407 = .ok (.iadd, 1) := by decide +kernel
theorem d_Lw_law_1408 : decode code 1408 = .ok (.iaload, 1) := by decide +kernel
theorem d_Lw_law_1409 : decode code 1409 = .ok (.aload_n 3, 1) := by decide +kernel
theorem d_Lw_law_1410 : decode code 1410 = .ok (.invokestatic 165, 3) := by decide +kernel
theorem d_Lw_law_1413 : decode code 1413 = .ok (.istore 5, 2) := by decide +kernel
theorem d_Lw_law_1415 : decode code 1415 = .ok (.aload_n 2, 1) := by decide +kernel
theorem d_Lw_law_1416 : decode code 1416 = .ok (.aload_n 0, 1) := by decide +kernel
theorem d_Lw_law_1417 : decode code 1417 = .ok (.iload 4, 2) := by decide +kernel
theorem d_Lw_law_1419 : decode code 1419 = .ok (.iconst 1, 1) := by decide +kernel
theorem d_Lw_law_1420 : decode code 1420 = .ok (.iadd, 1) := by decide +kernel
theorem d_Lw_law_1421 : decode code 1421 = .ok (.iaload, 1) := by decide +kernel
theorem d_Lw_law_1422 : decode code 1422 = .ok (.aload_n 0, 1) := by decide +kernel
theorem d_Lw_law_1423 : decode code 1423 = .ok (.iload 4, 2) := by decide +kernel
theorem d_Lw_law_1425 : decode code 1425 = .ok (.iconst 2, 1) := by decide +kernel
theorem d_Lw_law_1426 : decode code 1426 = .ok (.iadd, 1) := by decide +kernel
theorem d_Lw_law_1427 : decode code 1427 = .ok (.iaload, 1) := by decide +kernel
theorem d_Lw_law_1428 : decode code 1428 = .ok (.invokevirtual 167, 3) := by decide +kernel
theorem d_Lw_law_1431 : decode code 1431 = .ok (.istore 6, 2) := by decide +kernel
theorem d_Lw_law_1433 : decode code 1433 = .ok (.aload_n 2, 1) := by decide +kernel
theorem d_Lw_law_1434 : decode code 1434 = .ok (.invokevirtual 96, 3) := by decide +kernel
theorem d_Lw_law_1437 : decode code 1437 = .ok (.iload 5, 2) := by decide +kernel
theorem d_Lw_law_1439 : decode code 1439 = .ok (.if_icmp .eq 5, 3) := by decide +kernel
theorem d_Lw_law_1442 : decode code 1442 = .ok (.iconst 0, 1) := by decide +kernel
theorem d_Lw_law_1443 : decode code 1443 = .ok (.ireturn, 1) := by decide +kernel
theorem d_Lw_law_1444 : decode code 1444 = .ok (.iload 5, 2) := by decide +kernel
theorem d_Lw_law_1446 : decode code 1446 = .ok (.ifCond .ne 15, 3) := by decide +kernel
theorem d_Lw_law_1449 : decode code 1449 = .ok (.aload_n 3, 1) := by decide +kernel
theorem d_Lw_law_1450 : decode code 1450 = .ok (.iconst 0, 1) := by decide +kernel
theorem d_Lw_law_1451 : decode code 1451 = .ok (.laload, 1) := by decide +kernel
theorem d_Lw_law_1452 : decode code 1452 = .ok (.iload 6, 2) := by decide +kernel
theorem d_Lw_law_1454 : decode code 1454 = .ok (.i2l, 1) := by decide +kernel
theorem d_Lw_law_1455 : decode code 1455 = .ok (.lcmp, 1) := by decide +kernel
theorem d_Lw_law_1456 : decode code 1456 = .ok (.ifCond .eq 5, 3) := by decide +kernel
theorem d_Lw_law_1459 : decode code 1459 = .ok (.iconst 0, 1) := by decide +kernel
theorem d_Lw_law_1460 : decode code 1460 = .ok (.ireturn, 1) := by decide +kernel
theorem d_Lw_law_1461 : decode code 1461 = .ok (.goto 72, 3) := by decide +kernel
theorem d_Lw_law_1464 : decode code 1464 = .ok (.aload_n 1, 1) := by decide +kernel
theorem d_Lw_law_1465 : decode code 1465 = .ok (.aload_n 0, 1) := by decide +kernel
theorem d_Lw_law_1466 : decode code 1466 = .ok (.iload 4, 2) := by decide +kernel
theorem d_Lw_law_1468 : decode code 1468 = .ok (.iconst 1, 1) := by decide +kernel
theorem d_Lw_law_1469 : decode code 1469 = .ok (.iadd, 1) := by decide +kernel
theorem d_Lw_law_1470 : decode code 1470 = .ok (.iaload, 1) := by decide +kernel
theorem d_Lw_law_1471 : decode code 1471 = .ok (.aload_n 3, 1) := by decide +kernel
theorem d_Lw_law_1472 : decode code 1472 = .ok (.invokestatic 168, 3) := by decide +kernel
theorem d_Lw_law_1475 : decode code 1475 = .ok (.istore 5, 2) := by decide +kernel
theorem d_Lw_law_1477 : decode code 1477 = .ok (.aload_n 2, 1) := by decide +kernel
theorem d_Lw_law_1478 : decode code 1478 = .ok (.aload_n 0, 1) := by decide +kernel
theorem d_Lw_law_1479 : decode code 1479 = .ok (.iload 4, 2) := by decide +kernel
theorem d_Lw_law_1481 : decode code 1481 = .ok (.iconst 1, 1) := by decide +kernel
theorem d_Lw_law_1482 : decode code 1482 = .ok (.iadd, 1) := by decide +kernel
theorem d_Lw_law_1483 : decode code 1483 = .ok (.iaload, 1) := by decide +kernel
