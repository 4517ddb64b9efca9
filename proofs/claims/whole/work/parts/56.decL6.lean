theorem d_L_law_1289 : decode code 1289 = .ok (.aload_n 0, 1) := by decide +kernel
theorem d_L_law_1290 : decode code 1290 = .ok (.iload 4, 2) := by decide +kernel
theorem d_L_law_1292 : decode code 1292 = .ok (.iconst 2, 1) := by decide +kernel
theorem d_L_law_1293 : decode code 1293 = .ok (.iadd, 1) := by decide +kernel
theorem d_L_law_1294 : decode code 1294 = .ok (.iaload, 1) := by decide +kernel
theorem d_L_law_1295 : decode code 1295 = .ok (.invokevirtual 159, 3) := by decide +kernel
theorem d_L_law_1298 : decode code 1298 = .ok (.istore 6, 2) := by decide +kernel
theorem d_L_law_1300 : decode code 1300 = .ok (.aload_n 2, 1) := by decide +kernel
theorem d_L_law_1301 : decode code 1301 = .ok (.invokevirtual 100, 3) := by decide +kernel
theorem d_L_law_1304 : decode code 1304 = .ok (.iload 5, 2) := by decide +kernel
theorem d_L_law_1306 : decode code 1306 = .ok (.if_icmp .eq 5, 3) := by decide +kernel
theorem d_L_law_1309 : decode code 1309 = .ok (.iconst 0, 1) := by decide +kernel
theorem d_L_law_1310 : decode code 1310 = .ok (.ireturn, 1) := by decide +kernel
theorem d_L_law_1311 : decode code 1311 = .ok (.iload 5, 2) := by decide +kernel
theorem d_L_law_1313 : decode code 1313 = .ok (.ifCond .ne 22, 3) := by decide +kernel
theorem d_L_law_1316 : decode code 1316 = .ok (.aload_n 3, 1) := by decide +kernel
theorem d_L_law_1317 : decode code 1317 = .ok (.iconst 0, 1) := by decide +kernel
theorem d_L_law_1318 : decode code 1318 = .ok (.laload, 1) := by decide +kernel
theorem d_L_law_1319 : decode code 1319 = .ok (.iload 6, 2) := by decide +kernel
theorem d_L_law_1321 : decode code 1321 = .ok (.ifCond .eq 7, 3) := by decide +kernel
theorem d_L_law_1324 : decode code 1324 = .ok (.lconst 1, 1) := by decide +kernel
theorem d_L_law_1325 : decode code 1325 = .ok (.goto 4, 3) := by decide +kernel
theorem d_L_law_1328 : decode code 1328 = .ok (.lconst 0, 1) := by decide +kernel
theorem d_L_law_1329 : decode code 1329 = .ok (.lcmp, 1) := by decide +kernel
theorem d_L_law_1330 : decode code 1330 = .ok (.ifCond .eq 5, 3) := by decide +kernel
theorem d_L_law_1333 : decode code 1333 = .ok (.iconst 0, 1) := by decide +kernel
theorem d_L_law_1334 : decode code 1334 = .ok (.ireturn, 1) := by decide +kernel
theorem d_L_law_1335 : decode code 1335 = .ok (.goto 176, 3) := by decide +kernel
theorem d_L_law_1338 : decode code 1338 = .ok (.aload_n 1, 1) := by decide +kernel
theorem d_L_law_1339 : decode code 1339 = .ok (.aload_n 0, 1) := by decide +kernel
theorem d_L_law_1340 : decode code 1340 = .ok (.iload 4, 2) := by decide +kernel
theorem d_L_law_1342 : decode code 1342 = .ok (.iconst 1, 1) := by decide +kernel
theorem d_L_law_1343 : decode code 1343 = .ok (.iadd, 1) := by decide +kernel
theorem d_L_law_1344 : decode code 1344 = .ok (.iaload, 1) := by decide +kernel
theorem d_L_law_1345 : decode code 1345 = .ok (.aload_n 0, 1) := by decide +kernel
theorem d_L_law_1346 : decode code 1346 = .ok (.iload 4, 2) := by decide +kernel
theorem d_L_law_1348 : decode code 1348 = .ok (.iconst 2, 1) := by decide +kernel
theorem d_L_law_1349 : decode code 1349 = .ok (.iadd, 1) := by decide +kernel
theorem d_L_law_1350 : decode code 1350 = .ok (.iaload, 1) := by decide +kernel
theorem d_L_law_1351 : decode code 1351 = .ok (.aload_n 3, 1) := by decide +kernel
theorem d_L_law_1352 : decode code 1352 = .ok (.invokestatic 160, 3) := by decide +kernel
theorem d_L_law_1355 : decode code 1355 = .ok (.istore 5, 2) := by decide +kernel
theorem d_L_law_1357 : decode code 1357 = .ok (.aload_n 2, 1) := by decide +kernel
theorem d_L_law_1358 : decode code 1358 = .ok (.aload_n 0, 1) := by decide +kernel
theorem d_L_law_1359 : decode code 1359 = .ok (.iload 4, 2) := by decide +kernel
theorem d_L_law_1361 : decode code 1361 = .ok (.iconst 1, 1) := by decide +kernel
theorem d_L_law_1362 : decode code 1362 = .ok (.iadd, 1) := by decide +kernel
theorem d_L_law_1363 : decode code 1363 = .ok (.iaload, 1) := by decide +kernel
theorem d_L_law_1364 : decode code 1364 = .ok (.aload_n 0, 1) := by decide +kernel
theorem d_L_law_1365 : decode code 1365 = .ok (.iload 4, 2) := by decide +kernel
theorem d_L_law_1367 : decode code 1367 = .ok (.iconst 2, 1) := by decide +kernel
theorem d_L_law_1368 : decode code 1368 = .ok (.iadd, 1) := by decide +kernel
theorem d_L_law_1369 : decode code 1369 = .ok (.iaload, 1) := by decide +kernel
theorem d_L_law_1370 : decode code 1370 = .ok (.invokevirtual 162, 3) := by decide +kernel
theorem d_L_law_1373 : decode code 1373 = .ok (.istore 6, 2) := by decide +kernel
theorem d_L_law_1375 : decode code 1375 = .ok (.aload_n 2, 1) := by decide +kernel
theorem d_L_law_1376 : decode code 1376 = .ok (.invokevirtual 100, 3) := by decide +kernel
theorem d_L_law_1379 : decode code 1379 = .ok (.iload 5, 2) := by decide +kernel
theorem d_L_law_1381 : decode code 1381 = .ok (.if_icmp .eq 5, 3) := by decide +kernel
theorem d_L_law_1384 : decode code 1384 = .ok (.iconst 0, 1) := by decide +kernel
theorem d_L_law_1385 : decode code 1385 = .ok (.ireturn, 1) := by decide +kernel
theorem d_L_law_1386 : decode code 1386 = .ok (.iload 5, 2) := by decide +kernel
theorem d_L_law_1388 : decode code 1388 = .ok (.ifCond .ne 15, 3) := by decide +kernel
theorem d_L_law_1391 : decode code 1391 = .ok (.aload_n 3, 1) := by decide +kernel
theorem d_L_law_1392 : decode code 1392 = .ok (.iconst 0, 1) := by decide +kernel
theorem d_L_law_1393 : decode code 1393 = .ok (.laload, 1) := by decide +kernel
theorem d_L_law_1394 : decode code 1394 = .ok (.iload 6, 2) := by decide +kernel
theorem d_L_law_1396 : decode code 1396 = .ok (.i2l, 1) := by decide +kernel
theorem d_L_law_1397 : decode code 1397 = .ok (.lcmp, 1) := by decide +kernel
theorem d_L_law_1398 : decode code 1398 = .ok (.ifCond .eq 5, 3) := by decide +kernel
theorem d_L_law_1401 : decode code 1401 = .ok (.iconst 0, 1) := by decide +kernel
theorem d_L_law_1402 : decode code 1402 = .ok (.ireturn, 1) := by decide +kernel
theorem d_L_law_1403 : decode code 1403 = .ok (.goto 108, 3) := by decide +kernel
theorem d_L_law_1406 : decode code 1406 = .ok (.aload_n 1, 1) := by decide +kernel
theorem d_L_law_1407 : decode code 1407 = .ok (.invokevirtual 163, 3) := by decide +kernel
theorem d_L_law_1410 : decode code 1410 = .ok (.aload_n 2, 1) := by decide +kernel
theorem d_L_law_1411 : decode code 1411 = .ok (.invokevirtual 166, 3) := by decide +kernel
theorem d_L_law_1414 : decode code 1414 = .ok (.if_icmp .eq 97, 3) := by decide +kernel
theorem d_L_law_1417 : decode code 1417 = .ok (.iconst 0, 1) := by decide +kernel
theorem d_L_law_1418 : decode code 1418 = .ok (.ireturn, 1) := by decide +kernel
theorem d_L_law_1419 : decode code 1419 = .ok (.aload_n 1, 1) := by decide +kernel
theorem d_L_law_1420 : decode code 1420 = .ok (.aload_n 0, 1) := by decide +kernel
theorem d_L_law_1421 : decode code 1421 = .ok (.iload 4, 2) := by decide +kernel
theorem d_L_law_1423 : decode code 1423 = .ok (.iconst 1, 1) := by decide +kernel
theorem d_L_law_1424 : decode code 1424 = .ok (.iadd, 1) := by decide +kernel
theorem d_L_law_1425 : decode code 1425 = .ok (.iaload, 1) := by decide +kernel
theorem d_L_law_1426 : decode code 1426 = .ok (.aload_n 0, 1) := by decide +kernel
theorem d_L_law_1427 : decode code 1427 = .ok (.iload 4, 2) := by decide +kernel
theorem d_L_law_1429 : decode code 1429 = .ok (.iconst 2, 1) := by decide +kernel
theorem d_L_law_1430 : decode code 1430 = .ok (.iadd, 1) := by decide +kernel
theorem d_L_law_1431 : decode code 1431 = .ok (.iaload, 1) := by decide +kernel
theorem d_L_law_1432 : decode code 1432 = .ok (.aload_n 0, 1) := by decide +kernel
theorem d_L_law_1433 : decode code 1433 = .ok (.iload 4, 2) := by decide +kernel
theorem d_L_law_1435 : decode code 1435 = .ok (.iconst 3, 1) := by decide +kernel
theorem d_L_law_1436 : decode code 1436 = .ok (.iadd, 1) := by decide +kernel
theorem d_L_law_1437 : decode code 1437 = .ok (.iaload, 1) := by decide +kernel
theorem d_L_law_1438 : decode code 1438 = .ok (.aload_n 0, 1) := by decide +kernel
theorem d_L_law_1439 : decode code 1439 = .ok (.iload 4, 2) := by decide +kernel
theorem d_L_law_1441 : decode code 1441 = .ok (.iconst 4, 1) := by decide +kernel
theorem d_L_law_1442 : decode code 1442 = .ok (.iadd, 1) := by decide +kernel
theorem d_L_law_1443 : decode code 1443 = .ok (.iaload, 1) := by decide +kernel
theorem d_L_law_1444 : decode code 1444 = .ok (.aload_n 3, 1) := by decide +kernel
theorem d_L_law_1445 : decode code 1445 = .ok (.invokestatic 167, 3) := by decide +kernel
theorem d_L_law_1448 : decode code 1448 = .ok (.istore 5, 2) := by decide +kernel
theorem d_L_law_1450 : decode code 1450 = .ok (.aload_n 2, 1) := by decide +kernel
theorem d_L_law_1451 : decode code 1451 = .ok (.aload_n 0, 1) := by decide +kernel
theorem d_L_law_1452 : decode code 1452 = .ok (.iload 4, 2) := by decide +kernel
theorem d_L_law_1454 : decode code 1454 = .ok (.iconst 1, 1) := by decide +kernel
theorem d_L_law_1455 : decode code 1455 = .ok (.iadd, 1) := by decide +kernel
theorem d_L_law_1456 : decode code 1456 = .ok (.iaload, 1) := by decide +kernel
theorem d_L_law_1457 : decode code 1457 = .ok (.aload_n 0, 1) := by decide +kernel
theorem d_L_law_1458 : decode code 1458 = .ok (.iload 4, 2) := by decide +kernel
theorem d_L_law_1460 : decode code 1460 = .ok (.iconst 2, 1) := by decide +kernel
theorem d_L_law_1461 : decode code 1461 = .ok (.iadd, 1) := by decide +kernel
theorem d_L_law_1462 : decode code 1462 = .ok (.iaload, 1) := by decide +kernel
theorem d_L_law_1463 : decode code 1463 = .ok (.aload_n 0, 1) := by decide +kernel
theorem d_L_law_1464 : decode code 1464 = .ok (.iload 4, 2) := by decide +kernel
theorem d_L_law_1466 : decode code 1466 = .ok (.iconst 3, 1) := by decide +kernel
theorem d_L_law_1467 : decode code 1467 = .ok (.iadd, 1) := by decide +kernel
theorem d_L_law_1468 : decode code 1468 = .ok (.iaload, 1) := by decide +kernel
theorem d_L_law_1469 : decode code 1469 = .ok (.aload_n 0, 1) := by decide +kernel
theorem d_L_law_1470 : decode code 1470 = .ok (.iload 4, 2) := by decide +kernel
theorem d_L_law_1472 : decode code 1472 = .ok (.iconst 4, 1) := by decide +kernel
theorem d_L_law_1473 : decode code 1473 = .ok (.iadd, 1) := by decide +kernel
theorem d_L_law_1474 : decode code 1474 = .ok (.iaload, 1) := by decide +kernel
theorem d_L_law_1475 : decode code 1475 = .ok (.invokevirtual 169, 3) := by decide +kernel
theorem d_L_law_1478 : decode code 1478 = .ok (.istore 6, 2) := by decide +kernel
theorem d_L_law_1480 : decode code 1480 = .ok (.aload_n 2, 1) := by decide +kernel
theorem d_L_law_1481 : decode code 1481 = .ok (.invokevirtual 100, 3) := by decide +kernel
theorem d_L_law_1484 : decode code 1484 = .ok (.iload 5, 2) := by decide +kernel
theorem d_L_law_1486 : decode code 1486 = .ok (.if_icmp .eq 5, 3) := by decide +kernel
theorem d_L_law_1489 : decode code 1489 = .ok (.iconst 0, 1) := by decide +kernel
theorem d_L_law_1490 : decode code 1490 = .ok (.ireturn, 1) := by decide +kernel
theorem d_L_law_1491 : decode code 1491 = .ok (.iload 5, 2) := by decide +kernel
theorem d_L_law_1493 : decode code 1493 = .ok (.ifCond .ne 15, 3) := by decide +kernel
theorem d_L_law_1496 : decode code 1496 = .ok (.aload_n 3, 1) := by decide +kernel
theorem d_L_law_1497 : decode code 1497 = .ok (.iconst 0, 1) := by decide +kernel
theorem d_L_law_1498 : decode code 1498 = .ok (.laload, 1) := by decide +kernel
theorem d_L_law_1499 : decode code 1499 = .ok (.iload 6, 2) := by decide +kernel
theorem d_L_law_1501 : decode code 1501 = .ok (.i2l, 1) := by decide +kernel
theorem d_L_law_1502 : decode code 1502 = .ok (.lcmp, 1) := by decide +kernel
theorem d_L_law_1503 : decode code 1503 = .ok (.ifCond .eq 5, 3) := by decide +kernel
theorem d_L_law_1506 : decode code 1506 = .ok (.iconst 0, 1) := by decide +kernel
theorem d_L_law_1507 : decode code 1507 = .ok (.ireturn, 1) := by decide +kernel
theorem d_L_law_1508 : decode code 1508 = .ok (.goto 3, 3) := by decide +kernel
theorem d_L_law_1511 : decode code 1511 = .ok (.iinc 4 5, 3) := by decide +kernel
theorem d_L_law_1514 : decode code 1514 = .ok (.goto (-1481), 3) := by decide +kernel
theorem d_L_law_1517 : decode code 1517 = .ok (.iconst 1, 1) := by decide +kernel
theorem d_L_law_1518 : decode code 1518 = .ok (.ireturn, 1) := by decide +kernel
