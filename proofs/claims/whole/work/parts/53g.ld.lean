theorem dL_law_1266 : decode cL_law 1266 = .ok (.iaload, 1) := by decide +kernel
theorem dL_law_1267 : decode cL_law 1267 = .ok (.invokevirtual 158, 3) := by decide +kernel
theorem dL_law_1270 : decode cL_law 1270 = .ok (.istore 6, 2) := by decide +kernel
theorem dL_law_1272 : decode cL_law 1272 = .ok (.aload_n 2, 1) := by decide +kernel
theorem dL_law_1273 : decode cL_law 1273 = .ok (.invokevirtual 97, 3) := by decide +kernel
theorem dL_law_1276 : decode cL_law 1276 = .ok (.iload 5, 2) := by decide +kernel
theorem dL_law_1278 : decode cL_law 1278 = .ok (.if_icmp .eq 5, 3) := by decide +kernel
theorem dL_law_1281 : decode cL_law 1281 = .ok (.iconst 0, 1) := by decide +kernel
theorem dL_law_1282 : decode cL_law 1282 = .ok (.ireturn, 1) := by decide +kernel
theorem dL_law_1283 : decode cL_law 1283 = .ok (.iload 5, 2) := by decide +kernel
theorem dL_law_1285 : decode cL_law 1285 = .ok (.ifCond .ne 15, 3) := by decide +kernel
theorem dL_law_1288 : decode cL_law 1288 = .ok (.aload_n 3, 1) := by decide +kernel
theorem dL_law_1289 : decode cL_law 1289 = .ok (.iconst 0, 1) := by decide +kernel
theorem dL_law_1290 : decode cL_law 1290 = .ok (.laload, 1) := by decide +kernel
theorem dL_law_1291 : decode cL_law 1291 = .ok (.iload 6, 2) := by decide +kernel
theorem dL_law_1293 : decode cL_law 1293 = .ok (.i2l, 1) := by decide +kernel
theorem dL_law_1294 : decode cL_law 1294 = .ok (.lcmp, 1) := by decide +kernel
theorem dL_law_1295 : decode cL_law 1295 = .ok (.ifCond .eq 5, 3) := by decide +kernel
theorem dL_law_1298 : decode cL_law 1298 = .ok (.iconst 0, 1) := by decide +kernel
theorem dL_law_1299 : decode cL_law 1299 = .ok (.ireturn, 1) := by decide +kernel
theorem dL_law_1300 : decode cL_law 1300 = .ok (.goto 306, 3) := by decide +kernel
theorem dL_law_1303 : decode cL_law 1303 = .ok (.aload_n 1, 1) := by decide +kernel
theorem dL_law_1304 : decode cL_law 1304 = .ok (.aload_n 0, 1) := by decide +kernel
theorem dL_law_1305 : decode cL_law 1305 = .ok (.iload 4, 2) := by decide +kernel
theorem dL_law_1307 : decode cL_law 1307 = .ok (.iconst 1, 1) := by decide +kernel
theorem dL_law_1308 : decode cL_law 1308 = .ok (.iadd, 1) := by decide +kernel
theorem dL_law_1309 : decode cL_law 1309 = .ok (.iaload, 1) := by decide +kernel
theorem dL_law_1310 : decode cL_law 1310 = .ok (.aload_n 3, 1) := by decide +kernel
theorem dL_law_1311 : decode cL_law 1311 = .ok (.invokestatic 159, 3) := by decide +kernel
theorem dL_law_1314 : decode cL_law 1314 = .ok (.istore 5, 2) := by decide +kernel
theorem dL_law_1316 : decode cL_law 1316 = .ok (.aload_n 2, 1) := by decide +kernel
theorem dL_law_1317 : decode cL_law 1317 = .ok (.aload_n 0, 1) := by decide +kernel
theorem dL_law_1318 : decode cL_law 1318 = .ok (.iload 4, 2) := by decide +kernel
theorem dL_law_1320 : decode cL_law 1320 = .ok (.iconst 1, 1) := by decide +kernel
theorem dL_law_1321 : decode cL_law 1321 = .ok (.iadd, 1) := by decide +kernel
theorem dL_law_1322 : decode cL_law 1322 = .ok (.iaload, 1) := by decide +kernel
theorem dL_law_1323 : decode cL_law 1323 = .ok (.invokevirtual 161, 3) := by decide +kernel
theorem dL_law_1326 : decode cL_law 1326 = .ok (.istore 6, 2) := by decide +kernel
theorem dL_law_1328 : decode cL_law 1328 = .ok (.aload_n 2, 1) := by decide +kernel
theorem dL_law_1329 : decode cL_law 1329 = .ok (.invokevirtual 97, 3) := by decide +kernel
theorem dL_law_1332 : decode cL_law 1332 = .ok (.iload 5, 2) := by decide +kernel
theorem dL_law_1334 : decode cL_law 1334 = .ok (.if_icmp .eq 5, 3) := by decide +kernel
theorem dL_law_1337 : decode cL_law 1337 = .ok (.iconst 0, 1) := by decide +kernel
theorem dL_law_1338 : decode cL_law 1338 = .ok (.ireturn, 1) := by decide +kernel
theorem dL_law_1339 : decode cL_law 1339 = .ok (.iload 5, 2) := by decide +kernel
theorem dL_law_1341 : decode cL_law 1341 = .ok (.ifCond .ne 15, 3) := by decide +kernel
theorem dL_law_1344 : decode cL_law 1344 = .ok (.aload_n 3, 1) := by decide +kernel
theorem dL_law_1345 : decode cL_law 1345 = .ok (.iconst 0, 1) := by decide +kernel
theorem dL_law_1346 : decode cL_law 1346 = .ok (.laload, 1) := by decide +kernel
theorem dL_law_1347 : decode cL_law 1347 = .ok (.iload 6, 2) := by decide +kernel
theorem dL_law_1349 : decode cL_law 1349 = .ok (.i2l, 1) := by decide +kernel
theorem dL_law_1350 : decode cL_law 1350 = .ok (.lcmp, 1) := by decide +kernel
theorem dL_law_1351 : decode cL_law 1351 = .ok (.ifCond .eq 5, 3) := by decide +kernel
theorem dL_law_1354 : decode cL_law 1354 = .ok (.iconst 0, 1) := by decide +kernel
theorem dL_law_1355 : decode cL_law 1355 = .ok (.ireturn, 1) := by decide +kernel
theorem dL_law_1356 : decode cL_law 1356 = .ok (.goto 250, 3) := by decide +kernel
theorem dL_law_1359 : decode cL_law 1359 = .ok (.aload_n 1, 1) := by decide +kernel
theorem dL_law_1360 : decode cL_law 1360 = .ok (.aload_n 0, 1) := by decide +kernel
theorem dL_law_1361 : decode cL_law 1361 = .ok (.iload 4, 2) := by decide +kernel
theorem dL_law_1363 : decode cL_law 1363 = .ok (.iconst 1, 1) := by decide +kernel
theorem dL_law_1364 : decode cL_law 1364 = .ok (.iadd, 1) := by decide +kernel
theorem dL_law_1365 : decode cL_law 1365 = .ok (.iaload, 1) := by decide +kernel
theorem dL_law_1366 : decode cL_law 1366 = .ok (.aload_n 0, 1) := by decide +kernel
theorem dL_law_1367 : decode cL_law 1367 = .ok (.iload 4, 2) := by decide +kernel
theorem dL_law_1369 : decode cL_law 1369 = .ok (.iconst 2, 1) := by decide +kernel
theorem dL_law_1370 : decode cL_law 1370 = .ok (.iadd, 1) := by decide +kernel
theorem dL_law_1371 : decode cL_law 1371 = .ok (.iaload, 1) := by decide +kernel
theorem dL_law_1372 : decode cL_law 1372 = .ok (.aload_n 3, 1) := by decide +kernel
theorem dL_law_1373 : decode cL_law 1373 = .ok (.invokestatic 162, 3) := by decide +kernel
theorem dL_law_1376 : decode cL_law 1376 = .ok (.istore 5, 2) := by decide +kernel
theorem dL_law_1378 : decode cL_law 1378 = .ok (.aload_n 2, 1) := by decide +kernel
theorem dL_law_1379 : decode cL_law 1379 = .ok (.aload_n 0, 1) := by decide +kernel
theorem dL_law_1380 : decode cL_law 1380 = .ok (.iload 4, 2) := by decide +kernel
theorem dL_law_1382 : decode cL_law 1382 = .ok (.iconst 1, 1) := by decide +kernel
theorem dL_law_1383 : decode cL_law 1383 = .ok (.iadd, 1) := by decide +kernel
theorem dL_law_1384 : decode cL_law 1384 = .ok (.iaload, 1) := by decide +kernel
theorem dL_law_1385 : decode cL_law 1385 = .ok (.aload_n 0, 1) := by decide +kernel
theorem dL_law_1386 : decode cL_law 1386 = .ok (.iload 4, 2) := by decide +kernel
theorem dL_law_1388 : decode cL_law 1388 = .ok (.iconst 2, 1) := by decide +kernel
theorem dL_law_1389 : decode cL_law 1389 = .ok (.iadd, 1) := by decide +kernel
theorem dL_law_1390 : decode cL_law 1390 = .ok (.iaload, 1) := by decide +kernel
theorem dL_law_1391 : decode cL_law 1391 = .ok (.invokevirtual 164, 3) := by decide +kernel
theorem dL_law_1394 : decode cL_law 1394 = .ok (.istore 6, 2) := by decide +kernel
theorem dL_law_1396 : decode cL_law 1396 = .ok (.aload_n 2, 1) := by decide +kernel
theorem dL_law_1397 : decode cL_law 1397 = .ok (.invokevirtual 97, 3) := by decide +kernel
theorem dL_law_1400 : decode cL_law 1400 = .ok (.iload 5, 2) := by decide +kernel
theorem dL_law_1402 : decode cL_law 1402 = .ok (.if_icmp .eq 5, 3) := by decide +kernel
theorem dL_law_1405 : decode cL_law 1405 = .ok (.iconst 0, 1) := by decide +kernel
theorem dL_law_1406 : decode cL_law 1406 = .ok (.ireturn, 1) := by decide +kernel
theorem dL_law_1407 : decode cL_law 1407 = .ok (.iload 5, 2) := by decide +kernel
theorem dL_law_1409 : decode cL_law 1409 = .ok (.ifCond .ne 15, 3) := by decide +kernel
theorem dL_law_1412 : decode cL_law 1412 = .ok (.aload_n 3, 1) := by decide +kernel
theorem dL_law_1413 : decode cL_law 1413 = .ok (.iconst 0, 1) := by decide +kernel
theorem dL_law_1414 : decode cL_law 1414 = .ok (.laload, 1) := by decide +kernel
theorem dL_law_1415 : decode cL_law 1415 = .ok (.iload 6, 2) := by decide +kernel
theorem dL_law_1417 : decode cL_law 1417 = .ok (.i2l, 1) := by decide +kernel
theorem dL_law_1418 : decode cL_law 1418 = .ok (.lcmp, 1) := by decide +kernel
theorem dL_law_1419 : decode cL_law 1419 = .ok (.ifCond .eq 5, 3) := by decide +kernel
theorem dL_law_1422 : decode cL_law 1422 = .ok (.iconst 0, 1) := by decide +kernel
theorem dL_law_1423 : decode cL_law 1423 = .ok (.ireturn, 1) := by decide +kernel
theorem dL_law_1424 : decode cL_law 1424 = .ok (.goto 182, 3) := by decide +kernel
theorem dL_law_1427 : decode cL_law 1427 = .ok (.aload_n 1, 1) := by decide +kernel
theorem dL_law_1428 : decode cL_law 1428 = .ok (.aload_n 0, 1) := by decide +kernel
theorem dL_law_1429 : decode cL_law 1429 = .ok (.iload 4, 2) := by decide +kernel
theorem dL_law_1431 : decode cL_law 1431 = .ok (.iconst 1, 1) := by decide +kernel
theorem dL_law_1432 : decode cL_law 1432 = .ok (.iadd, 1) := by decide +kernel
theorem dL_law_1433 : decode cL_law 1433 = .ok (.iaload, 1) := by decide +kernel
theorem dL_law_1434 : decode cL_law 1434 = .ok (.aload_n 3, 1) := by decide +kernel
theorem dL_law_1435 : decode cL_law 1435 = .ok (.invokestatic 165, 3) := by decide +kernel
theorem dL_law_1438 : decode cL_law 1438 = .ok (.istore 5, 2) := by decide +kernel
theorem dL_law_1440 : decode cL_law 1440 = .ok (.aload_n 2, 1) := by decide +kernel
theorem dL_law_1441 : decode cL_law 1441 = .ok (.aload_n 0, 1) := by decide +kernel
theorem dL_law_1442 : decode cL_law 1442 = .ok (.iload 4, 2) := by decide +kernel
theorem dL_law_1444 : decode cL_law 1444 = .ok (.iconst 1, 1) := by decide +kernel
theorem dL_law_1445 : decode cL_law 1445 = .ok (.iadd, 1) := by decide +kernel
theorem dL_law_1446 : decode cL_law 1446 = .ok (.iaload, 1) := by decide +kernel
theorem dL_law_1447 : decode cL_law 1447 = .ok (.invokevirtual 167, 3) := by decide +kernel
theorem dL_law_1450 : decode cL_law 1450 = .ok (.istore 6, 2) := by decide +kernel
theorem dL_law_1452 : decode cL_law 1452 = .ok (.aload_n 2, 1) := by decide +kernel
theorem dL_law_1453 : decode cL_law 1453 = .ok (.invokevirtual 97, 3) := by decide +kernel
theorem dL_law_1456 : decode cL_law 1456 = .ok (.iload 5, 2) := by decide +kernel
theorem dL_law_1458 : decode cL_law 1458 = .ok (.if_icmp .eq 5, 3) := by decide +kernel
theorem dL_law_1461 : decode cL_law 1461 = .ok (.iconst 0, 1) := by decide +kernel
theorem dL_law_1462 : decode cL_law 1462 = .ok (.ireturn, 1) := by decide +kernel
theorem dL_law_1463 : decode cL_law 1463 = .ok (.iload 5, 2) := by decide +kernel
