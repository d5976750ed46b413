theorem jw_M_worked : jv_ok jm_M_worked = true := by decide +kernel
theorem jx_M_worked : jv_mk jm_M_worked 1301 1300 99 60 = true := by decide +kernel
theorem jw_M_named : jv_ok jm_M_named = true := by decide +kernel
theorem jx_M_named : jv_mk jm_M_named 1305 1304 99 61 = true := by decide +kernel
theorem jw_M_there : jv_ok jm_M_there = true := by decide +kernel
theorem jx_M_there : jv_mk jm_M_there 1309 1308 99 62 = true := by decide +kernel
theorem jw_M_two : jv_ok jm_M_two = true := by decide +kernel
theorem jx_M_two : jv_mk jm_M_two 1312 1311 99 0 = true := by decide +kernel
theorem jw_M_why : jv_ok jm_M_why = true := by decide +kernel
theorem jx_M_why : jv_mk jm_M_why 1316 1314 99 1315 = true := by decide +kernel
theorem jw_M_isAct : jv_ok jm_M_isAct = true := by decide +kernel
theorem jx_M_isAct : jv_mk jm_M_isAct 1320 1319 99 63 = true := by decide +kernel
theorem jw_M_hinders : jv_ok jm_M_hinders = true := by decide +kernel
theorem jx_M_hinders : jv_mk jm_M_hinders 1324 1323 99 64 = true := by decide +kernel
theorem jw_M_ranked : jv_ok jm_M_ranked = true := by decide +kernel
theorem jx_M_ranked : jv_mk jm_M_ranked 1328 1327 99 65 = true := by decide +kernel
theorem jw_M_act : jv_ok jm_M_act = true := by decide +kernel
theorem jx_M_act : jv_mk jm_M_act 1332 1330 99 1331 = true := by decide +kernel
theorem jw_M_acts : jv_ok jm_M_acts = true := by decide +kernel
theorem jx_M_acts : jv_mk jm_M_acts 1336 1335 99 66 = true := by decide +kernel
theorem jw_M_sets : jv_ok jm_M_sets = true := by decide +kernel
theorem jx_M_sets : jv_mk jm_M_sets 1340 1339 99 67 = true := by decide +kernel
theorem jw_M_vote : jv_ok jm_M_vote = true := by decide +kernel
theorem jx_M_vote : jv_mk jm_M_vote 1344 1342 99 1343 = true := by decide +kernel
theorem jw_M_counted : jv_ok jm_M_counted = true := by decide +kernel
theorem jx_M_counted : jv_mk jm_M_counted 1348 1347 99 68 = true := by decide +kernel
theorem jw_M_votes : jv_ok jm_M_votes = true := by decide +kernel
theorem jx_M_votes : jv_mk jm_M_votes 1352 1351 99 69 = true := by decide +kernel
theorem jw_M_leans : jv_ok jm_M_leans = true := by decide +kernel
theorem jx_M_leans : jv_mk jm_M_leans 1356 1355 99 70 = true := by decide +kernel
theorem jw_M_gain : jv_ok jm_M_gain = true := by decide +kernel
theorem jx_M_gain : jv_mk jm_M_gain 1360 1359 99 71 = true := by decide +kernel
theorem jw_M_isDoable : jv_ok jm_M_isDoable = true := by decide +kernel
theorem jx_M_isDoable : jv_mk jm_M_isDoable 1364 1363 99 72 = true := by decide +kernel
theorem jw_M_sectionOf : jv_ok jm_M_sectionOf = true := by decide +kernel
theorem jx_M_sectionOf : jv_mk jm_M_sectionOf 1368 1367 99 73 = true := by decide +kernel
theorem jw_M_carries : jv_ok jm_M_carries = true := by decide +kernel
theorem jx_M_carries : jv_mk jm_M_carries 1372 1371 99 74 = true := by decide +kernel
theorem jw_M_isUpNoMore : jv_ok jm_M_isUpNoMore = true := by decide +kernel
theorem jx_M_isUpNoMore : jv_mk jm_M_isUpNoMore 1376 1375 99 75 = true := by decide +kernel
theorem jw_M_does : jv_ok jm_M_does = true := by decide +kernel
theorem jx_M_does : jv_mk jm_M_does 1380 1379 99 76 = true := by decide +kernel
theorem jw_M_follows : jv_ok jm_M_follows = true := by decide +kernel
theorem jx_M_follows : jv_mk jm_M_follows 1384 1383 99 77 = true := by decide +kernel
theorem jw_M_voted : jv_ok jm_M_voted = true := by decide +kernel
theorem jx_M_voted : jv_mk jm_M_voted 1388 1386 99 1387 = true := by decide +kernel
theorem jw_M_would : jv_ok jm_M_would = true := by decide +kernel
theorem jx_M_would : jv_mk jm_M_would 1392 1390 99 1391 = true := by decide +kernel
theorem jw_M_motion : jv_ok jm_M_motion = true := by decide +kernel
theorem jx_M_motion : jv_mk jm_M_motion 1396 1394 99 1395 = true := by decide +kernel
theorem jw_M_yield : jv_ok jm_M_yield = true := by decide +kernel
theorem jx_M_yield : jv_mk jm_M_yield 1401 1399 99 1400 = true := by decide +kernel
theorem jw_M_day : jv_ok jm_M_day = true := by decide +kernel
theorem jx_M_day : jv_mk jm_M_day 1405 1403 99 1404 = true := by decide +kernel
theorem jw_M_tell : jv_ok jm_M_tell = true := by decide +kernel
theorem jx_M_tell : jv_mk jm_M_tell 1409 1407 99 1408 = true := by decide +kernel
theorem jw_M_foresee : jv_ok jm_M_foresee = true := by decide +kernel
theorem jx_M_foresee : jv_mk jm_M_foresee 1413 1411 99 1412 = true := by decide +kernel
theorem jw_M_isOrder : jv_ok jm_M_isOrder = true := by decide +kernel
theorem jx_M_isOrder : jv_mk jm_M_isOrder 1417 1416 99 78 = true := by decide +kernel
theorem jw_M_foresees : jv_ok jm_M_foresees = true := by decide +kernel
theorem jx_M_foresees : jv_mk jm_M_foresees 1421 1420 99 79 = true := by decide +kernel
theorem jw_M_best : jv_ok jm_M_best = true := by decide +kernel
theorem jx_M_best : jv_mk jm_M_best 1425 1423 99 1424 = true := by decide +kernel
theorem jw_M_confer : jv_ok jm_M_confer = true := by decide +kernel
theorem jx_M_confer : jv_mk jm_M_confer 1429 1427 99 1428 = true := by decide +kernel
theorem jw_M_brings : jv_ok jm_M_brings = true := by decide +kernel
theorem jx_M_brings : jv_mk jm_M_brings 1433 1432 99 80 = true := by decide +kernel
theorem jw_M_conferred : jv_ok jm_M_conferred = true := by decide +kernel
theorem jx_M_conferred : jv_mk jm_M_conferred 1437 1435 99 1436 = true := by decide +kernel
theorem jw_M_nextOf : jv_ok jm_M_nextOf = true := by decide +kernel
theorem jx_M_nextOf : jv_mk jm_M_nextOf 1441 1440 99 81 = true := by decide +kernel
theorem jw_M_count : jv_ok jm_M_count = true := by decide +kernel
theorem jx_M_count : jv_mk jm_M_count 1445 1443 99 1444 = true := by decide +kernel
theorem jw_M_tray : jv_ok jm_M_tray = true := by decide +kernel
theorem jx_M_tray : jv_mk jm_M_tray 1449 1447 99 1448 = true := by decide +kernel
theorem jw_M_isTray : jv_ok jm_M_isTray = true := by decide +kernel
theorem jx_M_isTray : jv_mk jm_M_isTray 1452 1451 99 0 = true := by decide +kernel
theorem jw_M_cell : jv_ok jm_M_cell = true := by decide +kernel
theorem jx_M_cell : jv_mk jm_M_cell 1456 1454 99 1455 = true := by decide +kernel
theorem jw_M_made : jv_ok jm_M_made = true := by decide +kernel
theorem jx_M_made : jv_mk jm_M_made 1460 1458 99 1459 = true := by decide +kernel
theorem jw_M_taken : jv_ok jm_M_taken = true := by decide +kernel
theorem jx_M_taken : jv_mk jm_M_taken 1464 1462 99 1463 = true := by decide +kernel
