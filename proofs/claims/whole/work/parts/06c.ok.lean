theorem jx_M_init : jv_mk jm_M_init 940 939 99 0 = true := by decide +kernel
theorem jw_M_reads : jv_ok jm_M_reads = true := by decide +kernel
theorem jx_M_reads : jv_mk jm_M_reads 945 944 99 38 = true := by decide +kernel
theorem jw_M_next : jv_ok jm_M_next = true := by decide +kernel
theorem jx_M_next : jv_mk jm_M_next 949 948 99 39 = true := by decide +kernel
theorem jw_M_byteAt : jv_ok jm_M_byteAt = true := by decide +kernel
theorem jx_M_byteAt : jv_mk jm_M_byteAt 953 952 99 40 = true := by decide +kernel
theorem jw_M_isLetter : jv_ok jm_M_isLetter = true := by decide +kernel
theorem jx_M_isLetter : jv_mk jm_M_isLetter 956 955 99 0 = true := by decide +kernel
theorem jw_M_spelled : jv_ok jm_M_spelled = true := by decide +kernel
theorem jx_M_spelled : jv_mk jm_M_spelled 960 959 99 41 = true := by decide +kernel
theorem jw_M_isDigit : jv_ok jm_M_isDigit = true := by decide +kernel
theorem jx_M_isDigit : jv_mk jm_M_isDigit 963 962 99 0 = true := by decide +kernel
theorem jw_M_number : jv_ok jm_M_number = true := by decide +kernel
theorem jx_M_number : jv_mk jm_M_number 967 966 99 42 = true := by decide +kernel
theorem jw_M_need : jv_ok jm_M_need = true := by decide +kernel
theorem jx_M_need : jv_mk jm_M_need 971 970 99 43 = true := by decide +kernel
theorem jw_M_isWrong : jv_ok jm_M_isWrong = true := by decide +kernel
theorem jx_M_isWrong : jv_mk jm_M_isWrong 975 974 99 44 = true := by decide +kernel
theorem jw_M_cannot : jv_ok jm_M_cannot = true := by decide +kernel
theorem jx_M_cannot : jv_mk jm_M_cannot 979 978 99 45 = true := by decide +kernel
theorem jw_M_either : jv_ok jm_M_either = true := by decide +kernel
theorem jx_M_either : jv_mk jm_M_either 983 982 99 46 = true := by decide +kernel
theorem jw_M_both : jv_ok jm_M_both = true := by decide +kernel
theorem jx_M_both : jv_mk jm_M_both 987 986 99 47 = true := by decide +kernel
theorem jw_M_not : jv_ok jm_M_not = true := by decide +kernel
theorem jx_M_not : jv_mk jm_M_not 991 990 99 48 = true := by decide +kernel
theorem jw_M_opens : jv_ok jm_M_opens = true := by decide +kernel
theorem jx_M_opens : jv_mk jm_M_opens 995 994 99 49 = true := by decide +kernel
theorem jw_M_emit : jv_ok jm_M_emit = true := by decide +kernel
theorem jx_M_emit : jv_mk jm_M_emit 999 998 99 50 = true := by decide +kernel
theorem jw_M_added : jv_ok jm_M_added = true := by decide +kernel
theorem jx_M_added : jv_mk jm_M_added 1003 1002 99 51 = true := by decide +kernel
theorem jw_M_term : jv_ok jm_M_term = true := by decide +kernel
theorem jx_M_term : jv_mk jm_M_term 1007 1006 99 52 = true := by decide +kernel
theorem jw_M_one : jv_ok jm_M_one = true := by decide +kernel
theorem jx_M_one : jv_mk jm_M_one 1011 1010 99 53 = true := by decide +kernel
theorem jw_M_member : jv_ok jm_M_member = true := by decide +kernel
theorem jx_M_member : jv_mk jm_M_member 1194 1192 99 1193 = true := by decide +kernel
theorem jw_M_in : jv_ok jm_M_in = true := by decide +kernel
theorem jx_M_in : jv_mk jm_M_in 1197 1196 99 0 = true := by decide +kernel
theorem jw_M_like : jv_ok jm_M_like = true := by decide +kernel
theorem jx_M_like : jv_mk jm_M_like 1201 1199 99 1200 = true := by decide +kernel
theorem jw_M_isMember : jv_ok jm_M_isMember = true := by decide +kernel
theorem jx_M_isMember : jv_mk jm_M_isMember 1205 1204 99 54 = true := by decide +kernel
theorem jw_M_isWord : jv_ok jm_M_isWord = true := by decide +kernel
theorem jx_M_isWord : jv_mk jm_M_isWord 1208 1207 99 0 = true := by decide +kernel
theorem jw_M_comes : jv_ok jm_M_comes = true := by decide +kernel
theorem jx_M_comes : jv_mk jm_M_comes 1212 1210 99 1211 = true := by decide +kernel
theorem jw_M_pair : jv_ok jm_M_pair = true := by decide +kernel
theorem jx_M_pair : jv_mk jm_M_pair 1216 1214 99 1215 = true := by decide +kernel
theorem jw_M_part : jv_ok jm_M_part = true := by decide +kernel
theorem jx_M_part : jv_mk jm_M_part 1220 1218 99 1219 = true := by decide +kernel
theorem jw_M_ask : jv_ok jm_M_ask = true := by decide +kernel
theorem jx_M_ask : jv_mk jm_M_ask 1224 1222 99 1223 = true := by decide +kernel
theorem jw_M_memberTold : jv_ok jm_M_memberTold = true := by decide +kernel
theorem jx_M_memberTold : jv_mk jm_M_memberTold 1228 1226 99 1227 = true := by decide +kernel
theorem jw_M_bill : jv_ok jm_M_bill = true := by decide +kernel
theorem jx_M_bill : jv_mk jm_M_bill 1232 1230 99 1231 = true := by decide +kernel
theorem jw_M_section : jv_ok jm_M_section = true := by decide +kernel
theorem jx_M_section : jv_mk jm_M_section 1236 1234 99 1235 = true := by decide +kernel
theorem jw_M_isBill : jv_ok jm_M_isBill = true := by decide +kernel
theorem jx_M_isBill : jv_mk jm_M_isBill 1240 1239 99 55 = true := by decide +kernel
theorem jw_M_billTold : jv_ok jm_M_billTold = true := by decide +kernel
theorem jx_M_billTold : jv_mk jm_M_billTold 1244 1242 99 1243 = true := by decide +kernel
theorem jw_M_placeOf : jv_ok jm_M_placeOf = true := by decide +kernel
theorem jx_M_placeOf : jv_mk jm_M_placeOf 1248 1247 99 56 = true := by decide +kernel
theorem jw_M_bits : jv_ok jm_M_bits = true := by decide +kernel
theorem jx_M_bits : jv_mk jm_M_bits 1251 1250 99 0 = true := by decide +kernel
theorem jw_M_word : jv_ok jm_M_word = true := by decide +kernel
theorem jx_M_word : jv_mk jm_M_word 1255 1253 99 1254 = true := by decide +kernel
theorem jw_M_worth : jv_ok jm_M_worth = true := by decide +kernel
theorem jx_M_worth : jv_mk jm_M_worth 1259 1257 99 1258 = true := by decide +kernel
theorem jw_M_takes : jv_ok jm_M_takes = true := by decide +kernel
theorem jx_M_takes : jv_mk jm_M_takes 1264 1263 99 57 = true := by decide +kernel
theorem jw_M_valued : jv_ok jm_M_valued = true := by decide +kernel
theorem jx_M_valued : jv_mk jm_M_valued 1268 1267 99 58 = true := by decide +kernel
theorem jw_M_report : jv_ok jm_M_report = true := by decide +kernel
theorem jx_M_report : jv_mk jm_M_report 1272 1270 99 1271 = true := by decide +kernel
theorem jw_M_lists : jv_ok jm_M_lists = true := by decide +kernel
theorem jx_M_lists : jv_mk jm_M_lists 1276 1275 99 59 = true := by decide +kernel
theorem jw_M_sign : jv_ok jm_M_sign = true := by decide +kernel
theorem jx_M_sign : jv_mk jm_M_sign 1280 1278 99 1279 = true := by decide +kernel
theorem jw_M_call : jv_ok jm_M_call = true := by decide +kernel
theorem jx_M_call : jv_mk jm_M_call 1284 1282 99 1283 = true := by decide +kernel
theorem jw_M_feed : jv_ok jm_M_feed = true := by decide +kernel
theorem jx_M_feed : jv_mk jm_M_feed 1288 1286 99 1287 = true := by decide +kernel
theorem jw_M_text : jv_ok jm_M_text = true := by decide +kernel
theorem jx_M_text : jv_mk jm_M_text 1293 1291 99 1292 = true := by decide +kernel
theorem jw_M_says : jv_ok jm_M_says = true := by decide +kernel
theorem jx_M_says : jv_mk jm_M_says 1297 1295 99 1296 = true := by decide +kernel
theorem jw_M_worked : jv_ok jm_M_worked = true := by decide +kernel
theorem jx_M_worked : jv_mk jm_M_worked 1301 1300 99 60 = true := by decide +kernel
theorem jw_M_named : jv_ok jm_M_named = true := by decide +kernel
theorem jx_M_named : jv_mk jm_M_named 1305 1304 99 61 = true := by decide +kernel
theorem jw_M_there : jv_ok jm_M_there = true := by decide +kernel
theorem jx_M_there : jv_mk jm_M_there 1309 1308 99 62 = true := by decide +kernel
theorem jw_M_two : jv_ok jm_M_two = true := by decide +kernel
theorem jx_M_two : jv_mk jm_M_two 1312 1311 99 0 = true := by decide +kernel
theorem jw_M_why : jv_ok jm_M_why = true := by decide +kernel
theorem jx_M_why : jv_mk jm_M_why 1316 1314 99 1315 = true := by decide +kernel
theorem jw_M_isAct : jv_ok jm_M_isAct = true := by decide +kernel
theorem jx_M_isAct : jv_mk jm_M_isAct 1320 1319 99 63 = true := by decide +kernel
theorem jw_M_hinders : jv_ok jm_M_hinders = true := by decide +kernel
theorem jx_M_hinders : jv_mk jm_M_hinders 1324 1323 99 64 = true := by decide +kernel
theorem jw_M_ranked : jv_ok jm_M_ranked = true := by decide +kernel
theorem jx_M_ranked : jv_mk jm_M_ranked 1328 1327 99 65 = true := by decide +kernel
theorem jw_M_act : jv_ok jm_M_act = true := by decide +kernel
theorem jx_M_act : jv_mk jm_M_act 1332 1330 99 1331 = true := by decide +kernel
theorem jw_M_acts : jv_ok jm_M_acts = true := by decide +kernel
theorem jx_M_acts : jv_mk jm_M_acts 1336 1335 99 66 = true := by decide +kernel
theorem jw_M_sets : jv_ok jm_M_sets = true := by decide +kernel
theorem jx_M_sets : jv_mk jm_M_sets 1340 1339 99 67 = true := by decide +kernel
theorem jw_M_vote : jv_ok jm_M_vote = true := by decide +kernel
theorem jx_M_vote : jv_mk jm_M_vote 1344 1342 99 1343 = true := by decide +kernel
theorem jw_M_counted : jv_ok jm_M_counted = true := by decide +kernel
theorem jx_M_counted : jv_mk jm_M_counted 1348 1347 99 68 = true := by decide +kernel
theorem jw_M_votes : jv_ok jm_M_votes = true := by decide +kernel
theorem jx_M_votes : jv_mk jm_M_votes 1352 1351 99 69 = true := by decide +kernel
theorem jw_M_leans : jv_ok jm_M_leans = true := by decide +kernel
theorem jx_M_leans : jv_mk jm_M_leans 1356 1355 99 70 = true := by decide +kernel
theorem jw_M_gain : jv_ok jm_M_gain = true := by decide +kernel
theorem jx_M_gain : jv_mk jm_M_gain 1360 1359 99 71 = true := by decide +kernel
theorem jw_M_isDoable : jv_ok jm_M_isDoable = true := by decide +kernel
theorem jx_M_isDoable : jv_mk jm_M_isDoable 1364 1363 99 72 = true := by decide +kernel
theorem jw_M_sectionOf : jv_ok jm_M_sectionOf = true := by decide +kernel
theorem jx_M_sectionOf : jv_mk jm_M_sectionOf 1368 1367 99 73 = true := by decide +kernel
theorem jw_M_carries : jv_ok jm_M_carries = true := by decide +kernel
theorem jx_M_carries : jv_mk jm_M_carries 1372 1371 99 74 = true := by decide +kernel
theorem jw_M_isUpNoMore : jv_ok jm_M_isUpNoMore = true := by decide +kernel
theorem jx_M_isUpNoMore : jv_mk jm_M_isUpNoMore 1376 1375 99 75 = true := by decide +kernel
theorem jw_M_does : jv_ok jm_M_does = true := by decide +kernel
theorem jx_M_does : jv_mk jm_M_does 1380 1379 99 76 = true := by decide +kernel
theorem jw_M_follows : jv_ok jm_M_follows = true := by decide +kernel
theorem jx_M_follows : jv_mk jm_M_follows 1384 1383 99 77 = true := by decide +kernel
theorem jw_M_voted : jv_ok jm_M_voted = true := by decide +kernel
theorem jx_M_voted : jv_mk jm_M_voted 1388 1386 99 1387 = true := by decide +kernel
theorem jw_M_would : jv_ok jm_M_would = true := by decide +kernel
theorem jx_M_would : jv_mk jm_M_would 1392 1390 99 1391 = true := by decide +kernel
theorem jw_M_motion : jv_ok jm_M_motion = true := by decide +kernel
theorem jx_M_motion : jv_mk jm_M_motion 1396 1394 99 1395 = true := by decide +kernel
theorem jw_M_yield : jv_ok jm_M_yield = true := by decide +kernel
theorem jx_M_yield : jv_mk jm_M_yield 1401 1399 99 1400 = true := by decide +kernel
theorem jw_M_day : jv_ok jm_M_day = true := by decide +kernel
theorem jx_M_day : jv_mk jm_M_day 1405 1403 99 1404 = true := by decide +kernel
theorem jw_M_tell : jv_ok jm_M_tell = true := by decide +kernel
theorem jx_M_tell : jv_mk jm_M_tell 1409 1407 99 1408 = true := by decide +kernel
theorem jw_M_foresee : jv_ok jm_M_foresee = true := by decide +kernel
theorem jx_M_foresee : jv_mk jm_M_foresee 1413 1411 99 1412 = true := by decide +kernel
theorem jw_M_isOrder : jv_ok jm_M_isOrder = true := by decide +kernel
theorem jx_M_isOrder : jv_mk jm_M_isOrder 1417 1416 99 78 = true := by decide +kernel
theorem jw_M_foresees : jv_ok jm_M_foresees = true := by decide +kernel
theorem jx_M_foresees : jv_mk jm_M_foresees 1421 1420 99 79 = true := by decide +kernel
theorem jw_M_best : jv_ok jm_M_best = true := by decide +kernel
theorem jx_M_best : jv_mk jm_M_best 1425 1423 99 1424 = true := by decide +kernel
theorem jw_M_confer : jv_ok jm_M_confer = true := by decide +kernel
theorem jx_M_confer : jv_mk jm_M_confer 1429 1427 99 1428 = true := by decide +kernel
theorem jw_M_brings : jv_ok jm_M_brings = true := by decide +kernel
theorem jx_M_brings : jv_mk jm_M_brings 1433 1432 99 80 = true := by decide +kernel
theorem jw_M_conferred : jv_ok jm_M_conferred = true := by decide +kernel
theorem jx_M_conferred : jv_mk jm_M_conferred 1437 1435 99 1436 = true := by decide +kernel
theorem jw_M_nextOf : jv_ok jm_M_nextOf = true := by decide +kernel
theorem jx_M_nextOf : jv_mk jm_M_nextOf 1441 1440 99 81 = true := by decide +kernel
theorem jw_M_count : jv_ok jm_M_count = true := by decide +kernel
theorem jx_M_count : jv_mk jm_M_count 1445 1443 99 1444 = true := by decide +kernel
theorem jw_M_tray : jv_ok jm_M_tray = true := by decide +kernel
theorem jx_M_tray : jv_mk jm_M_tray 1449 1447 99 1448 = true := by decide +kernel
theorem jw_M_isTray : jv_ok jm_M_isTray = true := by decide +kernel
theorem jx_M_isTray : jv_mk jm_M_isTray 1452 1451 99 0 = true := by decide +kernel
theorem jw_M_cell : jv_ok jm_M_cell = true := by decide +kernel
theorem jx_M_cell : jv_mk jm_M_cell 1456 1454 99 1455 = true := by decide +kernel
theorem jw_M_made : jv_ok jm_M_made = true := by decide +kernel
theorem jx_M_made : jv_mk jm_M_made 1460 1458 99 1459 = true := by decide +kernel
theorem jw_M_taken : jv_ok jm_M_taken = true := by decide +kernel
theorem jx_M_taken : jv_mk jm_M_taken 1464 1462 99 1463 = true := by decide +kernel
