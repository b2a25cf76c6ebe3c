def wsL_eventKind : List Cond := .codeWith yL_eventKind cL_eventKind 4 (some .int) [(0, 9, 12, 13)] :: ([.classLink RL 13 "java/lang/IndexOutOfBoundsException", .methodLink RL 7 yX8_eventKind, .instanceMethod yX8_eventKind, .selects RX8 yX8_eventKind yX8_eventKind, .initialized RX8, .code yX8_eventKind cX8_eventKind 2 (some .int), .classLink RX8 276 "java/lang/IndexOutOfBoundsException", .initialized "java/lang/IndexOutOfBoundsException", .fieldLink RX8 44 "BalloonMail" "current" "LBalloonMail$State;", .fieldLink RX8 268 "BalloonMail$State" "journal" "LBalloonMail$Journal;", .fieldLink RX8 283 "BalloonMail$Journal" "kind" "[I", .methodLink RX8 275 yX1_has, .instanceMethod yX1_has, .selects RX1 yX1_has yX1_has, .initialized RX1, .code yX1_has cX1_has 2 (some .boolean), .fieldLink RX1 21 "BalloonMail$Journal" "count" "I"] ++ wsX80 ++ wsX60 ++ wsX10 ++ (vx_atS RX8 280 "java/lang/IndexOutOfBoundsException" ["java/lang/RuntimeException", "java/lang/Exception"]).filter goodWord)
def wsL_eventNumber : List Cond := .codeWith yL_eventNumber cL_eventNumber 4 (some .int) [(0, 9, 12, 13)] :: ([.classLink RL 13 "java/lang/IndexOutOfBoundsException", .methodLink RL 15 yX8_eventNumber, .instanceMethod yX8_eventNumber, .selects RX8 yX8_eventNumber yX8_eventNumber, .initialized RX8, .code yX8_eventNumber cX8_eventNumber 2 (some .int), .classLink RX8 276 "java/lang/IndexOutOfBoundsException", .initialized "java/lang/IndexOutOfBoundsException", .fieldLink RX8 44 "BalloonMail" "current" "LBalloonMail$State;", .fieldLink RX8 268 "BalloonMail$State" "journal" "LBalloonMail$Journal;", .fieldLink RX8 286 "BalloonMail$Journal" "number" "[I", .methodLink RX8 275 yX1_has, .instanceMethod yX1_has, .selects RX1 yX1_has yX1_has, .initialized RX1, .code yX1_has cX1_has 2 (some .boolean), .fieldLink RX1 21 "BalloonMail$Journal" "count" "I"] ++ wsX80 ++ wsX60 ++ wsX10 ++ (vx_atS RX8 280 "java/lang/IndexOutOfBoundsException" ["java/lang/RuntimeException", "java/lang/Exception"]).filter goodWord)
def wsL_eventDay : List Cond := .codeWith yL_eventDay cL_eventDay 4 (some .int) [(0, 9, 12, 13)] :: ([.classLink RL 13 "java/lang/IndexOutOfBoundsException", .methodLink RL 18 yX8_eventDay, .instanceMethod yX8_eventDay, .selects RX8 yX8_eventDay yX8_eventDay, .initialized RX8, .code yX8_eventDay cX8_eventDay 2 (some .int), .classLink RX8 276 "java/lang/IndexOutOfBoundsException", .initialized "java/lang/IndexOutOfBoundsException", .fieldLink RX8 44 "BalloonMail" "current" "LBalloonMail$State;", .fieldLink RX8 268 "BalloonMail$State" "journal" "LBalloonMail$Journal;", .fieldLink RX8 289 "BalloonMail$Journal" "day" "[I", .methodLink RX8 275 yX1_has, .instanceMethod yX1_has, .selects RX1 yX1_has yX1_has, .initialized RX1, .code yX1_has cX1_has 2 (some .boolean), .fieldLink RX1 21 "BalloonMail$Journal" "count" "I"] ++ wsX80 ++ wsX60 ++ wsX10 ++ (vx_atS RX8 280 "java/lang/IndexOutOfBoundsException" ["java/lang/RuntimeException", "java/lang/Exception"]).filter goodWord)
set_option maxRecDepth 20000 in
theorem gw_wsX80 : GoodIn lw_tbl wsX80 := goodIn_r (big := lw_tbl) wsX80 [431, 433, 435, 437, 439, 441, 443, 445, 447, 449, 451, 453, 455, 457, 459] (by decide +kernel) (by decide +kernel)
set_option maxRecDepth 20000 in
theorem gw_wsX8_append : GoodIn lw_tbl wsX8_append := (gcons q_465 (goodIn_app (gcons q_425 (gcons q_466 (gcons q_468 (gcons q_0 (gcons q_81 (gcons q_469 (gcons q_416 gnil))))))) gw_wsX80))
set_option maxRecDepth 20000 in
theorem gw_wsX90 : GoodIn lw_tbl wsX90 := goodIn_r (big := lw_tbl) wsX90 [1227, 1229, 1231, 1233, 1235, 1237, 1239, 1241, 1243, 1245, 1247, 1249, 1251, 1253, 1255, 1257, 1259, 1261, 1263, 1265, 1267, 1269, 1271, 1273, 1275, 1277, 1279, 1281, 1283, 1285, 1287, 1289, 1291, 1293, 1295, 1297, 1299, 1301, 1303, 1305, 1307, 1309, 1311, 1313, 1315] (by decide +kernel) (by decide +kernel)
set_option maxRecDepth 20000 in
theorem gw_wsX9_append : GoodIn lw_tbl wsX9_append := (gcons q_1321 (goodIn_app (gcons q_1182 (gcons q_1209 (gcons q_1322 (gcons q_1324 (gcons q_40 (gcons q_91 (gcons q_1325 (gcons q_1208 gnil)))))))) gw_wsX90))
set_option maxRecDepth 20000 in
theorem gw_wsX8_parse_r1 : GoodIn lw_tbl wsX8_parse_r1 := (gcons q_425 (gcons q_417 (gcons q_416 (gcons q_430 (gcons q_117 (gcons q_426 (gcons q_474 (gcons q_475 (gcons q_476 (gcons q_82 (gcons q_477 (gcons q_119 (gcons q_486 (gcons q_487 (gcons q_92 (gcons q_488 (gcons q_120 (gcons q_121 (gcons q_124 (gcons q_125 (gcons q_126 (gcons q_127 (gcons q_122 (gcons q_478 gnil))))))))))))))))))))))))
set_option maxRecDepth 20000 in
theorem gw_wsX8_parse_r2 : GoodIn lw_tbl wsX8_parse_r2 := (gcons q_479 (gcons q_480 (gcons q_88 (gcons q_481 (gcons q_330 (gcons q_357 (gcons q_361 (gcons q_366 (gcons q_371 (gcons q_374 (gcons q_377 (gcons q_482 (gcons q_483 (gcons q_484 (gcons q_89 (gcons q_485 (gcons q_299 (gcons q_304 (gcons q_489 (gcons q_491 (gcons q_1 (gcons q_492 (gcons q_118 (gcons q_123 gnil))))))))))))))))))))))))
set_option maxRecDepth 20000 in
theorem gw_wsX8_parse_r3 : GoodIn lw_tbl wsX8_parse_r3 := (gcons q_493 (gcons q_495 (gcons q_2 (gcons q_496 (gcons q_497 (gcons q_499 (gcons q_3 (gcons q_500 (gcons q_501 (gcons q_503 (gcons q_4 (gcons q_504 (gcons q_332 (gcons q_505 (gcons q_507 (gcons q_5 (gcons q_508 (gcons q_510 (gcons q_512 (gcons q_6 (gcons q_513 (gcons q_514 (gcons q_515 (gcons q_516 gnil))))))))))))))))))))))))
set_option maxRecDepth 20000 in
theorem gw_wsX8_parse_r4 : GoodIn lw_tbl wsX8_parse_r4 := (gcons q_93 (gcons q_517 (gcons q_1698 (gcons q_518 (gcons q_519 (gcons q_520 (gcons q_521 (gcons q_522 (gcons q_1699 (gcons q_524 (gcons q_525 (gcons q_526 (gcons q_527 (gcons q_528 (gcons q_529 (gcons q_530 (gcons q_531 (gcons q_532 (gcons q_533 (gcons q_94 (gcons q_534 (gcons q_535 (gcons q_536 (gcons q_537 gnil))))))))))))))))))))))))
set_option maxRecDepth 20000 in
theorem gw_wsX8_parse_r5 : GoodIn lw_tbl wsX8_parse_r5 := (gcons q_538 (gcons q_540 (gcons q_541 (gcons q_95 (gcons q_542 (gcons q_543 (gcons q_544 (gcons q_96 (gcons q_545 (gcons q_546 (gcons q_547 (gcons q_548 (gcons q_549 (gcons q_550 (gcons q_551 (gcons q_552 (gcons q_553 (gcons q_554 (gcons q_555 (gcons q_556 (gcons q_558 (gcons q_560 (gcons q_562 (gcons q_564 gnil))))))))))))))))))))))))
set_option maxRecDepth 20000 in
theorem gw_wsX8_parse_r6 : GoodIn lw_tbl wsX8_parse_r6 := (gcons q_7 (gcons q_565 (gcons q_358 (gcons q_566 (gcons q_568 (gcons q_8 (gcons q_569 (gcons q_570 (gcons q_572 (gcons q_9 (gcons q_573 (gcons q_574 (gcons q_575 (gcons q_576 (gcons q_577 (gcons q_336 (gcons q_339 (gcons q_341 (gcons q_579 (gcons q_581 (gcons q_10 (gcons q_582 (gcons q_302 (gcons q_583 gnil))))))))))))))))))))))))
set_option maxRecDepth 20000 in
theorem gw_wsX8_parse_r7 : GoodIn lw_tbl wsX8_parse_r7 := (gcons q_584 (gcons q_585 (gcons q_586 (gcons q_308 (gcons q_309 (gcons q_310 (gcons q_587 (gcons q_589 (gcons q_11 (gcons q_590 (gcons q_591 (gcons q_592 (gcons q_593 (gcons q_594 (gcons q_595 (gcons q_596 (gcons q_597 (gcons q_598 (gcons q_311 (gcons q_599 (gcons q_600 (gcons q_601 (gcons q_602 (gcons q_604 gnil))))))))))))))))))))))))
set_option maxRecDepth 20000 in
theorem gw_wsX8_parse_r8 : GoodIn lw_tbl wsX8_parse_r8 := (gcons q_606 (gcons q_12 (gcons q_607 (gcons q_305 (gcons q_608 (gcons q_609 (gcons q_610 (gcons q_611 (gcons q_612 (gcons q_613 (gcons q_614 (gcons q_615 (gcons q_306 (gcons q_307 (gcons q_617 (gcons q_619 (gcons q_13 (gcons q_620 (gcons q_363 (gcons q_621 (gcons q_622 (gcons q_623 (gcons q_624 (gcons q_344 gnil))))))))))))))))))))))))
set_option maxRecDepth 20000 in
theorem gw_wsX8_parse_r9 : GoodIn lw_tbl wsX8_parse_r9 := (gcons q_347 (gcons q_626 (gcons q_628 (gcons q_14 (gcons q_629 (gcons q_369 (gcons q_630 (gcons q_631 (gcons q_632 (gcons q_633 (gcons q_351 (gcons q_354 (gcons q_635 (gcons q_637 (gcons q_15 (gcons q_638 (gcons q_373 (gcons q_640 (gcons q_642 (gcons q_16 (gcons q_643 (gcons q_376 (gcons q_645 (gcons q_647 gnil))))))))))))))))))))))))
set_option maxRecDepth 20000 in
theorem gw_wsX8_parse_r10 : GoodIn lw_tbl wsX8_parse_r10 := (gcons q_17 (gcons q_648 (gcons q_379 (gcons q_649 (gcons q_651 (gcons q_18 (gcons q_652 (gcons q_653 (gcons q_655 (gcons q_19 (gcons q_81 (gcons q_656 (gcons q_429 (gcons q_421 (gcons q_419 (gcons q_427 (gcons q_424 (gcons q_409 (gcons q_410 (gcons q_411 (gcons q_86 (gcons q_412 (gcons q_230 (gcons q_218 gnil))))))))))))))))))))))))
set_option maxRecDepth 20000 in
theorem gw_wsX8_parse_r11 : GoodIn lw_tbl wsX8_parse_r11 := (gcons q_232 (gcons q_234 (gcons q_236 (gcons q_238 (gcons q_368 (gcons q_240 (gcons q_250 (gcons q_251 (gcons q_253 (gcons q_242 (gcons q_331 (gcons q_300 (gcons q_375 (gcons q_244 (gcons q_372 (gcons q_246 (gcons q_248 (gcons q_378 (gcons q_254 (gcons q_413 (gcons q_414 (gcons q_90 (gcons q_415 (gcons q_657 gnil))))))))))))))))))))))))
set_option maxRecDepth 20000 in
theorem gw_wsX8_parse_r12 : GoodIn lw_tbl wsX8_parse_r12 := (gcons q_658 (gcons q_659 (gcons q_84 (gcons q_660 (gcons q_173 gnil)))))
set_option maxRecDepth 20000 in
theorem gw_wsX40 : GoodIn lw_tbl wsX40 := goodIn_r (big := lw_tbl) wsX40 [128, 130, 132, 134, 136, 138, 140, 142, 144, 146] (by decide +kernel) (by decide +kernel)
set_option maxRecDepth 20000 in
theorem gw_wsX50 : GoodIn lw_tbl wsX50 := goodIn_r (big := lw_tbl) wsX50 [380, 382, 384, 386, 388, 390, 392, 394, 396, 398, 400, 402, 404, 406] (by decide +kernel) (by decide +kernel)
set_option maxRecDepth 20000 in
theorem gw_wsX70 : GoodIn lw_tbl wsX70 := goodIn_r (big := lw_tbl) wsX70 [312, 314, 316, 318, 320, 322, 324, 326] (by decide +kernel) (by decide +kernel)
set_option maxRecDepth 20000 in
theorem gw_wsX60 : GoodIn lw_tbl wsX60 := goodIn_r (big := lw_tbl) wsX60 [255, 257, 259, 261, 263, 265, 267, 269, 271, 273, 275, 277, 279, 281, 283] (by decide +kernel) (by decide +kernel)
set_option maxRecDepth 20000 in
theorem gw_wsX10 : GoodIn lw_tbl wsX10 := goodIn_r (big := lw_tbl) wsX10 [221, 223, 225, 227] (by decide +kernel) (by decide +kernel)
set_option maxRecDepth 20000 in
theorem gw_wsX30 : GoodIn lw_tbl wsX30 := goodIn_r (big := lw_tbl) wsX30 [176, 178, 180, 182, 184, 186] (by decide +kernel) (by decide +kernel)
set_option maxRecDepth 20000 in
theorem gw_wsX8_parse : GoodIn lw_tbl wsX8_parse := (gcons q_473 (goodIn_app (goodIn_app (goodIn_app (goodIn_app (goodIn_app (goodIn_app (goodIn_app (goodIn_app gw_wsX8_parse_r1 (goodIn_app gw_wsX8_parse_r2 (goodIn_app gw_wsX8_parse_r3 (goodIn_app gw_wsX8_parse_r4 (goodIn_app gw_wsX8_parse_r5 (goodIn_app gw_wsX8_parse_r6 (goodIn_app gw_wsX8_parse_r7 (goodIn_app gw_wsX8_parse_r8 (goodIn_app gw_wsX8_parse_r9 (goodIn_app gw_wsX8_parse_r10 (goodIn_app gw_wsX8_parse_r11 gw_wsX8_parse_r12))))))))))) gw_wsX80) gw_wsX40) gw_wsX50) gw_wsX70) gw_wsX60) gw_wsX10) gw_wsX30))
set_option maxRecDepth 20000 in
theorem gw_wsX9_parse_r1 : GoodIn lw_tbl wsX9_parse_r1 := (gcons q_1182 (gcons q_1209 (gcons q_1210 (gcons q_1212 (gcons q_1215 (gcons q_1216 (gcons q_1184 (gcons q_1188 (gcons q_1192 (gcons q_1196 (gcons q_1199 (gcons q_1205 (gcons q_1206 (gcons q_1207 (gcons q_1213 (gcons q_1330 (gcons q_1331 (gcons q_91 (gcons q_1332 (gcons q_1333 (gcons q_1335 (gcons q_41 (gcons q_1336 (gcons q_1211 gnil))))))))))))))))))))))))
set_option maxRecDepth 20000 in
theorem gw_wsX9_parse_r2 : GoodIn lw_tbl wsX9_parse_r2 := (gcons q_1214 (gcons q_1337 (gcons q_1339 (gcons q_42 (gcons q_1340 (gcons q_1208 (gcons q_1341 (gcons q_1343 (gcons q_43 (gcons q_1344 (gcons q_1346 (gcons q_1348 (gcons q_44 (gcons q_1349 (gcons q_1350 (gcons q_515 (gcons q_516 (gcons q_93 (gcons q_517 (gcons q_1698 (gcons q_518 (gcons q_519 (gcons q_520 (gcons q_521 gnil))))))))))))))))))))))))
set_option maxRecDepth 20000 in
theorem gw_wsX9_parse_r3 : GoodIn lw_tbl wsX9_parse_r3 := (gcons q_522 (gcons q_1699 (gcons q_1351 (gcons q_525 (gcons q_526 (gcons q_527 (gcons q_528 (gcons q_529 (gcons q_530 (gcons q_531 (gcons q_532 (gcons q_533 (gcons q_94 (gcons q_534 (gcons q_535 (gcons q_536 (gcons q_537 (gcons q_538 (gcons q_540 (gcons q_541 (gcons q_95 (gcons q_542 (gcons q_543 (gcons q_544 gnil))))))))))))))))))))))))
set_option maxRecDepth 20000 in
theorem gw_wsX9_parse_r4 : GoodIn lw_tbl wsX9_parse_r4 := (gcons q_96 (gcons q_545 (gcons q_546 (gcons q_547 (gcons q_548 (gcons q_549 (gcons q_550 (gcons q_551 (gcons q_552 (gcons q_553 (gcons q_554 (gcons q_555 (gcons q_556 (gcons q_558 (gcons q_560 (gcons q_1352 (gcons q_1354 (gcons q_45 (gcons q_1355 (gcons q_1185 (gcons q_1217 (gcons q_1186 (gcons q_1187 (gcons q_1356 gnil))))))))))))))))))))))))
set_option maxRecDepth 20000 in
theorem gw_wsX9_parse_r5 : GoodIn lw_tbl wsX9_parse_r5 := (gcons q_1358 (gcons q_46 (gcons q_1359 (gcons q_1360 (gcons q_1362 (gcons q_47 (gcons q_1363 (gcons q_1364 (gcons q_1366 (gcons q_48 (gcons q_1367 (gcons q_1369 (gcons q_1371 (gcons q_49 (gcons q_1372 (gcons q_1190 (gcons q_1191 (gcons q_1189 (gcons q_1373 (gcons q_1374 (gcons q_1375 (gcons q_1377 (gcons q_1379 (gcons q_50 gnil))))))))))))))))))))))))
set_option maxRecDepth 20000 in
theorem gw_wsX9_parse_r6 : GoodIn lw_tbl wsX9_parse_r6 := (gcons q_1380 (gcons q_1193 (gcons q_1194 (gcons q_1195 (gcons q_1382 (gcons q_1384 (gcons q_51 (gcons q_1385 (gcons q_1197 (gcons q_1198 (gcons q_1387 (gcons q_1389 (gcons q_52 (gcons q_1390 (gcons q_1200 (gcons q_1201 (gcons q_1391 (gcons q_1393 (gcons q_53 (gcons q_1394 (gcons q_1396 (gcons q_1398 (gcons q_54 (gcons q_1399 gnil))))))))))))))))))))))))
set_option maxRecDepth 20000 in
theorem gw_wsX9_parse_r7 : GoodIn lw_tbl wsX9_parse_r7 := (gcons q_1402 (gcons q_1404 (gcons q_55 (gcons q_1405 (gcons q_1202 (gcons q_1203 (gcons q_1204 (gcons q_1406 (gcons q_1407 (gcons q_1408 (gcons q_1409 (gcons q_1410 (gcons q_1411 (gcons q_1178 (gcons q_1180 (gcons q_39 (gcons q_1181 (gcons q_1183 (gcons q_1223 (gcons q_1226 gnil))))))))))))))))))))
set_option maxRecDepth 20000 in
theorem gw_wsX9_parse : GoodIn lw_tbl wsX9_parse := (gcons q_1329 (goodIn_app (goodIn_app gw_wsX9_parse_r1 (goodIn_app gw_wsX9_parse_r2 (goodIn_app gw_wsX9_parse_r3 (goodIn_app gw_wsX9_parse_r4 (goodIn_app gw_wsX9_parse_r5 (goodIn_app gw_wsX9_parse_r6 gw_wsX9_parse_r7)))))) gw_wsX90))
set_option maxRecDepth 20000 in
theorem gw_wsX8_errorPosition : GoodIn lw_tbl wsX8_errorPosition := (gcons q_664 (goodIn_app (gcons q_426 gnil) gw_wsX80))
set_option maxRecDepth 20000 in
theorem gw_wsX9_errorPosition : GoodIn lw_tbl wsX9_errorPosition := (gcons q_1415 (goodIn_app (gcons q_1182 (gcons q_1216 gnil)) gw_wsX90))
set_option maxRecDepth 20000 in
theorem gw_wsX8_regionCount : GoodIn lw_tbl wsX8_regionCount := (gcons q_668 (goodIn_app (goodIn_app (gcons q_429 (gcons q_359 gnil)) gw_wsX80) gw_wsX50))
set_option maxRecDepth 20000 in
theorem gw_wsX9_regionCount : GoodIn lw_tbl wsX9_regionCount := (gcons q_1419 (goodIn_app (gcons q_1182 (gcons q_1184 gnil)) gw_wsX90))
set_option maxRecDepth 20000 in
theorem gw_wsX8_windCount : GoodIn lw_tbl wsX8_windCount := (gcons q_672 (goodIn_app (goodIn_app (goodIn_app (gcons q_429 (gcons q_334 (gcons q_303 gnil))) gw_wsX80) gw_wsX50) gw_wsX70))
set_option maxRecDepth 20000 in
theorem gw_wsX9_windCount : GoodIn lw_tbl wsX9_windCount := (gcons q_1423 (goodIn_app (gcons q_1182 (gcons q_1188 gnil)) gw_wsX90))
set_option maxRecDepth 20000 in
theorem gw_wsX8_balloonCount : GoodIn lw_tbl wsX8_balloonCount := (gcons q_676 (goodIn_app (goodIn_app (gcons q_429 (gcons q_364 gnil)) gw_wsX80) gw_wsX50))
set_option maxRecDepth 20000 in
theorem gw_wsX9_balloonCount : GoodIn lw_tbl wsX9_balloonCount := (gcons q_1427 (goodIn_app (gcons q_1182 (gcons q_1196 gnil)) gw_wsX90))
set_option maxRecDepth 20000 in
theorem gw_wsX8_letterCount : GoodIn lw_tbl wsX8_letterCount := (gcons q_680 (goodIn_app (goodIn_app (gcons q_429 (gcons q_370 gnil)) gw_wsX80) gw_wsX50))
set_option maxRecDepth 20000 in
theorem gw_wsX9_letterCount : GoodIn lw_tbl wsX9_letterCount := (gcons q_1431 (goodIn_app (gcons q_1182 (gcons q_1199 gnil)) gw_wsX90))
set_option maxRecDepth 20000 in
theorem gw_wsX8_capacity : GoodIn lw_tbl wsX8_capacity := (gcons q_684 (goodIn_app (goodIn_app (gcons q_429 (gcons q_346 (gcons q_685 (gcons q_686 (gcons q_687 (gcons q_88 (gcons q_688 (gcons q_361 gnil)))))))) gw_wsX80) gw_wsX50))
set_option maxRecDepth 20000 in
theorem gw_wsX9_capacity : GoodIn lw_tbl wsX9_capacity := (gcons q_1435 (goodIn_app (gcons q_1182 (gcons q_1197 (gcons q_1436 (gcons q_1438 (gcons q_56 (gcons q_91 (gcons q_1439 (gcons q_1196 (gcons q_1330 (gcons q_1331 (gcons q_1332 gnil))))))))))) gw_wsX90))
set_option maxRecDepth 20000 in
theorem gw_wsX8_letterWeight : GoodIn lw_tbl wsX8_letterWeight := (gcons q_692 (goodIn_app (goodIn_app (gcons q_429 (gcons q_353 (gcons q_693 (gcons q_694 (gcons q_695 (gcons q_88 (gcons q_696 (gcons q_366 gnil)))))))) gw_wsX80) gw_wsX50))
set_option maxRecDepth 20000 in
theorem gw_wsX9_letterWeight : GoodIn lw_tbl wsX9_letterWeight := (gcons q_1443 (goodIn_app (gcons q_1182 (gcons q_1200 (gcons q_1444 (gcons q_1446 (gcons q_57 (gcons q_91 (gcons q_1447 (gcons q_1199 (gcons q_1330 (gcons q_1331 (gcons q_1332 gnil))))))))))) gw_wsX90))
set_option maxRecDepth 20000 in
theorem gw_wsX8_windChance_r1 : GoodIn lw_tbl wsX8_windChance_r1 := (gcons q_429 (gcons q_334 (gcons q_705 (gcons q_418 (gcons q_421 (gcons q_245 (gcons q_701 (gcons q_600 (gcons q_601 (gcons q_89 (gcons q_602 (gcons q_299 (gcons q_702 (gcons q_703 (gcons q_81 (gcons q_704 (gcons q_706 (gcons q_707 (gcons q_708 (gcons q_83 (gcons q_709 (gcons q_710 (gcons q_711 (gcons q_712 gnil))))))))))))))))))))))))
set_option maxRecDepth 20000 in
theorem gw_wsX8_windChance_r2 : GoodIn lw_tbl wsX8_windChance_r2 := (gcons q_713 (gcons q_156 (gcons q_714 (gcons q_716 (gcons q_20 (gcons q_717 (gcons q_718 (gcons q_719 (gcons q_720 (gcons q_721 (gcons q_157 (gcons q_301 (gcons q_723 (gcons q_725 (gcons q_724 (gcons q_97 (gcons q_722 (gcons q_609 (gcons q_610 (gcons q_611 (gcons q_308 (gcons q_726 (gcons q_727 (gcons q_728 gnil))))))))))))))))))))))))
set_option maxRecDepth 20000 in
theorem gw_wsX8_windChance_r3 : GoodIn lw_tbl wsX8_windChance_r3 := (gcons q_729 gnil)
set_option maxRecDepth 20000 in
theorem gw_wsX00 : GoodIn lw_tbl wsX00 := goodIn_r (big := lw_tbl) wsX00 [158, 160] (by decide +kernel) (by decide +kernel)
set_option maxRecDepth 20000 in
theorem gw_wsX8_windChance : GoodIn lw_tbl wsX8_windChance := (gcons q_700 (goodIn_app (goodIn_app (goodIn_app (goodIn_app (goodIn_app (goodIn_app gw_wsX8_windChance_r1 (goodIn_app gw_wsX8_windChance_r2 gw_wsX8_windChance_r3)) gw_wsX80) gw_wsX50) gw_wsX60) gw_wsX70) gw_wsX00))
set_option maxRecDepth 20000 in
theorem gw_wsX9_windChance_r1 : GoodIn lw_tbl wsX9_windChance_r1 := (gcons q_1182 (gcons q_1459 (gcons q_1218 (gcons q_1452 (gcons q_1454 (gcons q_58 (gcons q_91 (gcons q_1455 (gcons q_1188 (gcons q_1330 (gcons q_1331 (gcons q_1332 (gcons q_1456 (gcons q_1457 (gcons q_1458 (gcons q_1460 (gcons q_1462 (gcons q_59 (gcons q_1463 (gcons q_1183 (gcons q_1219 (gcons q_1192 (gcons q_1194 (gcons q_1193 gnil))))))))))))))))))))))))
set_option maxRecDepth 20000 in
theorem gw_wsX9_windChance_r2 : GoodIn lw_tbl wsX9_windChance_r2 := (gcons q_1195 (gcons q_1464 (gcons q_1466 (gcons q_60 (gcons q_1467 gnil)))))
set_option maxRecDepth 20000 in
theorem gw_wsX9_windChance : GoodIn lw_tbl wsX9_windChance := (gcons q_1451 (goodIn_app (goodIn_app gw_wsX9_windChance_r1 gw_wsX9_windChance_r2) gw_wsX90))
set_option maxRecDepth 20000 in
theorem gw_wsX8_avoidChance_r1 : GoodIn lw_tbl wsX8_avoidChance_r1 := (gcons q_429 (gcons q_334 (gcons q_705 (gcons q_418 (gcons q_421 (gcons q_245 (gcons q_701 (gcons q_600 (gcons q_601 (gcons q_89 (gcons q_602 (gcons q_299 (gcons q_702 (gcons q_703 (gcons q_81 (gcons q_704 (gcons q_706 (gcons q_707 (gcons q_708 (gcons q_83 (gcons q_709 (gcons q_710 (gcons q_711 (gcons q_712 gnil))))))))))))))))))))))))
set_option maxRecDepth 20000 in
theorem gw_wsX8_avoidChance_r2 : GoodIn lw_tbl wsX8_avoidChance_r2 := (gcons q_713 (gcons q_156 (gcons q_714 (gcons q_716 (gcons q_20 (gcons q_717 (gcons q_718 (gcons q_719 (gcons q_720 (gcons q_721 (gcons q_157 (gcons q_301 (gcons q_723 (gcons q_725 (gcons q_724 (gcons q_97 (gcons q_722 (gcons q_609 (gcons q_610 (gcons q_611 (gcons q_308 (gcons q_734 (gcons q_735 (gcons q_736 gnil))))))))))))))))))))))))
set_option maxRecDepth 20000 in
theorem gw_wsX8_avoidChance_r3 : GoodIn lw_tbl wsX8_avoidChance_r3 := (gcons q_737 gnil)
set_option maxRecDepth 20000 in
theorem gw_wsX8_avoidChance : GoodIn lw_tbl wsX8_avoidChance := (gcons q_733 (goodIn_app (goodIn_app (goodIn_app (goodIn_app (goodIn_app (goodIn_app gw_wsX8_avoidChance_r1 (goodIn_app gw_wsX8_avoidChance_r2 gw_wsX8_avoidChance_r3)) gw_wsX80) gw_wsX50) gw_wsX60) gw_wsX70) gw_wsX00))
set_option maxRecDepth 20000 in
theorem gw_wsX9_avoidChance_r1 : GoodIn lw_tbl wsX9_avoidChance_r1 := (gcons q_1182 (gcons q_1459 (gcons q_1218 (gcons q_1452 (gcons q_1454 (gcons q_58 (gcons q_91 (gcons q_1455 (gcons q_1188 (gcons q_1330 (gcons q_1331 (gcons q_1332 (gcons q_1456 (gcons q_1457 (gcons q_1458 (gcons q_1460 (gcons q_1462 (gcons q_59 (gcons q_1463 (gcons q_1183 (gcons q_1219 (gcons q_1192 (gcons q_1194 (gcons q_1193 gnil))))))))))))))))))))))))
set_option maxRecDepth 20000 in
theorem gw_wsX9_avoidChance_r2 : GoodIn lw_tbl wsX9_avoidChance_r2 := (gcons q_1195 (gcons q_1464 (gcons q_1466 (gcons q_60 (gcons q_1467 gnil)))))
set_option maxRecDepth 20000 in
theorem gw_wsX9_avoidChance : GoodIn lw_tbl wsX9_avoidChance := (gcons q_1471 (goodIn_app (goodIn_app gw_wsX9_avoidChance_r1 gw_wsX9_avoidChance_r2) gw_wsX90))
set_option maxRecDepth 20000 in
theorem gw_wsX8_landingChance_r1 : GoodIn lw_tbl wsX8_landingChance_r1 := (gcons q_429 (gcons q_705 (gcons q_418 (gcons q_334 (gcons q_421 (gcons q_245 (gcons q_742 (gcons q_743 (gcons q_744 (gcons q_88 (gcons q_745 (gcons q_357 (gcons q_746 (gcons q_748 (gcons q_21 (gcons q_81 (gcons q_749 (gcons q_303 (gcons q_702 (gcons q_703 (gcons q_704 (gcons q_706 (gcons q_707 (gcons q_708 gnil))))))))))))))))))))))))
set_option maxRecDepth 20000 in
theorem gw_wsX8_landingChance_r2 : GoodIn lw_tbl wsX8_landingChance_r2 := (gcons q_83 (gcons q_709 (gcons q_710 (gcons q_711 (gcons q_712 (gcons q_713 (gcons q_156 (gcons q_714 (gcons q_716 (gcons q_20 (gcons q_717 (gcons q_718 (gcons q_719 (gcons q_720 (gcons q_721 (gcons q_157 (gcons q_301 (gcons q_723 (gcons q_725 (gcons q_724 (gcons q_97 (gcons q_722 (gcons q_609 (gcons q_610 gnil))))))))))))))))))))))))
set_option maxRecDepth 20000 in
theorem gw_wsX8_landingChance_r3 : GoodIn lw_tbl wsX8_landingChance_r3 := (gcons q_89 (gcons q_611 (gcons q_299 (gcons q_308 (gcons q_750 (gcons q_751 (gcons q_752 (gcons q_753 (gcons q_754 (gcons q_592 (gcons q_593 (gcons q_594 (gcons q_309 gnil)))))))))))))
set_option maxRecDepth 20000 in
theorem gw_wsX8_landingChance : GoodIn lw_tbl wsX8_landingChance := (gcons q_741 (goodIn_app (goodIn_app (goodIn_app (goodIn_app (goodIn_app (goodIn_app gw_wsX8_landingChance_r1 (goodIn_app gw_wsX8_landingChance_r2 gw_wsX8_landingChance_r3)) gw_wsX80) gw_wsX50) gw_wsX60) gw_wsX70) gw_wsX00))
set_option maxRecDepth 20000 in
theorem gw_wsX9_landingChance_r1 : GoodIn lw_tbl wsX9_landingChance_r1 := (gcons q_1182 (gcons q_1184 (gcons q_1188 (gcons q_1459 (gcons q_1218 (gcons q_1330 (gcons q_1331 (gcons q_91 (gcons q_1332 (gcons q_1456 (gcons q_1457 (gcons q_1458 (gcons q_1460 (gcons q_1462 (gcons q_59 (gcons q_1463 (gcons q_1183 (gcons q_1219 (gcons q_1192 (gcons q_1194 (gcons q_1193 (gcons q_1195 (gcons q_1464 (gcons q_1466 gnil))))))))))))))))))))))))
set_option maxRecDepth 20000 in
theorem gw_wsX9_landingChance_r2 : GoodIn lw_tbl wsX9_landingChance_r2 := (gcons q_60 (gcons q_1467 (gcons q_1476 (gcons q_1478 (gcons q_61 (gcons q_1479 (gcons q_1189 (gcons q_1191 (gcons q_1190 gnil)))))))))
set_option maxRecDepth 20000 in
theorem gw_wsX9_landingChance : GoodIn lw_tbl wsX9_landingChance := (gcons q_1475 (goodIn_app (goodIn_app gw_wsX9_landingChance_r1 gw_wsX9_landingChance_r2) gw_wsX90))
set_option maxRecDepth 20000 in
theorem gw_wsX8_deliveryChance_r1 : GoodIn lw_tbl wsX8_deliveryChance_r1 := (gcons q_705 (gcons q_418 (gcons q_429 (gcons q_334 (gcons q_421 (gcons q_245 (gcons q_746 (gcons q_748 (gcons q_21 (gcons q_81 (gcons q_749 (gcons q_303 (gcons q_702 (gcons q_703 (gcons q_704 (gcons q_706 (gcons q_707 (gcons q_708 (gcons q_83 (gcons q_709 (gcons q_710 (gcons q_711 (gcons q_712 (gcons q_713 gnil))))))))))))))))))))))))
set_option maxRecDepth 20000 in
theorem gw_wsX8_deliveryChance_r2 : GoodIn lw_tbl wsX8_deliveryChance_r2 := (gcons q_156 (gcons q_714 (gcons q_716 (gcons q_20 (gcons q_717 (gcons q_718 (gcons q_719 (gcons q_720 (gcons q_721 (gcons q_157 (gcons q_301 (gcons q_723 (gcons q_725 (gcons q_724 (gcons q_97 (gcons q_722 (gcons q_609 (gcons q_610 (gcons q_89 (gcons q_611 (gcons q_299 (gcons q_308 (gcons q_759 (gcons q_760 gnil))))))))))))))))))))))))
set_option maxRecDepth 20000 in
theorem gw_wsX8_deliveryChance_r3 : GoodIn lw_tbl wsX8_deliveryChance_r3 := (gcons q_761 (gcons q_762 (gcons q_360 (gcons q_763 (gcons q_765 (gcons q_22 (gcons q_766 (gcons q_335 (gcons q_338 (gcons q_767 (gcons q_743 (gcons q_744 (gcons q_88 (gcons q_745 (gcons q_357 (gcons q_768 (gcons q_751 (gcons q_752 (gcons q_753 (gcons q_754 (gcons q_592 (gcons q_593 (gcons q_594 (gcons q_309 gnil))))))))))))))))))))))))
set_option maxRecDepth 20000 in
theorem gw_wsX8_deliveryChance : GoodIn lw_tbl wsX8_deliveryChance := (gcons q_758 (goodIn_app (goodIn_app (goodIn_app (goodIn_app (goodIn_app (goodIn_app gw_wsX8_deliveryChance_r1 (goodIn_app gw_wsX8_deliveryChance_r2 gw_wsX8_deliveryChance_r3)) gw_wsX80) gw_wsX50) gw_wsX60) gw_wsX70) gw_wsX00))
set_option maxRecDepth 20000 in
theorem gw_wsX9_deliveryChance_r1 : GoodIn lw_tbl wsX9_deliveryChance_r1 := (gcons q_1182 (gcons q_1188 (gcons q_1459 (gcons q_1456 (gcons q_1457 (gcons q_91 (gcons q_1458 (gcons q_1330 (gcons q_1331 (gcons q_1332 (gcons q_1484 (gcons q_1486 (gcons q_62 (gcons q_1487 (gcons q_1184 (gcons q_1187 (gcons q_1218 (gcons q_1185 (gcons q_1460 (gcons q_1462 (gcons q_59 (gcons q_1463 (gcons q_1183 (gcons q_1219 gnil))))))))))))))))))))))))
set_option maxRecDepth 20000 in
theorem gw_wsX9_deliveryChance_r2 : GoodIn lw_tbl wsX9_deliveryChance_r2 := (gcons q_1192 (gcons q_1194 (gcons q_1193 (gcons q_1195 (gcons q_1464 (gcons q_1466 (gcons q_60 (gcons q_1467 (gcons q_1488 (gcons q_1489 (gcons q_1490 (gcons q_1476 (gcons q_1478 (gcons q_61 (gcons q_1479 (gcons q_1189 (gcons q_1191 (gcons q_1190 gnil))))))))))))))))))
set_option maxRecDepth 20000 in
theorem gw_wsX9_deliveryChance : GoodIn lw_tbl wsX9_deliveryChance := (gcons q_1483 (goodIn_app (goodIn_app gw_wsX9_deliveryChance_r1 gw_wsX9_deliveryChance_r2) gw_wsX90))
set_option maxRecDepth 20000 in
theorem gw_wsX8_answerChance_r1 : GoodIn lw_tbl wsX8_answerChance_r1 := (gcons q_705 (gcons q_418 (gcons q_429 (gcons q_334 (gcons q_421 (gcons q_245 (gcons q_773 (gcons q_774 (gcons q_81 (gcons q_775 (gcons q_746 (gcons q_748 (gcons q_21 (gcons q_749 (gcons q_303 (gcons q_702 (gcons q_703 (gcons q_704 (gcons q_706 (gcons q_707 (gcons q_708 (gcons q_83 (gcons q_709 (gcons q_710 gnil))))))))))))))))))))))))
set_option maxRecDepth 20000 in
theorem gw_wsX8_answerChance_r2 : GoodIn lw_tbl wsX8_answerChance_r2 := (gcons q_711 (gcons q_712 (gcons q_713 (gcons q_156 (gcons q_714 (gcons q_716 (gcons q_20 (gcons q_717 (gcons q_718 (gcons q_719 (gcons q_720 (gcons q_721 (gcons q_157 (gcons q_301 (gcons q_723 (gcons q_725 (gcons q_724 (gcons q_97 (gcons q_722 (gcons q_609 (gcons q_610 (gcons q_89 (gcons q_611 (gcons q_299 gnil))))))))))))))))))))))))
set_option maxRecDepth 20000 in
theorem gw_wsX8_answerChance_r3 : GoodIn lw_tbl wsX8_answerChance_r3 := (gcons q_308 (gcons q_776 (gcons q_777 (gcons q_778 (gcons q_779 (gcons q_360 (gcons q_343 (gcons q_781 (gcons q_782 (gcons q_763 (gcons q_765 (gcons q_22 (gcons q_766 (gcons q_335 (gcons q_338 (gcons q_767 (gcons q_743 (gcons q_744 (gcons q_88 (gcons q_745 (gcons q_357 (gcons q_768 (gcons q_751 (gcons q_752 gnil))))))))))))))))))))))))
set_option maxRecDepth 20000 in
theorem gw_wsX8_answerChance_r4 : GoodIn lw_tbl wsX8_answerChance_r4 := (gcons q_753 (gcons q_754 (gcons q_592 (gcons q_593 (gcons q_594 (gcons q_309 gnil))))))
set_option maxRecDepth 20000 in
theorem gw_wsX8_answerChance : GoodIn lw_tbl wsX8_answerChance := (gcons q_772 (goodIn_app (goodIn_app (goodIn_app (goodIn_app (goodIn_app (goodIn_app gw_wsX8_answerChance_r1 (goodIn_app gw_wsX8_answerChance_r2 (goodIn_app gw_wsX8_answerChance_r3 gw_wsX8_answerChance_r4))) gw_wsX80) gw_wsX50) gw_wsX60) gw_wsX70) gw_wsX00))
set_option maxRecDepth 20000 in
theorem gw_wsX9_answerChance_r1 : GoodIn lw_tbl wsX9_answerChance_r1 := (gcons q_1182 (gcons q_1459 (gcons q_1495 (gcons q_1497 (gcons q_63 (gcons q_91 (gcons q_1498 (gcons q_1188 (gcons q_1330 (gcons q_1331 (gcons q_1332 (gcons q_1456 (gcons q_1457 (gcons q_1458 (gcons q_1484 (gcons q_1486 (gcons q_62 (gcons q_1487 (gcons q_1184 (gcons q_1187 (gcons q_1218 (gcons q_1185 (gcons q_1460 (gcons q_1462 gnil))))))))))))))))))))))))
set_option maxRecDepth 20000 in
theorem gw_wsX9_answerChance_r2 : GoodIn lw_tbl wsX9_answerChance_r2 := (gcons q_59 (gcons q_1463 (gcons q_1183 (gcons q_1219 (gcons q_1192 (gcons q_1194 (gcons q_1193 (gcons q_1195 (gcons q_1464 (gcons q_1466 (gcons q_60 (gcons q_1467 (gcons q_1488 (gcons q_1489 (gcons q_1490 (gcons q_1476 (gcons q_1478 (gcons q_61 (gcons q_1479 (gcons q_1189 (gcons q_1191 (gcons q_1190 gnil))))))))))))))))))))))
set_option maxRecDepth 20000 in
theorem gw_wsX9_answerChance : GoodIn lw_tbl wsX9_answerChance := (gcons q_1494 (goodIn_app (goodIn_app gw_wsX9_answerChance_r1 gw_wsX9_answerChance_r2) gw_wsX90))
set_option maxRecDepth 20000 in
theorem gw_wsX8_answerPermille_r1 : GoodIn lw_tbl wsX8_answerPermille_r1 := (gcons q_418 (gcons q_429 (gcons q_334 (gcons q_421 (gcons q_245 (gcons q_787 (gcons q_788 (gcons q_773 (gcons q_774 (gcons q_81 (gcons q_775 (gcons q_746 (gcons q_748 (gcons q_21 (gcons q_749 (gcons q_303 (gcons q_702 (gcons q_703 (gcons q_704 (gcons q_706 (gcons q_707 (gcons q_708 (gcons q_83 (gcons q_709 gnil))))))))))))))))))))))))
set_option maxRecDepth 20000 in
theorem gw_wsX8_answerPermille_r2 : GoodIn lw_tbl wsX8_answerPermille_r2 := (gcons q_710 (gcons q_711 (gcons q_712 (gcons q_713 (gcons q_156 (gcons q_714 (gcons q_716 (gcons q_20 (gcons q_717 (gcons q_718 (gcons q_719 (gcons q_720 (gcons q_721 (gcons q_157 (gcons q_301 (gcons q_723 (gcons q_725 (gcons q_724 (gcons q_97 (gcons q_722 (gcons q_609 (gcons q_610 (gcons q_89 (gcons q_611 gnil))))))))))))))))))))))))
set_option maxRecDepth 20000 in
theorem gw_wsX8_answerPermille_r3 : GoodIn lw_tbl wsX8_answerPermille_r3 := (gcons q_299 (gcons q_308 (gcons q_776 (gcons q_777 (gcons q_778 (gcons q_779 (gcons q_360 (gcons q_343 (gcons q_781 (gcons q_782 (gcons q_763 (gcons q_765 (gcons q_22 (gcons q_766 (gcons q_335 (gcons q_338 (gcons q_767 (gcons q_743 (gcons q_744 (gcons q_88 (gcons q_745 (gcons q_357 (gcons q_768 (gcons q_751 gnil))))))))))))))))))))))))
set_option maxRecDepth 20000 in
theorem gw_wsX8_answerPermille_r4 : GoodIn lw_tbl wsX8_answerPermille_r4 := (gcons q_752 (gcons q_753 (gcons q_754 (gcons q_592 (gcons q_593 (gcons q_594 (gcons q_309 gnil)))))))
set_option maxRecDepth 20000 in
theorem gw_wsX8_answerPermille : GoodIn lw_tbl wsX8_answerPermille := (gcons q_786 (goodIn_app (goodIn_app (goodIn_app (goodIn_app (goodIn_app (goodIn_app gw_wsX8_answerPermille_r1 (goodIn_app gw_wsX8_answerPermille_r2 (goodIn_app gw_wsX8_answerPermille_r3 gw_wsX8_answerPermille_r4))) gw_wsX80) gw_wsX50) gw_wsX60) gw_wsX70) gw_wsX00))
set_option maxRecDepth 20000 in
theorem gw_wsX9_answerPermille_r1 : GoodIn lw_tbl wsX9_answerPermille_r1 := (gcons q_1182 (gcons q_1503 (gcons q_1495 (gcons q_1497 (gcons q_63 (gcons q_91 (gcons q_1498 (gcons q_1188 (gcons q_1330 (gcons q_1331 (gcons q_1332 (gcons q_1456 (gcons q_1457 (gcons q_1458 (gcons q_1484 (gcons q_1486 (gcons q_62 (gcons q_1487 (gcons q_1184 (gcons q_1187 (gcons q_1218 (gcons q_1185 (gcons q_1460 (gcons q_1462 gnil))))))))))))))))))))))))
set_option maxRecDepth 20000 in
theorem gw_wsX9_answerPermille_r2 : GoodIn lw_tbl wsX9_answerPermille_r2 := (gcons q_59 (gcons q_1463 (gcons q_1183 (gcons q_1219 (gcons q_1192 (gcons q_1194 (gcons q_1193 (gcons q_1195 (gcons q_1464 (gcons q_1466 (gcons q_60 (gcons q_1467 (gcons q_1488 (gcons q_1489 (gcons q_1490 (gcons q_1476 (gcons q_1478 (gcons q_61 (gcons q_1479 (gcons q_1189 (gcons q_1191 (gcons q_1190 gnil))))))))))))))))))))))
set_option maxRecDepth 20000 in
theorem gw_wsX9_answerPermille : GoodIn lw_tbl wsX9_answerPermille := (gcons q_1502 (goodIn_app (goodIn_app gw_wsX9_answerPermille_r1 gw_wsX9_answerPermille_r2) gw_wsX90))
set_option maxRecDepth 20000 in
theorem gw_wsX8_bestDay_r1 : GoodIn lw_tbl wsX8_bestDay_r1 := (gcons q_705 (gcons q_418 (gcons q_421 (gcons q_245 (gcons q_429 (gcons q_334 (gcons q_773 (gcons q_774 (gcons q_81 (gcons q_775 (gcons q_746 (gcons q_748 (gcons q_21 (gcons q_749 (gcons q_303 (gcons q_702 (gcons q_703 (gcons q_704 (gcons q_793 (gcons q_711 (gcons q_712 (gcons q_83 (gcons q_713 (gcons q_156 gnil))))))))))))))))))))))))
set_option maxRecDepth 20000 in
theorem gw_wsX8_bestDay_r2 : GoodIn lw_tbl wsX8_bestDay_r2 := (gcons q_776 (gcons q_777 (gcons q_778 (gcons q_779 (gcons q_360 (gcons q_343 (gcons q_781 (gcons q_782 (gcons q_763 (gcons q_765 (gcons q_22 (gcons q_766 (gcons q_335 (gcons q_338 (gcons q_767 (gcons q_743 (gcons q_744 (gcons q_88 (gcons q_745 (gcons q_357 (gcons q_768 (gcons q_751 (gcons q_752 (gcons q_753 gnil))))))))))))))))))))))))
set_option maxRecDepth 20000 in
theorem gw_wsX8_bestDay_r3 : GoodIn lw_tbl wsX8_bestDay_r3 := (gcons q_301 (gcons q_754 (gcons q_592 (gcons q_593 (gcons q_89 (gcons q_594 (gcons q_299 (gcons q_309 (gcons q_794 (gcons q_795 (gcons q_719 (gcons q_720 (gcons q_721 (gcons q_157 (gcons q_723 (gcons q_725 (gcons q_724 (gcons q_97 (gcons q_722 (gcons q_609 (gcons q_610 (gcons q_611 (gcons q_308 gnil)))))))))))))))))))))))
set_option maxRecDepth 20000 in
theorem gw_wsX8_bestDay : GoodIn lw_tbl wsX8_bestDay := (gcons q_792 (goodIn_app (goodIn_app (goodIn_app (goodIn_app (goodIn_app (goodIn_app gw_wsX8_bestDay_r1 (goodIn_app gw_wsX8_bestDay_r2 gw_wsX8_bestDay_r3)) gw_wsX80) gw_wsX60) gw_wsX50) gw_wsX70) gw_wsX00))
set_option maxRecDepth 20000 in
theorem gw_wsX9_bestDay_r1 : GoodIn lw_tbl wsX9_bestDay_r1 := (gcons q_1182 (gcons q_1459 (gcons q_1495 (gcons q_1497 (gcons q_63 (gcons q_91 (gcons q_1498 (gcons q_1188 (gcons q_1330 (gcons q_1331 (gcons q_1332 (gcons q_1456 (gcons q_1457 (gcons q_1458 (gcons q_1508 (gcons q_1510 (gcons q_64 (gcons q_1511 (gcons q_1484 (gcons q_1486 (gcons q_62 (gcons q_1487 (gcons q_1184 (gcons q_1187 gnil))))))))))))))))))))))))
set_option maxRecDepth 20000 in
theorem gw_wsX9_bestDay_r2 : GoodIn lw_tbl wsX9_bestDay_r2 := (gcons q_1218 (gcons q_1185 (gcons q_1460 (gcons q_1462 (gcons q_59 (gcons q_1463 (gcons q_1183 (gcons q_1219 (gcons q_1192 (gcons q_1194 (gcons q_1193 (gcons q_1195 (gcons q_1464 (gcons q_1466 (gcons q_60 (gcons q_1467 (gcons q_1488 (gcons q_1489 (gcons q_1490 (gcons q_1476 (gcons q_1478 (gcons q_61 (gcons q_1479 (gcons q_1189 gnil))))))))))))))))))))))))
set_option maxRecDepth 20000 in
theorem gw_wsX9_bestDay_r3 : GoodIn lw_tbl wsX9_bestDay_r3 := (gcons q_1191 (gcons q_1190 gnil))
set_option maxRecDepth 20000 in
theorem gw_wsX9_bestDay : GoodIn lw_tbl wsX9_bestDay := (gcons q_1507 (goodIn_app (goodIn_app gw_wsX9_bestDay_r1 (goodIn_app gw_wsX9_bestDay_r2 gw_wsX9_bestDay_r3)) gw_wsX90))
set_option maxRecDepth 20000 in
theorem gw_wsX8_assignmentTotal_r1 : GoodIn lw_tbl wsX8_assignmentTotal_r1 := (gcons q_429 (gcons q_334 (gcons q_303 (gcons q_705 (gcons q_419 (gcons q_421 (gcons q_245 (gcons q_418 (gcons q_800 (gcons q_801 (gcons q_802 (gcons q_86 (gcons q_803 (gcons q_365 (gcons q_232 (gcons q_804 (gcons q_805 (gcons q_806 (gcons q_84 (gcons q_807 (gcons q_173 (gcons q_174 (gcons q_175 (gcons q_362 gnil))))))))))))))))))))))))
set_option maxRecDepth 20000 in
theorem gw_wsX8_assignmentTotal_r2 : GoodIn lw_tbl wsX8_assignmentTotal_r2 := (gcons q_808 (gcons q_810 (gcons q_23 (gcons q_811 (gcons q_349 (gcons q_170 (gcons q_345 (gcons q_333 (gcons q_812 (gcons q_711 (gcons q_712 (gcons q_83 (gcons q_713 (gcons q_156 (gcons q_781 (gcons q_81 (gcons q_782 (gcons q_814 (gcons q_777 (gcons q_778 (gcons q_779 (gcons q_360 (gcons q_343 (gcons q_763 gnil))))))))))))))))))))))))
set_option maxRecDepth 20000 in
theorem gw_wsX8_assignmentTotal_r3 : GoodIn lw_tbl wsX8_assignmentTotal_r3 := (gcons q_765 (gcons q_22 (gcons q_766 (gcons q_335 (gcons q_338 (gcons q_767 (gcons q_743 (gcons q_744 (gcons q_88 (gcons q_745 (gcons q_357 (gcons q_768 (gcons q_751 (gcons q_752 (gcons q_753 (gcons q_301 (gcons q_754 (gcons q_592 (gcons q_593 (gcons q_89 (gcons q_594 (gcons q_299 (gcons q_309 (gcons q_815 gnil))))))))))))))))))))))))
set_option maxRecDepth 20000 in
theorem gw_wsX8_assignmentTotal_r4 : GoodIn lw_tbl wsX8_assignmentTotal_r4 := (gcons q_719 (gcons q_720 (gcons q_721 (gcons q_157 (gcons q_723 (gcons q_725 (gcons q_724 (gcons q_97 (gcons q_722 (gcons q_609 (gcons q_610 (gcons q_611 (gcons q_308 (gcons q_816 (gcons q_818 (gcons q_24 (gcons q_819 (gcons q_171 (gcons q_820 (gcons q_821 (gcons q_98 (gcons q_822 (gcons q_823 (gcons q_824 gnil))))))))))))))))))))))))
set_option maxRecDepth 20000 in
theorem gw_wsX8_assignmentTotal_r5 : GoodIn lw_tbl wsX8_assignmentTotal_r5 := (gcons q_825 (gcons q_826 (gcons q_827 (gcons q_828 (gcons q_829 (gcons q_831 (gcons q_25 (gcons q_832 (gcons q_837 (gcons q_838 (gcons q_92 (gcons q_839 (gcons q_833 (gcons q_835 (gcons q_26 (gcons q_836 (gcons q_840 (gcons q_842 (gcons q_27 (gcons q_843 (gcons q_172 (gcons q_844 (gcons q_846 (gcons q_28 gnil))))))))))))))))))))))))
set_option maxRecDepth 20000 in
theorem gw_wsX8_assignmentTotal_r6 : GoodIn lw_tbl wsX8_assignmentTotal_r6 := (gcons q_847 (gcons q_848 (gcons q_849 (gcons q_850 (gcons q_851 gnil)))))
set_option maxRecDepth 20000 in
theorem gw_wsX8_assignmentTotal : GoodIn lw_tbl wsX8_assignmentTotal := (gcons q_799 (goodIn_app (goodIn_app (goodIn_app (goodIn_app (goodIn_app (goodIn_app (goodIn_app gw_wsX8_assignmentTotal_r1 (goodIn_app gw_wsX8_assignmentTotal_r2 (goodIn_app gw_wsX8_assignmentTotal_r3 (goodIn_app gw_wsX8_assignmentTotal_r4 (goodIn_app gw_wsX8_assignmentTotal_r5 gw_wsX8_assignmentTotal_r6))))) gw_wsX80) gw_wsX50) gw_wsX70) gw_wsX60) gw_wsX30) gw_wsX00))
set_option maxRecDepth 20000 in
theorem gw_wsX9_assignmentTotal_r1 : GoodIn lw_tbl wsX9_assignmentTotal_r1 := (gcons q_1182 (gcons q_1188 (gcons q_1459 (gcons q_1220 (gcons q_1516 (gcons q_1518 (gcons q_65 (gcons q_91 (gcons q_1519 (gcons q_1196 (gcons q_1221 (gcons q_1197 (gcons q_1198 (gcons q_1508 (gcons q_1510 (gcons q_64 (gcons q_1511 (gcons q_1484 (gcons q_1486 (gcons q_62 (gcons q_1487 (gcons q_1184 (gcons q_1187 (gcons q_1218 gnil))))))))))))))))))))))))
set_option maxRecDepth 20000 in
theorem gw_wsX9_assignmentTotal_r2 : GoodIn lw_tbl wsX9_assignmentTotal_r2 := (gcons q_1185 (gcons q_1460 (gcons q_1462 (gcons q_59 (gcons q_1463 (gcons q_1183 (gcons q_1219 (gcons q_1192 (gcons q_1194 (gcons q_1193 (gcons q_1195 (gcons q_1464 (gcons q_1466 (gcons q_60 (gcons q_1467 (gcons q_1488 (gcons q_1489 (gcons q_1490 (gcons q_1476 (gcons q_1478 (gcons q_61 (gcons q_1479 (gcons q_1189 (gcons q_1191 gnil))))))))))))))))))))))))
set_option maxRecDepth 20000 in
theorem gw_wsX9_assignmentTotal_r3 : GoodIn lw_tbl wsX9_assignmentTotal_r3 := (gcons q_1190 (gcons q_1520 (gcons q_1522 (gcons q_66 (gcons q_1523 (gcons q_1373 (gcons q_1374 (gcons q_1375 gnil))))))))
set_option maxRecDepth 20000 in
theorem gw_wsX9_assignmentTotal : GoodIn lw_tbl wsX9_assignmentTotal := (gcons q_1515 (goodIn_app (goodIn_app gw_wsX9_assignmentTotal_r1 (goodIn_app gw_wsX9_assignmentTotal_r2 gw_wsX9_assignmentTotal_r3)) gw_wsX90))
set_option maxRecDepth 20000 in
theorem gw_wsX8_assignedDay_r1 : GoodIn lw_tbl wsX8_assignedDay_r1 := (gcons q_429 (gcons q_334 (gcons q_303 (gcons q_419 (gcons q_421 (gcons q_245 (gcons q_418 (gcons q_685 (gcons q_686 (gcons q_687 (gcons q_88 (gcons q_688 (gcons q_361 (gcons q_800 (gcons q_801 (gcons q_802 (gcons q_86 (gcons q_803 (gcons q_365 (gcons q_232 (gcons q_804 (gcons q_805 (gcons q_806 (gcons q_84 gnil))))))))))))))))))))))))
set_option maxRecDepth 20000 in
theorem gw_wsX8_assignedDay_r2 : GoodIn lw_tbl wsX8_assignedDay_r2 := (gcons q_807 (gcons q_173 (gcons q_174 (gcons q_175 (gcons q_362 (gcons q_808 (gcons q_810 (gcons q_23 (gcons q_811 (gcons q_349 (gcons q_170 (gcons q_345 (gcons q_333 (gcons q_812 (gcons q_711 (gcons q_712 (gcons q_83 (gcons q_713 (gcons q_156 (gcons q_781 (gcons q_81 (gcons q_782 (gcons q_814 (gcons q_777 gnil))))))))))))))))))))))))
set_option maxRecDepth 20000 in
theorem gw_wsX8_assignedDay_r3 : GoodIn lw_tbl wsX8_assignedDay_r3 := (gcons q_778 (gcons q_779 (gcons q_360 (gcons q_343 (gcons q_763 (gcons q_765 (gcons q_22 (gcons q_766 (gcons q_335 (gcons q_338 (gcons q_767 (gcons q_743 (gcons q_744 (gcons q_745 (gcons q_357 (gcons q_768 (gcons q_751 (gcons q_752 (gcons q_753 (gcons q_301 (gcons q_754 (gcons q_592 (gcons q_593 (gcons q_89 gnil))))))))))))))))))))))))
set_option maxRecDepth 20000 in
theorem gw_wsX8_assignedDay_r4 : GoodIn lw_tbl wsX8_assignedDay_r4 := (gcons q_594 (gcons q_299 (gcons q_309 (gcons q_815 (gcons q_719 (gcons q_720 (gcons q_721 (gcons q_157 (gcons q_723 (gcons q_725 (gcons q_724 (gcons q_97 (gcons q_722 (gcons q_609 (gcons q_610 (gcons q_611 (gcons q_308 (gcons q_816 (gcons q_818 (gcons q_24 (gcons q_819 (gcons q_171 (gcons q_820 (gcons q_821 gnil))))))))))))))))))))))))
set_option maxRecDepth 20000 in
theorem gw_wsX8_assignedDay_r5 : GoodIn lw_tbl wsX8_assignedDay_r5 := (gcons q_98 (gcons q_822 (gcons q_823 (gcons q_824 (gcons q_825 (gcons q_826 (gcons q_827 (gcons q_828 (gcons q_829 (gcons q_831 (gcons q_25 (gcons q_832 (gcons q_837 (gcons q_838 (gcons q_92 (gcons q_839 (gcons q_833 (gcons q_835 (gcons q_26 (gcons q_836 (gcons q_840 (gcons q_842 (gcons q_27 (gcons q_843 gnil))))))))))))))))))))))))
set_option maxRecDepth 20000 in
theorem gw_wsX8_assignedDay_r6 : GoodIn lw_tbl wsX8_assignedDay_r6 := (gcons q_172 (gcons q_844 (gcons q_846 (gcons q_28 (gcons q_847 (gcons q_856 (gcons q_857 (gcons q_858 (gcons q_859 gnil)))))))))
set_option maxRecDepth 20000 in
theorem gw_wsX8_assignedDay : GoodIn lw_tbl wsX8_assignedDay := (gcons q_855 (goodIn_app (goodIn_app (goodIn_app (goodIn_app (goodIn_app (goodIn_app (goodIn_app gw_wsX8_assignedDay_r1 (goodIn_app gw_wsX8_assignedDay_r2 (goodIn_app gw_wsX8_assignedDay_r3 (goodIn_app gw_wsX8_assignedDay_r4 (goodIn_app gw_wsX8_assignedDay_r5 gw_wsX8_assignedDay_r6))))) gw_wsX80) gw_wsX50) gw_wsX70) gw_wsX60) gw_wsX30) gw_wsX00))
set_option maxRecDepth 20000 in
theorem gw_wsX9_assignedDay_r1 : GoodIn lw_tbl wsX9_assignedDay_r1 := (gcons q_1182 (gcons q_1188 (gcons q_1436 (gcons q_1438 (gcons q_56 (gcons q_91 (gcons q_1439 (gcons q_1196 (gcons q_1330 (gcons q_1331 (gcons q_1332 (gcons q_1516 (gcons q_1518 (gcons q_65 (gcons q_1519 (gcons q_1221 (gcons q_1197 (gcons q_1198 (gcons q_1220 (gcons q_1508 (gcons q_1510 (gcons q_64 (gcons q_1511 (gcons q_1484 gnil))))))))))))))))))))))))
set_option maxRecDepth 20000 in
theorem gw_wsX9_assignedDay_r2 : GoodIn lw_tbl wsX9_assignedDay_r2 := (gcons q_1486 (gcons q_62 (gcons q_1487 (gcons q_1184 (gcons q_1187 (gcons q_1218 (gcons q_1185 (gcons q_1460 (gcons q_1462 (gcons q_59 (gcons q_1463 (gcons q_1183 (gcons q_1219 (gcons q_1192 (gcons q_1194 (gcons q_1193 (gcons q_1195 (gcons q_1464 (gcons q_1466 (gcons q_60 (gcons q_1467 (gcons q_1488 (gcons q_1489 (gcons q_1490 gnil))))))))))))))))))))))))
set_option maxRecDepth 20000 in
theorem gw_wsX9_assignedDay_r3 : GoodIn lw_tbl wsX9_assignedDay_r3 := (gcons q_1476 (gcons q_1478 (gcons q_61 (gcons q_1479 (gcons q_1189 (gcons q_1191 (gcons q_1190 (gcons q_1520 (gcons q_1522 (gcons q_66 (gcons q_1523 (gcons q_1373 (gcons q_1374 (gcons q_1375 (gcons q_1528 (gcons q_1530 (gcons q_67 (gcons q_1531 gnil))))))))))))))))))
set_option maxRecDepth 20000 in
theorem gw_wsX9_assignedDay : GoodIn lw_tbl wsX9_assignedDay := (gcons q_1527 (goodIn_app (goodIn_app gw_wsX9_assignedDay_r1 (goodIn_app gw_wsX9_assignedDay_r2 gw_wsX9_assignedDay_r3)) gw_wsX90))
set_option maxRecDepth 20000 in
theorem gw_wsX8_bestLoad_r1 : GoodIn lw_tbl wsX8_bestLoad_r1 := (gcons q_429 (gcons q_421 (gcons q_233 (gcons q_420 (gcons q_239 (gcons q_346 (gcons q_685 (gcons q_686 (gcons q_687 (gcons q_88 (gcons q_688 (gcons q_361 (gcons q_864 (gcons q_865 (gcons q_866 (gcons q_85 (gcons q_867 (gcons q_196 (gcons q_868 (gcons q_367 (gcons q_352 (gcons q_355 (gcons q_879 (gcons q_869 gnil))))))))))))))))))))))))
set_option maxRecDepth 20000 in
theorem gw_wsX8_bestLoad_r2 : GoodIn lw_tbl wsX8_bestLoad_r2 := (gcons q_870 (gcons q_90 (gcons q_871 (gcons q_872 (gcons q_874 (gcons q_29 (gcons q_875 (gcons q_876 (gcons q_877 (gcons q_92 (gcons q_878 gnil)))))))))))
set_option maxRecDepth 20000 in
theorem gw_wsX20 : GoodIn lw_tbl wsX20 := goodIn_r (big := lw_tbl) wsX20 [197] (by decide +kernel) (by decide +kernel)
set_option maxRecDepth 20000 in
theorem gw_wsX8_bestLoad : GoodIn lw_tbl wsX8_bestLoad := (gcons q_863 (goodIn_app (goodIn_app (goodIn_app (goodIn_app (goodIn_app gw_wsX8_bestLoad_r1 gw_wsX8_bestLoad_r2) gw_wsX80) gw_wsX60) gw_wsX50) gw_wsX20))
set_option maxRecDepth 20000 in
theorem gw_wsX9_bestLoad : GoodIn lw_tbl wsX9_bestLoad := (gcons q_1535 (goodIn_app (gcons q_1182 (gcons q_1183 (gcons q_1199 (gcons q_1222 (gcons q_1200 (gcons q_1201 (gcons q_1197 (gcons q_1436 (gcons q_1438 (gcons q_56 (gcons q_91 (gcons q_1439 (gcons q_1196 (gcons q_1330 (gcons q_1331 (gcons q_1332 (gcons q_1536 (gcons q_1538 (gcons q_68 (gcons q_1539 gnil)))))))))))))))))))) gw_wsX90))
set_option maxRecDepth 20000 in
theorem gw_wsX8_weightOf : GoodIn lw_tbl wsX8_weightOf := (gcons q_883 (goodIn_app (goodIn_app (gcons q_429 (gcons q_353 (gcons q_884 (gcons q_885 (gcons q_886 (gcons q_88 (gcons q_887 (gcons q_366 (gcons q_888 (gcons q_889 (gcons q_890 (gcons q_891 gnil)))))))))))) gw_wsX80) gw_wsX50))
set_option maxRecDepth 20000 in
theorem gw_wsX9_weightOf : GoodIn lw_tbl wsX9_weightOf := (gcons q_1543 (goodIn_app (gcons q_1182 (gcons q_1200 (gcons q_1544 (gcons q_1546 (gcons q_69 (gcons q_91 (gcons q_1547 (gcons q_1199 (gcons q_1330 (gcons q_1331 (gcons q_1332 (gcons q_1548 (gcons q_1550 (gcons q_70 (gcons q_1551 (gcons q_1373 (gcons q_1374 (gcons q_1375 gnil)))))))))))))))))) gw_wsX90))
set_option maxRecDepth 20000 in
theorem gw_wsX8_priorityOf : GoodIn lw_tbl wsX8_priorityOf := (gcons q_895 (goodIn_app (goodIn_app (gcons q_429 (gcons q_356 (gcons q_884 (gcons q_885 (gcons q_886 (gcons q_88 (gcons q_887 (gcons q_366 (gcons q_888 (gcons q_889 (gcons q_890 (gcons q_891 gnil)))))))))))) gw_wsX80) gw_wsX50))
set_option maxRecDepth 20000 in
theorem gw_wsX9_priorityOf : GoodIn lw_tbl wsX9_priorityOf := (gcons q_1555 (goodIn_app (gcons q_1182 (gcons q_1201 (gcons q_1544 (gcons q_1546 (gcons q_69 (gcons q_91 (gcons q_1547 (gcons q_1199 (gcons q_1330 (gcons q_1331 (gcons q_1332 (gcons q_1548 (gcons q_1550 (gcons q_70 (gcons q_1551 (gcons q_1373 (gcons q_1374 (gcons q_1375 gnil)))))))))))))))))) gw_wsX90))
set_option maxRecDepth 20000 in
theorem gw_wsX8_lettersIn : GoodIn lw_tbl wsX8_lettersIn := (gcons q_899 (goodIn_app (goodIn_app (gcons q_421 (gcons q_239 (gcons q_900 (gcons q_901 (gcons q_81 (gcons q_902 gnil)))))) gw_wsX80) gw_wsX60))
set_option maxRecDepth 20000 in
theorem gw_wsX9_lettersIn : GoodIn lw_tbl wsX9_lettersIn := (gcons q_1559 (goodIn_app (gcons q_1182 (gcons q_1330 (gcons q_1331 (gcons q_91 (gcons q_1332 (gcons q_1560 (gcons q_1562 (gcons q_71 (gcons q_1563 (gcons q_1199 (gcons q_1183 gnil))))))))))) gw_wsX90))
set_option maxRecDepth 20000 in
theorem gw_wsX8_day : GoodIn lw_tbl wsX8_day := (gcons q_906 (goodIn_app (goodIn_app (gcons q_421 (gcons q_243 gnil)) gw_wsX80) gw_wsX60))
set_option maxRecDepth 20000 in
theorem gw_wsX9_day : GoodIn lw_tbl wsX9_day := (gcons q_1567 (goodIn_app (gcons q_1182 (gcons q_1183 gnil)) gw_wsX90))
set_option maxRecDepth 20000 in
theorem gw_wsX8_wind : GoodIn lw_tbl wsX8_wind := (gcons q_910 (goodIn_app (goodIn_app (gcons q_421 (gcons q_245 gnil)) gw_wsX80) gw_wsX60))
set_option maxRecDepth 20000 in
theorem gw_wsX9_wind : GoodIn lw_tbl wsX9_wind := (gcons q_1571 (goodIn_app (gcons q_1182 (gcons q_1183 gnil)) gw_wsX90))
set_option maxRecDepth 20000 in
theorem gw_wsX8_launch_r1 : GoodIn lw_tbl wsX8_launch_r1 := (gcons q_429 (gcons q_421 (gcons q_239 (gcons q_233 (gcons q_334 (gcons q_303 (gcons q_353 (gcons q_346 (gcons q_247 (gcons q_350 (gcons q_685 (gcons q_686 (gcons q_687 (gcons q_88 (gcons q_688 (gcons q_361 (gcons q_884 (gcons q_885 (gcons q_886 (gcons q_887 (gcons q_366 (gcons q_888 (gcons q_889 (gcons q_890 gnil))))))))))))))))))))))))
set_option maxRecDepth 20000 in
theorem gw_wsX8_launch_r2 : GoodIn lw_tbl wsX8_launch_r2 := (gcons q_891 (gcons q_915 (gcons q_917 (gcons q_30 (gcons q_81 (gcons q_918 (gcons q_428 (gcons q_422 (gcons q_427 (gcons q_919 (gcons q_920 (gcons q_921 (gcons q_86 (gcons q_922 (gcons q_230 (gcons q_232 (gcons q_928 (gcons q_725 (gcons q_724 (gcons q_97 (gcons q_234 (gcons q_236 (gcons q_238 (gcons q_240 gnil))))))))))))))))))))))))
set_option maxRecDepth 20000 in
theorem gw_wsX8_launch_r3 : GoodIn lw_tbl wsX8_launch_r3 := (gcons q_250 (gcons q_251 (gcons q_252 (gcons q_253 (gcons q_242 (gcons q_244 (gcons q_246 (gcons q_248 (gcons q_254 (gcons q_923 (gcons q_924 (gcons q_925 (gcons q_87 (gcons q_926 (gcons q_212 (gcons q_927 (gcons q_214 (gcons q_216 (gcons q_219 (gcons q_929 (gcons q_930 (gcons q_931 (gcons q_932 (gcons q_331 gnil))))))))))))))))))))))))
set_option maxRecDepth 20000 in
theorem gw_wsX8_launch_r4 : GoodIn lw_tbl wsX8_launch_r4 := (gcons q_348 (gcons q_933 (gcons q_934 (gcons q_936 (gcons q_31 (gcons q_937 (gcons q_938 (gcons q_939 (gcons q_940 (gcons q_941 (gcons q_942 (gcons q_943 (gcons q_944 (gcons q_945 (gcons q_89 (gcons q_946 (gcons q_310 (gcons q_311 (gcons q_599 (gcons q_600 (gcons q_601 (gcons q_602 (gcons q_299 (gcons q_947 gnil))))))))))))))))))))))))
set_option maxRecDepth 20000 in
theorem gw_wsX8_launch_r5 : GoodIn lw_tbl wsX8_launch_r5 := (gcons q_592 (gcons q_593 (gcons q_594 (gcons q_309 (gcons q_948 (gcons q_950 (gcons q_32 (gcons q_951 (gcons q_337 (gcons q_952 (gcons q_743 (gcons q_744 (gcons q_745 (gcons q_357 (gcons q_953 (gcons q_954 (gcons q_955 (gcons q_956 (gcons q_957 (gcons q_959 (gcons q_33 (gcons q_960 (gcons q_961 (gcons q_963 gnil))))))))))))))))))))))))
set_option maxRecDepth 20000 in
theorem gw_wsX8_launch_r6 : GoodIn lw_tbl wsX8_launch_r6 := (gcons q_34 (gcons q_964 (gcons q_340 (gcons q_342 gnil))))
set_option maxRecDepth 20000 in
theorem gw_wsX8_launch : GoodIn lw_tbl wsX8_launch := (gcons q_914 (goodIn_app (goodIn_app (goodIn_app (goodIn_app (goodIn_app (goodIn_app gw_wsX8_launch_r1 (goodIn_app gw_wsX8_launch_r2 (goodIn_app gw_wsX8_launch_r3 (goodIn_app gw_wsX8_launch_r4 (goodIn_app gw_wsX8_launch_r5 gw_wsX8_launch_r6))))) gw_wsX80) gw_wsX60) gw_wsX50) gw_wsX70) gw_wsX10))
set_option maxRecDepth 20000 in
theorem gw_wsX9_launch_r1 : GoodIn lw_tbl wsX9_launch_r1 := (gcons q_1182 (gcons q_1183 (gcons q_1188 (gcons q_1200 (gcons q_1197 (gcons q_1198 (gcons q_1185 (gcons q_1187 (gcons q_1186 (gcons q_1436 (gcons q_1438 (gcons q_56 (gcons q_91 (gcons q_1439 (gcons q_1196 (gcons q_1330 (gcons q_1331 (gcons q_1332 (gcons q_1544 (gcons q_1546 (gcons q_69 (gcons q_1547 (gcons q_1199 (gcons q_1560 gnil))))))))))))))))))))))))
set_option maxRecDepth 20000 in
theorem gw_wsX9_launch_r2 : GoodIn lw_tbl wsX9_launch_r2 := (gcons q_1562 (gcons q_71 (gcons q_1563 (gcons q_1548 (gcons q_1550 (gcons q_70 (gcons q_1551 (gcons q_1373 (gcons q_1374 (gcons q_1375 (gcons q_1576 (gcons q_1578 (gcons q_72 (gcons q_1579 (gcons q_1223 (gcons q_1224 (gcons q_1409 (gcons q_1410 (gcons q_1411 (gcons q_1580 (gcons q_1582 (gcons q_73 (gcons q_1583 (gcons q_1189 gnil))))))))))))))))))))))))
set_option maxRecDepth 20000 in
theorem gw_wsX9_launch_r3 : GoodIn lw_tbl wsX9_launch_r3 := (gcons q_1191 (gcons q_1190 (gcons q_1584 (gcons q_1586 (gcons q_74 (gcons q_1587 (gcons q_1588 (gcons q_1589 (gcons q_1590 (gcons q_1591 (gcons q_1592 (gcons q_1593 (gcons q_1595 (gcons q_75 (gcons q_1596 (gcons q_1597 (gcons q_1599 (gcons q_76 (gcons q_1600 gnil)))))))))))))))))))
set_option maxRecDepth 20000 in
theorem gw_wsX9_launch : GoodIn lw_tbl wsX9_launch := (gcons q_1575 (goodIn_app (goodIn_app gw_wsX9_launch_r1 (goodIn_app gw_wsX9_launch_r2 gw_wsX9_launch_r3)) gw_wsX90))
set_option maxRecDepth 20000 in
theorem gw_wsX8_nextDay_r1 : GoodIn lw_tbl wsX8_nextDay_r1 := (gcons q_421 (gcons q_429 (gcons q_245 (gcons q_915 (gcons q_917 (gcons q_30 (gcons q_81 (gcons q_918 (gcons q_428 (gcons q_422 (gcons q_427 (gcons q_919 (gcons q_920 (gcons q_921 (gcons q_86 (gcons q_922 (gcons q_230 (gcons q_232 (gcons q_928 (gcons q_725 (gcons q_724 (gcons q_97 (gcons q_234 (gcons q_236 gnil))))))))))))))))))))))))
set_option maxRecDepth 20000 in
theorem gw_wsX8_nextDay_r2 : GoodIn lw_tbl wsX8_nextDay_r2 := (gcons q_238 (gcons q_240 (gcons q_250 (gcons q_251 (gcons q_252 (gcons q_253 (gcons q_242 (gcons q_244 (gcons q_246 (gcons q_248 (gcons q_254 (gcons q_923 (gcons q_924 (gcons q_925 (gcons q_87 (gcons q_926 (gcons q_212 (gcons q_927 (gcons q_214 (gcons q_216 (gcons q_219 (gcons q_969 (gcons q_970 (gcons q_971 gnil))))))))))))))))))))))))
set_option maxRecDepth 20000 in
theorem gw_wsX8_nextDay_r3 : GoodIn lw_tbl wsX8_nextDay_r3 := (gcons q_972 (gcons q_331 (gcons q_300 (gcons q_934 (gcons q_936 (gcons q_31 (gcons q_937 (gcons q_938 (gcons q_939 (gcons q_940 (gcons q_941 (gcons q_942 (gcons q_973 (gcons q_974 (gcons q_975 (gcons q_89 (gcons q_976 (gcons q_304 (gcons q_306 (gcons q_307 (gcons q_977 (gcons q_609 (gcons q_610 (gcons q_611 gnil))))))))))))))))))))))))
set_option maxRecDepth 20000 in
theorem gw_wsX8_nextDay_r4 : GoodIn lw_tbl wsX8_nextDay_r4 := (gcons q_299 (gcons q_308 (gcons q_978 (gcons q_980 (gcons q_35 (gcons q_981 (gcons q_953 (gcons q_954 (gcons q_955 (gcons q_956 (gcons q_957 (gcons q_959 (gcons q_33 (gcons q_960 (gcons q_982 (gcons q_984 (gcons q_36 (gcons q_985 (gcons q_933 (gcons q_686 (gcons q_687 (gcons q_88 (gcons q_688 (gcons q_361 gnil))))))))))))))))))))))))
set_option maxRecDepth 20000 in
theorem gw_wsX8_nextDay_r5 : GoodIn lw_tbl wsX8_nextDay_r5 := (gcons q_986 (gcons q_988 (gcons q_37 (gcons q_989 (gcons q_368 gnil)))))
set_option maxRecDepth 20000 in
theorem gw_wsX8_nextDay : GoodIn lw_tbl wsX8_nextDay := (gcons q_968 (goodIn_app (goodIn_app (goodIn_app (goodIn_app (goodIn_app (goodIn_app gw_wsX8_nextDay_r1 (goodIn_app gw_wsX8_nextDay_r2 (goodIn_app gw_wsX8_nextDay_r3 (goodIn_app gw_wsX8_nextDay_r4 gw_wsX8_nextDay_r5)))) gw_wsX80) gw_wsX60) gw_wsX10) gw_wsX50) gw_wsX70))
set_option maxRecDepth 20000 in
theorem gw_wsX9_nextDay_r1 : GoodIn lw_tbl wsX9_nextDay_r1 := (gcons q_1182 (gcons q_1183 (gcons q_1188 (gcons q_1192 (gcons q_1193 (gcons q_1195 (gcons q_1194 (gcons q_1576 (gcons q_1578 (gcons q_72 (gcons q_91 (gcons q_1579 (gcons q_1223 (gcons q_1224 (gcons q_1409 (gcons q_1410 (gcons q_1411 (gcons q_1584 (gcons q_1586 (gcons q_74 (gcons q_1587 (gcons q_1588 (gcons q_1589 (gcons q_1590 gnil))))))))))))))))))))))))
set_option maxRecDepth 20000 in
theorem gw_wsX9_nextDay_r2 : GoodIn lw_tbl wsX9_nextDay_r2 := (gcons q_1591 (gcons q_1592 (gcons q_1597 (gcons q_1599 (gcons q_76 (gcons q_1600 (gcons q_1605 (gcons q_1607 (gcons q_77 (gcons q_1608 (gcons q_1609 (gcons q_1611 (gcons q_78 (gcons q_1612 (gcons q_1199 (gcons q_1373 (gcons q_1374 (gcons q_1375 gnil))))))))))))))))))
set_option maxRecDepth 20000 in
theorem gw_wsX9_nextDay : GoodIn lw_tbl wsX9_nextDay := (gcons q_1604 (goodIn_app (goodIn_app gw_wsX9_nextDay_r1 gw_wsX9_nextDay_r2) gw_wsX90))
set_option maxRecDepth 20000 in
theorem gw_wsX8_balloonState : GoodIn lw_tbl wsX8_balloonState := (gcons q_993 (goodIn_app (goodIn_app (goodIn_app (gcons q_429 (gcons q_421 (gcons q_233 (gcons q_685 (gcons q_686 (gcons q_687 (gcons q_88 (gcons q_688 (gcons q_361 gnil))))))))) gw_wsX80) gw_wsX60) gw_wsX50))
set_option maxRecDepth 20000 in
theorem gw_wsX9_balloonState : GoodIn lw_tbl wsX9_balloonState := (gcons q_1616 (goodIn_app (gcons q_1182 (gcons q_1183 (gcons q_1436 (gcons q_1438 (gcons q_56 (gcons q_91 (gcons q_1439 (gcons q_1196 (gcons q_1330 (gcons q_1331 (gcons q_1332 gnil))))))))))) gw_wsX90))
set_option maxRecDepth 20000 in
theorem gw_wsX8_balloonRegion : GoodIn lw_tbl wsX8_balloonRegion := (gcons q_997 (goodIn_app (goodIn_app (goodIn_app (gcons q_429 (gcons q_421 (gcons q_235 (gcons q_685 (gcons q_686 (gcons q_687 (gcons q_88 (gcons q_688 (gcons q_361 gnil))))))))) gw_wsX80) gw_wsX60) gw_wsX50))
set_option maxRecDepth 20000 in
theorem gw_wsX9_balloonRegion : GoodIn lw_tbl wsX9_balloonRegion := (gcons q_1620 (goodIn_app (gcons q_1182 (gcons q_1183 (gcons q_1436 (gcons q_1438 (gcons q_56 (gcons q_91 (gcons q_1439 (gcons q_1196 (gcons q_1330 (gcons q_1331 (gcons q_1332 gnil))))))))))) gw_wsX90))
set_option maxRecDepth 20000 in
theorem gw_wsX8_cargo : GoodIn lw_tbl wsX8_cargo := (gcons q_1001 (goodIn_app (goodIn_app (goodIn_app (gcons q_429 (gcons q_421 (gcons q_237 (gcons q_685 (gcons q_686 (gcons q_687 (gcons q_88 (gcons q_688 (gcons q_361 gnil))))))))) gw_wsX80) gw_wsX60) gw_wsX50))
set_option maxRecDepth 20000 in
theorem gw_wsX9_cargo : GoodIn lw_tbl wsX9_cargo := (gcons q_1624 (goodIn_app (gcons q_1182 (gcons q_1183 (gcons q_1436 (gcons q_1438 (gcons q_56 (gcons q_91 (gcons q_1439 (gcons q_1196 (gcons q_1330 (gcons q_1331 (gcons q_1332 gnil))))))))))) gw_wsX90))
set_option maxRecDepth 20000 in
theorem gw_wsX8_letterState : GoodIn lw_tbl wsX8_letterState := (gcons q_1005 (goodIn_app (goodIn_app (goodIn_app (gcons q_429 (gcons q_421 (gcons q_693 (gcons q_694 (gcons q_695 (gcons q_88 (gcons q_696 (gcons q_366 (gcons q_1006 (gcons q_1007 (gcons q_1008 (gcons q_86 (gcons q_1009 (gcons q_238 gnil)))))))))))))) gw_wsX80) gw_wsX50) gw_wsX60))
set_option maxRecDepth 20000 in
theorem gw_wsX9_letterState : GoodIn lw_tbl wsX9_letterState := (gcons q_1628 (goodIn_app (gcons q_1182 (gcons q_1183 (gcons q_1444 (gcons q_1446 (gcons q_57 (gcons q_91 (gcons q_1447 (gcons q_1199 (gcons q_1330 (gcons q_1331 (gcons q_1332 gnil))))))))))) gw_wsX90))
set_option maxRecDepth 20000 in
theorem gw_wsX8_answerDay : GoodIn lw_tbl wsX8_answerDay := (gcons q_1013 (goodIn_app (goodIn_app (goodIn_app (gcons q_429 (gcons q_421 (gcons q_241 (gcons q_693 (gcons q_694 (gcons q_695 (gcons q_88 (gcons q_696 (gcons q_366 gnil))))))))) gw_wsX80) gw_wsX60) gw_wsX50))
set_option maxRecDepth 20000 in
theorem gw_wsX9_answerDay : GoodIn lw_tbl wsX9_answerDay := (gcons q_1632 (goodIn_app (gcons q_1182 (gcons q_1183 (gcons q_1444 (gcons q_1446 (gcons q_57 (gcons q_91 (gcons q_1447 (gcons q_1199 (gcons q_1330 (gcons q_1331 (gcons q_1332 gnil))))))))))) gw_wsX90))
set_option maxRecDepth 20000 in
theorem gw_wsX8_pigeonsInLoft : GoodIn lw_tbl wsX8_pigeonsInLoft := (gcons q_1017 (goodIn_app (goodIn_app (gcons q_421 (gcons q_247 gnil)) gw_wsX80) gw_wsX60))
set_option maxRecDepth 20000 in
theorem gw_wsX9_pigeonsInLoft : GoodIn lw_tbl wsX9_pigeonsInLoft := (gcons q_1636 (goodIn_app (gcons q_1182 (gcons q_1183 gnil)) gw_wsX90))
set_option maxRecDepth 20000 in
theorem gw_wsX8_pigeonsOnTheWay : GoodIn lw_tbl wsX8_pigeonsOnTheWay := (gcons q_1021 (goodIn_app (goodIn_app (goodIn_app (gcons q_421 (gcons q_429 (gcons q_1022 (gcons q_1023 (gcons q_1024 (gcons q_86 (gcons q_1025 (gcons q_365 (gcons q_250 gnil))))))))) gw_wsX80) gw_wsX50) gw_wsX60))
set_option maxRecDepth 20000 in
theorem gw_wsX9_pigeonsOnTheWay : GoodIn lw_tbl wsX9_pigeonsOnTheWay := (gcons q_1640 (goodIn_app (gcons q_1182 (gcons q_1183 gnil)) gw_wsX90))
set_option maxRecDepth 20000 in
theorem gw_wsX8_pigeonsLost : GoodIn lw_tbl wsX8_pigeonsLost := (gcons q_1029 (goodIn_app (goodIn_app (gcons q_421 (gcons q_249 gnil)) gw_wsX80) gw_wsX60))
set_option maxRecDepth 20000 in
theorem gw_wsX9_pigeonsLost : GoodIn lw_tbl wsX9_pigeonsLost := (gcons q_1644 (goodIn_app (gcons q_1182 (gcons q_1183 gnil)) gw_wsX90))
set_option maxRecDepth 20000 in
theorem gw_wsX8_nextReturn : GoodIn lw_tbl wsX8_nextReturn := (gcons q_1033 (goodIn_app (goodIn_app (goodIn_app (gcons q_421 (gcons q_429 (gcons q_1034 (gcons q_1035 (gcons q_1036 (gcons q_86 (gcons q_1037 (gcons q_365 (gcons q_251 (gcons q_250 gnil)))))))))) gw_wsX80) gw_wsX50) gw_wsX60))
set_option maxRecDepth 20000 in
theorem gw_wsX9_nextReturn : GoodIn lw_tbl wsX9_nextReturn := (gcons q_1648 (goodIn_app (gcons q_1182 (gcons q_1183 gnil)) gw_wsX90))
set_option maxRecDepth 20000 in
theorem gw_wsX8_weightIn : GoodIn lw_tbl wsX8_weightIn := (gcons q_1041 (goodIn_app (goodIn_app (goodIn_app (gcons q_429 (gcons q_353 (gcons q_421 (gcons q_239 (gcons q_900 (gcons q_901 (gcons q_81 (gcons q_902 (gcons q_888 (gcons q_889 (gcons q_890 (gcons q_88 (gcons q_891 (gcons q_366 gnil)))))))))))))) gw_wsX80) gw_wsX50) gw_wsX60))
set_option maxRecDepth 20000 in
theorem gw_wsX9_weightIn : GoodIn lw_tbl wsX9_weightIn := (gcons q_1652 (goodIn_app (gcons q_1182 (gcons q_1200 (gcons q_1330 (gcons q_1331 (gcons q_91 (gcons q_1332 (gcons q_1560 (gcons q_1562 (gcons q_71 (gcons q_1563 (gcons q_1199 (gcons q_1183 (gcons q_1548 (gcons q_1550 (gcons q_70 (gcons q_1551 (gcons q_1373 (gcons q_1374 (gcons q_1375 gnil))))))))))))))))))) gw_wsX90))
set_option maxRecDepth 20000 in
theorem gw_wsX8_answeredPriority : GoodIn lw_tbl wsX8_answeredPriority := (gcons q_1045 (goodIn_app (goodIn_app (goodIn_app (gcons q_429 (gcons q_356 (gcons q_421 (gcons q_239 (gcons q_888 (gcons q_889 (gcons q_890 (gcons q_88 (gcons q_891 (gcons q_366 gnil)))))))))) gw_wsX80) gw_wsX50) gw_wsX60))
set_option maxRecDepth 20000 in
theorem gw_wsX9_answeredPriority : GoodIn lw_tbl wsX9_answeredPriority := (gcons q_1656 (goodIn_app (gcons q_1182 (gcons q_1201 (gcons q_1560 (gcons q_1562 (gcons q_71 (gcons q_91 (gcons q_1563 (gcons q_1199 (gcons q_1183 (gcons q_1548 (gcons q_1550 (gcons q_70 (gcons q_1551 (gcons q_1373 (gcons q_1374 (gcons q_1375 gnil)))))))))))))))) gw_wsX90))
set_option maxRecDepth 20000 in
theorem gw_wsX8_balloonsIn : GoodIn lw_tbl wsX8_balloonsIn := (gcons q_1049 (goodIn_app (goodIn_app (goodIn_app (gcons q_429 (gcons q_421 (gcons q_742 (gcons q_743 (gcons q_744 (gcons q_88 (gcons q_745 (gcons q_357 (gcons q_1050 (gcons q_1051 (gcons q_1052 (gcons q_86 (gcons q_1053 (gcons q_365 (gcons q_234 gnil))))))))))))))) gw_wsX80) gw_wsX50) gw_wsX60))
set_option maxRecDepth 20000 in
theorem gw_wsX9_balloonsIn : GoodIn lw_tbl wsX9_balloonsIn := (gcons q_1660 (goodIn_app (gcons q_1182 (gcons q_1184 (gcons q_1196 (gcons q_1183 (gcons q_1330 (gcons q_1331 (gcons q_91 (gcons q_1332 gnil)))))))) gw_wsX90))
set_option maxRecDepth 20000 in
theorem gw_wsX8_eventCount : GoodIn lw_tbl wsX8_eventCount := (gcons q_1057 (goodIn_app (goodIn_app (goodIn_app (gcons q_421 (gcons q_231 (gcons q_220 gnil))) gw_wsX80) gw_wsX60) gw_wsX10))
set_option maxRecDepth 20000 in
theorem gw_wsX9_eventCount : GoodIn lw_tbl wsX9_eventCount := (gcons q_1664 (goodIn_app (gcons q_1182 (gcons q_1183 gnil)) gw_wsX90))
set_option maxRecDepth 20000 in
theorem gw_wsL_eventKind : GoodIn lw_tbl wsL_eventKind := (gcons q_1079 (goodIn_app (goodIn_app (goodIn_app (goodIn_app (gcons q_1080 (gcons q_1081 (gcons q_1082 (gcons q_1083 (gcons q_81 (gcons q_1084 (gcons q_1089 (gcons q_102 (gcons q_421 (gcons q_231 (gcons q_213 (gcons q_1085 (gcons q_1086 (gcons q_1087 (gcons q_87 (gcons q_1088 (gcons q_219 gnil))))))))))))))))) gw_wsX80) gw_wsX60) gw_wsX10) (goodIn_sub wsL_law_x0 (by decide +kernel))))
set_option maxRecDepth 20000 in
theorem gw_wsX9_eventKind : GoodIn lw_tbl wsX9_eventKind := (gcons q_1668 (goodIn_app (gcons q_1669 (gcons q_1671 (gcons q_79 (gcons q_91 (gcons q_1672 (gcons q_1183 (gcons q_1182 (gcons q_1330 (gcons q_1331 (gcons q_1332 gnil)))))))))) gw_wsX90))
set_option maxRecDepth 20000 in
theorem gw_wsX9_thrown : GoodIn lw_tbl wsX9_thrown := (gcons q_1171 (goodIn_app (gcons q_1182 gnil) gw_wsX90))
set_option maxRecDepth 20000 in
theorem gw_wsL_eventNumber : GoodIn lw_tbl wsL_eventNumber := (gcons q_1156 (goodIn_app (goodIn_app (goodIn_app (goodIn_app (gcons q_1080 (gcons q_1157 (gcons q_1158 (gcons q_1159 (gcons q_81 (gcons q_1160 (gcons q_1089 (gcons q_102 (gcons q_421 (gcons q_231 (gcons q_215 (gcons q_1085 (gcons q_1086 (gcons q_1087 (gcons q_87 (gcons q_1088 (gcons q_219 gnil))))))))))))))))) gw_wsX80) gw_wsX60) gw_wsX10) (goodIn_sub wsL_law_x0 (by decide +kernel))))
set_option maxRecDepth 20000 in
theorem gw_wsX9_eventNumber : GoodIn lw_tbl wsX9_eventNumber := (gcons q_1676 (goodIn_app (gcons q_1669 (gcons q_1671 (gcons q_79 (gcons q_91 (gcons q_1672 (gcons q_1183 (gcons q_1182 (gcons q_1330 (gcons q_1331 (gcons q_1332 gnil)))))))))) gw_wsX90))
set_option maxRecDepth 20000 in
theorem gw_wsL_eventDay : GoodIn lw_tbl wsL_eventDay := (gcons q_1163 (goodIn_app (goodIn_app (goodIn_app (goodIn_app (gcons q_1080 (gcons q_1164 (gcons q_1165 (gcons q_1166 (gcons q_81 (gcons q_1167 (gcons q_1089 (gcons q_102 (gcons q_421 (gcons q_231 (gcons q_217 (gcons q_1085 (gcons q_1086 (gcons q_1087 (gcons q_87 (gcons q_1088 (gcons q_219 gnil))))))))))))))))) gw_wsX80) gw_wsX60) gw_wsX10) (goodIn_sub wsL_law_x0 (by decide +kernel))))
set_option maxRecDepth 20000 in
theorem gw_wsX9_eventDay : GoodIn lw_tbl wsX9_eventDay := (gcons q_1680 (goodIn_app (gcons q_1669 (gcons q_1671 (gcons q_79 (gcons q_91 (gcons q_1672 (gcons q_1183 (gcons q_1182 (gcons q_1330 (gcons q_1331 (gcons q_1332 gnil)))))))))) gw_wsX90))
set_option maxRecDepth 20000 in
theorem gw_wsX8_undo_r1 : GoodIn lw_tbl wsX8_undo_r1 := (gcons q_427 (gcons q_428 (gcons q_422 (gcons q_421 (gcons q_919 (gcons q_920 (gcons q_921 (gcons q_86 (gcons q_922 (gcons q_230 (gcons q_232 (gcons q_928 (gcons q_725 (gcons q_724 (gcons q_97 (gcons q_234 (gcons q_236 (gcons q_238 (gcons q_240 (gcons q_250 (gcons q_251 (gcons q_252 (gcons q_253 (gcons q_242 gnil))))))))))))))))))))))))
set_option maxRecDepth 20000 in
theorem gw_wsX8_undo_r2 : GoodIn lw_tbl wsX8_undo_r2 := (gcons q_244 (gcons q_246 (gcons q_248 (gcons q_254 (gcons q_923 (gcons q_924 (gcons q_925 (gcons q_87 (gcons q_926 (gcons q_212 (gcons q_927 (gcons q_214 (gcons q_216 (gcons q_219 gnil))))))))))))))
set_option maxRecDepth 20000 in
theorem gw_wsX8_undo : GoodIn lw_tbl wsX8_undo := (gcons q_1061 (goodIn_app (goodIn_app (goodIn_app (goodIn_app gw_wsX8_undo_r1 gw_wsX8_undo_r2) gw_wsX80) gw_wsX60) gw_wsX10))
set_option maxRecDepth 20000 in
theorem gw_wsX9_undo : GoodIn lw_tbl wsX9_undo := (gcons q_1684 (goodIn_app (gcons q_1182 (gcons q_1223 (gcons q_1224 (gcons q_1183 (gcons q_1409 (gcons q_1410 (gcons q_91 (gcons q_1411 gnil)))))))) gw_wsX90))
set_option maxRecDepth 20000 in
theorem gw_wsX8_undoDepth : GoodIn lw_tbl wsX8_undoDepth := (gcons q_1065 (goodIn_app (gcons q_427 gnil) gw_wsX80))
set_option maxRecDepth 20000 in
theorem gw_wsX9_undoDepth : GoodIn lw_tbl wsX9_undoDepth := (gcons q_1688 (goodIn_app (gcons q_1182 (gcons q_1223 gnil)) gw_wsX90))
set_option maxRecDepth 20000 in
theorem gw_wsX8_saveSnapshot_r1 : GoodIn lw_tbl wsX8_saveSnapshot_r1 := (gcons q_423 (gcons q_421 (gcons q_424 (gcons q_1070 (gcons q_1071 (gcons q_81 (gcons q_1072 (gcons q_919 (gcons q_920 (gcons q_921 (gcons q_86 (gcons q_922 (gcons q_230 (gcons q_232 (gcons q_928 (gcons q_725 (gcons q_724 (gcons q_97 (gcons q_234 (gcons q_236 (gcons q_238 (gcons q_240 (gcons q_250 (gcons q_251 gnil))))))))))))))))))))))))
set_option maxRecDepth 20000 in
theorem gw_wsX8_saveSnapshot_r2 : GoodIn lw_tbl wsX8_saveSnapshot_r2 := (gcons q_252 (gcons q_253 (gcons q_242 (gcons q_244 (gcons q_246 (gcons q_248 (gcons q_254 (gcons q_923 (gcons q_924 (gcons q_925 (gcons q_87 (gcons q_926 (gcons q_212 (gcons q_927 (gcons q_214 (gcons q_216 (gcons q_219 gnil)))))))))))))))))
set_option maxRecDepth 20000 in
theorem gw_wsX8_saveSnapshot : GoodIn lw_tbl wsX8_saveSnapshot := (gcons q_1069 (goodIn_app (goodIn_app (goodIn_app (goodIn_app gw_wsX8_saveSnapshot_r1 gw_wsX8_saveSnapshot_r2) gw_wsX80) gw_wsX60) gw_wsX10))
set_option maxRecDepth 20000 in
theorem gw_wsX9_saveSnapshot : GoodIn lw_tbl wsX9_saveSnapshot := (gcons q_1692 (goodIn_app (gcons q_1182 (gcons q_1183 (gcons q_1225 (gcons q_1226 (gcons q_1330 (gcons q_1331 (gcons q_91 (gcons q_1332 (gcons q_1409 (gcons q_1410 (gcons q_1411 gnil))))))))))) gw_wsX90))
set_option maxRecDepth 20000 in
theorem gw_wsX8_restoreSnapshot_r1 : GoodIn lw_tbl wsX8_restoreSnapshot_r1 := (gcons q_424 (gcons q_421 (gcons q_423 (gcons q_427 (gcons q_1070 (gcons q_1071 (gcons q_81 (gcons q_1072 (gcons q_919 (gcons q_920 (gcons q_921 (gcons q_86 (gcons q_922 (gcons q_230 (gcons q_232 (gcons q_928 (gcons q_725 (gcons q_724 (gcons q_97 (gcons q_234 (gcons q_236 (gcons q_238 (gcons q_240 (gcons q_250 gnil))))))))))))))))))))))))
set_option maxRecDepth 20000 in
theorem gw_wsX8_restoreSnapshot_r2 : GoodIn lw_tbl wsX8_restoreSnapshot_r2 := (gcons q_251 (gcons q_252 (gcons q_253 (gcons q_242 (gcons q_244 (gcons q_246 (gcons q_248 (gcons q_254 (gcons q_923 (gcons q_924 (gcons q_925 (gcons q_87 (gcons q_926 (gcons q_212 (gcons q_927 (gcons q_214 (gcons q_216 (gcons q_219 gnil))))))))))))))))))
set_option maxRecDepth 20000 in
theorem gw_wsX8_restoreSnapshot : GoodIn lw_tbl wsX8_restoreSnapshot := (gcons q_1076 (goodIn_app (goodIn_app (goodIn_app (goodIn_app gw_wsX8_restoreSnapshot_r1 gw_wsX8_restoreSnapshot_r2) gw_wsX80) gw_wsX60) gw_wsX10))
set_option maxRecDepth 20000 in
theorem gw_wsX9_restoreSnapshot : GoodIn lw_tbl wsX9_restoreSnapshot := (gcons q_1696 (goodIn_app (gcons q_1182 (gcons q_1226 (gcons q_1225 (gcons q_1183 (gcons q_1223 (gcons q_1330 (gcons q_1331 (gcons q_91 (gcons q_1332 (gcons q_1409 (gcons q_1410 (gcons q_1411 gnil)))))))))))) gw_wsX90))
set_option maxRecDepth 20000 in
theorem gw_wsX8_init_r1 : GoodIn lw_tbl wsX8_init_r1 := (gcons q_108 (gcons q_109 (gcons q_110 (gcons q_149 (gcons q_416 (gcons q_111 (gcons q_112 (gcons q_82 (gcons q_417 (gcons q_150 (gcons q_151 (gcons q_83 (gcons q_418 (gcons q_164 (gcons q_165 (gcons q_84 (gcons q_419 (gcons q_190 (gcons q_191 (gcons q_85 (gcons q_420 (gcons q_200 (gcons q_201 (gcons q_86 gnil))))))))))))))))))))))))
set_option maxRecDepth 20000 in
theorem gw_wsX8_init_r2 : GoodIn lw_tbl wsX8_init_r2 := (gcons q_421 (gcons q_422 (gcons q_423 (gcons q_329 (gcons q_424 (gcons q_426 (gcons q_287 (gcons q_288 (gcons q_88 (gcons q_429 (gcons q_430 (gcons q_114 (gcons q_115 (gcons q_116 (gcons q_119 (gcons q_153 (gcons q_154 (gcons q_155 (gcons q_163 (gcons q_156 (gcons q_157 (gcons q_167 (gcons q_168 (gcons q_169 gnil))))))))))))))))))))))))
set_option maxRecDepth 20000 in
theorem gw_wsX8_init_r3 : GoodIn lw_tbl wsX8_init_r3 := (gcons q_170 (gcons q_171 (gcons q_189 (gcons q_172 (gcons q_193 (gcons q_194 (gcons q_195 (gcons q_196 (gcons q_203 (gcons q_204 (gcons q_205 (gcons q_206 (gcons q_207 (gcons q_87 (gcons q_230 (gcons q_232 (gcons q_234 (gcons q_236 (gcons q_238 (gcons q_240 (gcons q_244 (gcons q_250 (gcons q_251 (gcons q_252 gnil))))))))))))))))))))))))
set_option maxRecDepth 20000 in
theorem gw_wsX8_init_r4 : GoodIn lw_tbl wsX8_init_r4 := (gcons q_209 (gcons q_210 (gcons q_211 (gcons q_212 (gcons q_214 (gcons q_216 (gcons q_290 (gcons q_291 (gcons q_292 (gcons q_293 (gcons q_294 (gcons q_89 (gcons q_330 (gcons q_336 (gcons q_339 (gcons q_341 (gcons q_344 (gcons q_347 (gcons q_351 (gcons q_354 (gcons q_371 (gcons q_377 (gcons q_296 (gcons q_297 gnil))))))))))))))))))))))))
set_option maxRecDepth 20000 in
theorem gw_wsX8_init_r5 : GoodIn lw_tbl wsX8_init_r5 := (gcons q_298 (gcons q_306 (gcons q_307 (gcons q_308 (gcons q_309 (gcons q_310 (gcons q_311 (gcons q_409 (gcons q_410 (gcons q_411 (gcons q_412 (gcons q_218 (gcons q_368 (gcons q_253 (gcons q_242 (gcons q_331 (gcons q_300 (gcons q_375 (gcons q_372 (gcons q_246 (gcons q_248 (gcons q_378 (gcons q_254 (gcons q_413 gnil))))))))))))))))))))))))
set_option maxRecDepth 20000 in
theorem gw_wsX8_init_r6 : GoodIn lw_tbl wsX8_init_r6 := (gcons q_414 (gcons q_90 (gcons q_415 gnil)))
set_option maxRecDepth 20000 in
theorem gw_wsX8_init : GoodIn lw_tbl wsX8_init := (gcons q_107 (goodIn_app (goodIn_app (goodIn_app (goodIn_app (goodIn_app (goodIn_app (goodIn_app (goodIn_app (goodIn_app (goodIn_app gw_wsX8_init_r1 (goodIn_app gw_wsX8_init_r2 (goodIn_app gw_wsX8_init_r3 (goodIn_app gw_wsX8_init_r4 (goodIn_app gw_wsX8_init_r5 gw_wsX8_init_r6))))) gw_wsX80) gw_wsX40) gw_wsX00) gw_wsX30) gw_wsX20) gw_wsX60) gw_wsX50) gw_wsX10) gw_wsX70))
set_option maxRecDepth 20000 in
theorem gw_wsX9_init_r1 : GoodIn lw_tbl wsX9_init_r1 := (gcons q_1177 (gcons q_109 (gcons q_110 (gcons q_189 (gcons q_1183 (gcons q_1184 (gcons q_1185 (gcons q_1186 (gcons q_1187 (gcons q_1188 (gcons q_1189 (gcons q_1190 (gcons q_1191 (gcons q_1192 (gcons q_1193 (gcons q_1194 (gcons q_1195 (gcons q_1196 (gcons q_1197 (gcons q_1198 (gcons q_1199 (gcons q_1200 (gcons q_1201 (gcons q_149 gnil))))))))))))))))))))))))
set_option maxRecDepth 20000 in
theorem gw_wsX9_init_r2 : GoodIn lw_tbl wsX9_init_r2 := (gcons q_1208 (gcons q_1216 (gcons q_163 (gcons q_1218 (gcons q_1219 (gcons q_1220 (gcons q_1221 (gcons q_1222 (gcons q_1224 (gcons q_1225 (gcons q_329 (gcons q_1226 (gcons q_1202 (gcons q_1204 (gcons q_1178 (gcons q_1180 (gcons q_39 (gcons q_91 (gcons q_1181 (gcons q_1203 (gcons q_1223 gnil)))))))))))))))))))))
set_option maxRecDepth 20000 in
theorem gw_wsX9_init : GoodIn lw_tbl wsX9_init := (gcons q_1176 (goodIn_app (goodIn_app gw_wsX9_init_r1 gw_wsX9_init_r2) gw_wsX90))
theorem gL_law_X8_append : GoodIn lw_tbl (wsV RL 25 RX8 yX8_append wsX8_append) := goodIn_app (gcons q_462 (gcons q_463 (gcons q_464 (gcons q_81 gnil)))) gw_wsX8_append
theorem gL_law_X9_append : GoodIn lw_tbl (wsV RL 29 RX9 yX9_append wsX9_append) := goodIn_app (gcons q_1318 (gcons q_1319 (gcons q_1320 (gcons q_91 gnil)))) gw_wsX9_append
theorem gL_law_X8_parse : GoodIn lw_tbl (wsV RL 30 RX8 yX8_parse wsX8_parse) := goodIn_app (gcons q_470 (gcons q_471 (gcons q_472 (gcons q_81 gnil)))) gw_wsX8_parse
theorem gL_law_X9_parse : GoodIn lw_tbl (wsV RL 33 RX9 yX9_parse wsX9_parse) := goodIn_app (gcons q_1326 (gcons q_1327 (gcons q_1328 (gcons q_91 gnil)))) gw_wsX9_parse
theorem gL_law_X8_errorPosition : GoodIn lw_tbl (wsV RL 34 RX8 yX8_errorPosition wsX8_errorPosition) := goodIn_app (gcons q_661 (gcons q_662 (gcons q_663 (gcons q_81 gnil)))) gw_wsX8_errorPosition
theorem gL_law_X9_errorPosition : GoodIn lw_tbl (wsV RL 38 RX9 yX9_errorPosition wsX9_errorPosition) := goodIn_app (gcons q_1412 (gcons q_1413 (gcons q_1414 (gcons q_91 gnil)))) gw_wsX9_errorPosition
theorem gL_law_X8_regionCount : GoodIn lw_tbl (wsV RL 39 RX8 yX8_regionCount wsX8_regionCount) := goodIn_app (gcons q_665 (gcons q_666 (gcons q_667 (gcons q_81 gnil)))) gw_wsX8_regionCount
theorem gL_law_X9_regionCount : GoodIn lw_tbl (wsV RL 42 RX9 yX9_regionCount wsX9_regionCount) := goodIn_app (gcons q_1416 (gcons q_1417 (gcons q_1418 (gcons q_91 gnil)))) gw_wsX9_regionCount
theorem gL_law_X8_windCount : GoodIn lw_tbl (wsV RL 43 RX8 yX8_windCount wsX8_windCount) := goodIn_app (gcons q_669 (gcons q_670 (gcons q_671 (gcons q_81 gnil)))) gw_wsX8_windCount
theorem gL_law_X9_windCount : GoodIn lw_tbl (wsV RL 46 RX9 yX9_windCount wsX9_windCount) := goodIn_app (gcons q_1420 (gcons q_1421 (gcons q_1422 (gcons q_91 gnil)))) gw_wsX9_windCount
theorem gL_law_X8_balloonCount : GoodIn lw_tbl (wsV RL 47 RX8 yX8_balloonCount wsX8_balloonCount) := goodIn_app (gcons q_673 (gcons q_674 (gcons q_675 (gcons q_81 gnil)))) gw_wsX8_balloonCount
theorem gL_law_X9_balloonCount : GoodIn lw_tbl (wsV RL 50 RX9 yX9_balloonCount wsX9_balloonCount) := goodIn_app (gcons q_1424 (gcons q_1425 (gcons q_1426 (gcons q_91 gnil)))) gw_wsX9_balloonCount
theorem gL_law_X8_letterCount : GoodIn lw_tbl (wsV RL 51 RX8 yX8_letterCount wsX8_letterCount) := goodIn_app (gcons q_677 (gcons q_678 (gcons q_679 (gcons q_81 gnil)))) gw_wsX8_letterCount
theorem gL_law_X9_letterCount : GoodIn lw_tbl (wsV RL 54 RX9 yX9_letterCount wsX9_letterCount) := goodIn_app (gcons q_1428 (gcons q_1429 (gcons q_1430 (gcons q_91 gnil)))) gw_wsX9_letterCount
theorem gL_law_X8_capacity : GoodIn lw_tbl (wsV RL 55 RX8 yX8_capacity wsX8_capacity) := goodIn_app (gcons q_681 (gcons q_682 (gcons q_683 (gcons q_81 gnil)))) gw_wsX8_capacity
theorem gL_law_X9_capacity : GoodIn lw_tbl (wsV RL 58 RX9 yX9_capacity wsX9_capacity) := goodIn_app (gcons q_1432 (gcons q_1433 (gcons q_1434 (gcons q_91 gnil)))) gw_wsX9_capacity
theorem gL_law_X8_letterWeight : GoodIn lw_tbl (wsV RL 59 RX8 yX8_letterWeight wsX8_letterWeight) := goodIn_app (gcons q_689 (gcons q_690 (gcons q_691 (gcons q_81 gnil)))) gw_wsX8_letterWeight
theorem gL_law_X9_letterWeight : GoodIn lw_tbl (wsV RL 62 RX9 yX9_letterWeight wsX9_letterWeight) := goodIn_app (gcons q_1440 (gcons q_1441 (gcons q_1442 (gcons q_91 gnil)))) gw_wsX9_letterWeight
theorem gL_law_X8_windChance : GoodIn lw_tbl (wsV RL 63 RX8 yX8_windChance wsX8_windChance) := goodIn_app (gcons q_697 (gcons q_698 (gcons q_699 (gcons q_81 gnil)))) gw_wsX8_windChance
theorem gL_law_X9_windChance : GoodIn lw_tbl (wsV RL 67 RX9 yX9_windChance wsX9_windChance) := goodIn_app (gcons q_1448 (gcons q_1449 (gcons q_1450 (gcons q_91 gnil)))) gw_wsX9_windChance
theorem gL_law_X8_avoidChance : GoodIn lw_tbl (wsV RL 68 RX8 yX8_avoidChance wsX8_avoidChance) := goodIn_app (gcons q_730 (gcons q_731 (gcons q_732 (gcons q_81 gnil)))) gw_wsX8_avoidChance
theorem gL_law_X9_avoidChance : GoodIn lw_tbl (wsV RL 71 RX9 yX9_avoidChance wsX9_avoidChance) := goodIn_app (gcons q_1468 (gcons q_1469 (gcons q_1470 (gcons q_91 gnil)))) gw_wsX9_avoidChance
theorem gL_law_X8_landingChance : GoodIn lw_tbl (wsV RL 72 RX8 yX8_landingChance wsX8_landingChance) := goodIn_app (gcons q_738 (gcons q_739 (gcons q_740 (gcons q_81 gnil)))) gw_wsX8_landingChance
theorem gL_law_X9_landingChance : GoodIn lw_tbl (wsV RL 75 RX9 yX9_landingChance wsX9_landingChance) := goodIn_app (gcons q_1472 (gcons q_1473 (gcons q_1474 (gcons q_91 gnil)))) gw_wsX9_landingChance
theorem gL_law_X8_deliveryChance : GoodIn lw_tbl (wsV RL 76 RX8 yX8_deliveryChance wsX8_deliveryChance) := goodIn_app (gcons q_755 (gcons q_756 (gcons q_757 (gcons q_81 gnil)))) gw_wsX8_deliveryChance
theorem gL_law_X9_deliveryChance : GoodIn lw_tbl (wsV RL 80 RX9 yX9_deliveryChance wsX9_deliveryChance) := goodIn_app (gcons q_1480 (gcons q_1481 (gcons q_1482 (gcons q_91 gnil)))) gw_wsX9_deliveryChance
theorem gL_law_X8_answerChance : GoodIn lw_tbl (wsV RL 81 RX8 yX8_answerChance wsX8_answerChance) := goodIn_app (gcons q_769 (gcons q_770 (gcons q_771 (gcons q_81 gnil)))) gw_wsX8_answerChance
theorem gL_law_X9_answerChance : GoodIn lw_tbl (wsV RL 84 RX9 yX9_answerChance wsX9_answerChance) := goodIn_app (gcons q_1491 (gcons q_1492 (gcons q_1493 (gcons q_91 gnil)))) gw_wsX9_answerChance
theorem gL_law_X8_answerPermille : GoodIn lw_tbl (wsV RL 85 RX8 yX8_answerPermille wsX8_answerPermille) := goodIn_app (gcons q_783 (gcons q_784 (gcons q_785 (gcons q_81 gnil)))) gw_wsX8_answerPermille
theorem gL_law_X9_answerPermille : GoodIn lw_tbl (wsV RL 89 RX9 yX9_answerPermille wsX9_answerPermille) := goodIn_app (gcons q_1499 (gcons q_1500 (gcons q_1501 (gcons q_91 gnil)))) gw_wsX9_answerPermille
theorem gL_law_X8_bestDay : GoodIn lw_tbl (wsV RL 90 RX8 yX8_bestDay wsX8_bestDay) := goodIn_app (gcons q_789 (gcons q_790 (gcons q_791 (gcons q_81 gnil)))) gw_wsX8_bestDay
theorem gL_law_X9_bestDay : GoodIn lw_tbl (wsV RL 93 RX9 yX9_bestDay wsX9_bestDay) := goodIn_app (gcons q_1504 (gcons q_1505 (gcons q_1506 (gcons q_91 gnil)))) gw_wsX9_bestDay
theorem gL_law_X8_assignmentTotal : GoodIn lw_tbl (wsV RL 94 RX8 yX8_assignmentTotal wsX8_assignmentTotal) := goodIn_app (gcons q_796 (gcons q_797 (gcons q_798 (gcons q_81 gnil)))) gw_wsX8_assignmentTotal
theorem gL_law_X9_assignmentTotal : GoodIn lw_tbl (wsV RL 98 RX9 yX9_assignmentTotal wsX9_assignmentTotal) := goodIn_app (gcons q_1512 (gcons q_1513 (gcons q_1514 (gcons q_91 gnil)))) gw_wsX9_assignmentTotal
theorem gL_law_X8_assignedDay : GoodIn lw_tbl (wsV RL 99 RX8 yX8_assignedDay wsX8_assignedDay) := goodIn_app (gcons q_852 (gcons q_853 (gcons q_854 (gcons q_81 gnil)))) gw_wsX8_assignedDay
theorem gL_law_X9_assignedDay : GoodIn lw_tbl (wsV RL 102 RX9 yX9_assignedDay wsX9_assignedDay) := goodIn_app (gcons q_1524 (gcons q_1525 (gcons q_1526 (gcons q_91 gnil)))) gw_wsX9_assignedDay
theorem gL_law_X8_bestLoad : GoodIn lw_tbl (wsV RL 103 RX8 yX8_bestLoad wsX8_bestLoad) := goodIn_app (gcons q_860 (gcons q_861 (gcons q_862 (gcons q_81 gnil)))) gw_wsX8_bestLoad
theorem gL_law_X9_bestLoad : GoodIn lw_tbl (wsV RL 106 RX9 yX9_bestLoad wsX9_bestLoad) := goodIn_app (gcons q_1532 (gcons q_1533 (gcons q_1534 (gcons q_91 gnil)))) gw_wsX9_bestLoad
theorem gL_law_X8_weightOf : GoodIn lw_tbl (wsV RL 107 RX8 yX8_weightOf wsX8_weightOf) := goodIn_app (gcons q_880 (gcons q_881 (gcons q_882 (gcons q_81 gnil)))) gw_wsX8_weightOf
theorem gL_law_X9_weightOf : GoodIn lw_tbl (wsV RL 110 RX9 yX9_weightOf wsX9_weightOf) := goodIn_app (gcons q_1540 (gcons q_1541 (gcons q_1542 (gcons q_91 gnil)))) gw_wsX9_weightOf
theorem gL_law_X8_priorityOf : GoodIn lw_tbl (wsV RL 111 RX8 yX8_priorityOf wsX8_priorityOf) := goodIn_app (gcons q_892 (gcons q_893 (gcons q_894 (gcons q_81 gnil)))) gw_wsX8_priorityOf
theorem gL_law_X9_priorityOf : GoodIn lw_tbl (wsV RL 114 RX9 yX9_priorityOf wsX9_priorityOf) := goodIn_app (gcons q_1552 (gcons q_1553 (gcons q_1554 (gcons q_91 gnil)))) gw_wsX9_priorityOf
theorem gL_law_X8_lettersIn : GoodIn lw_tbl (wsV RL 115 RX8 yX8_lettersIn wsX8_lettersIn) := goodIn_app (gcons q_896 (gcons q_897 (gcons q_898 (gcons q_81 gnil)))) gw_wsX8_lettersIn
theorem gL_law_X9_lettersIn : GoodIn lw_tbl (wsV RL 118 RX9 yX9_lettersIn wsX9_lettersIn) := goodIn_app (gcons q_1556 (gcons q_1557 (gcons q_1558 (gcons q_91 gnil)))) gw_wsX9_lettersIn
theorem gL_law_X8_day : GoodIn lw_tbl (wsV RL 119 RX8 yX8_day wsX8_day) := goodIn_app (gcons q_903 (gcons q_904 (gcons q_905 (gcons q_81 gnil)))) gw_wsX8_day
theorem gL_law_X9_day : GoodIn lw_tbl (wsV RL 122 RX9 yX9_day wsX9_day) := goodIn_app (gcons q_1564 (gcons q_1565 (gcons q_1566 (gcons q_91 gnil)))) gw_wsX9_day
theorem gL_law_X8_wind : GoodIn lw_tbl (wsV RL 123 RX8 yX8_wind wsX8_wind) := goodIn_app (gcons q_907 (gcons q_908 (gcons q_909 (gcons q_81 gnil)))) gw_wsX8_wind
theorem gL_law_X9_wind : GoodIn lw_tbl (wsV RL 126 RX9 yX9_wind wsX9_wind) := goodIn_app (gcons q_1568 (gcons q_1569 (gcons q_1570 (gcons q_91 gnil)))) gw_wsX9_wind
theorem gL_law_X8_launch : GoodIn lw_tbl (wsV RL 127 RX8 yX8_launch wsX8_launch) := goodIn_app (gcons q_911 (gcons q_912 (gcons q_913 (gcons q_81 gnil)))) gw_wsX8_launch
theorem gL_law_X9_launch : GoodIn lw_tbl (wsV RL 130 RX9 yX9_launch wsX9_launch) := goodIn_app (gcons q_1572 (gcons q_1573 (gcons q_1574 (gcons q_91 gnil)))) gw_wsX9_launch
theorem gL_law_X8_nextDay : GoodIn lw_tbl (wsV RL 131 RX8 yX8_nextDay wsX8_nextDay) := goodIn_app (gcons q_965 (gcons q_966 (gcons q_967 (gcons q_81 gnil)))) gw_wsX8_nextDay
theorem gL_law_X9_nextDay : GoodIn lw_tbl (wsV RL 134 RX9 yX9_nextDay wsX9_nextDay) := goodIn_app (gcons q_1601 (gcons q_1602 (gcons q_1603 (gcons q_91 gnil)))) gw_wsX9_nextDay
theorem gL_law_X8_balloonState : GoodIn lw_tbl (wsV RL 135 RX8 yX8_balloonState wsX8_balloonState) := goodIn_app (gcons q_990 (gcons q_991 (gcons q_992 (gcons q_81 gnil)))) gw_wsX8_balloonState
theorem gL_law_X9_balloonState : GoodIn lw_tbl (wsV RL 138 RX9 yX9_balloonState wsX9_balloonState) := goodIn_app (gcons q_1613 (gcons q_1614 (gcons q_1615 (gcons q_91 gnil)))) gw_wsX9_balloonState
theorem gL_law_X8_balloonRegion : GoodIn lw_tbl (wsV RL 139 RX8 yX8_balloonRegion wsX8_balloonRegion) := goodIn_app (gcons q_994 (gcons q_995 (gcons q_996 (gcons q_81 gnil)))) gw_wsX8_balloonRegion
theorem gL_law_X9_balloonRegion : GoodIn lw_tbl (wsV RL 142 RX9 yX9_balloonRegion wsX9_balloonRegion) := goodIn_app (gcons q_1617 (gcons q_1618 (gcons q_1619 (gcons q_91 gnil)))) gw_wsX9_balloonRegion
theorem gL_law_X8_cargo : GoodIn lw_tbl (wsV RL 143 RX8 yX8_cargo wsX8_cargo) := goodIn_app (gcons q_998 (gcons q_999 (gcons q_1000 (gcons q_81 gnil)))) gw_wsX8_cargo
theorem gL_law_X9_cargo : GoodIn lw_tbl (wsV RL 146 RX9 yX9_cargo wsX9_cargo) := goodIn_app (gcons q_1621 (gcons q_1622 (gcons q_1623 (gcons q_91 gnil)))) gw_wsX9_cargo
theorem gL_law_X8_letterState : GoodIn lw_tbl (wsV RL 147 RX8 yX8_letterState wsX8_letterState) := goodIn_app (gcons q_1002 (gcons q_1003 (gcons q_1004 (gcons q_81 gnil)))) gw_wsX8_letterState
theorem gL_law_X9_letterState : GoodIn lw_tbl (wsV RL 150 RX9 yX9_letterState wsX9_letterState) := goodIn_app (gcons q_1625 (gcons q_1626 (gcons q_1627 (gcons q_91 gnil)))) gw_wsX9_letterState
theorem gL_law_X8_answerDay : GoodIn lw_tbl (wsV RL 151 RX8 yX8_answerDay wsX8_answerDay) := goodIn_app (gcons q_1010 (gcons q_1011 (gcons q_1012 (gcons q_81 gnil)))) gw_wsX8_answerDay
theorem gL_law_X9_answerDay : GoodIn lw_tbl (wsV RL 154 RX9 yX9_answerDay wsX9_answerDay) := goodIn_app (gcons q_1629 (gcons q_1630 (gcons q_1631 (gcons q_91 gnil)))) gw_wsX9_answerDay
theorem gL_law_X8_pigeonsInLoft : GoodIn lw_tbl (wsV RL 155 RX8 yX8_pigeonsInLoft wsX8_pigeonsInLoft) := goodIn_app (gcons q_1014 (gcons q_1015 (gcons q_1016 (gcons q_81 gnil)))) gw_wsX8_pigeonsInLoft
theorem gL_law_X9_pigeonsInLoft : GoodIn lw_tbl (wsV RL 158 RX9 yX9_pigeonsInLoft wsX9_pigeonsInLoft) := goodIn_app (gcons q_1633 (gcons q_1634 (gcons q_1635 (gcons q_91 gnil)))) gw_wsX9_pigeonsInLoft
theorem gL_law_X8_pigeonsOnTheWay : GoodIn lw_tbl (wsV RL 159 RX8 yX8_pigeonsOnTheWay wsX8_pigeonsOnTheWay) := goodIn_app (gcons q_1018 (gcons q_1019 (gcons q_1020 (gcons q_81 gnil)))) gw_wsX8_pigeonsOnTheWay
theorem gL_law_X9_pigeonsOnTheWay : GoodIn lw_tbl (wsV RL 162 RX9 yX9_pigeonsOnTheWay wsX9_pigeonsOnTheWay) := goodIn_app (gcons q_1637 (gcons q_1638 (gcons q_1639 (gcons q_91 gnil)))) gw_wsX9_pigeonsOnTheWay
theorem gL_law_X8_pigeonsLost : GoodIn lw_tbl (wsV RL 163 RX8 yX8_pigeonsLost wsX8_pigeonsLost) := goodIn_app (gcons q_1026 (gcons q_1027 (gcons q_1028 (gcons q_81 gnil)))) gw_wsX8_pigeonsLost
theorem gL_law_X9_pigeonsLost : GoodIn lw_tbl (wsV RL 166 RX9 yX9_pigeonsLost wsX9_pigeonsLost) := goodIn_app (gcons q_1641 (gcons q_1642 (gcons q_1643 (gcons q_91 gnil)))) gw_wsX9_pigeonsLost
theorem gL_law_X8_nextReturn : GoodIn lw_tbl (wsV RL 167 RX8 yX8_nextReturn wsX8_nextReturn) := goodIn_app (gcons q_1030 (gcons q_1031 (gcons q_1032 (gcons q_81 gnil)))) gw_wsX8_nextReturn
theorem gL_law_X9_nextReturn : GoodIn lw_tbl (wsV RL 170 RX9 yX9_nextReturn wsX9_nextReturn) := goodIn_app (gcons q_1645 (gcons q_1646 (gcons q_1647 (gcons q_91 gnil)))) gw_wsX9_nextReturn
theorem gL_law_X8_weightIn : GoodIn lw_tbl (wsV RL 171 RX8 yX8_weightIn wsX8_weightIn) := goodIn_app (gcons q_1038 (gcons q_1039 (gcons q_1040 (gcons q_81 gnil)))) gw_wsX8_weightIn
theorem gL_law_X9_weightIn : GoodIn lw_tbl (wsV RL 174 RX9 yX9_weightIn wsX9_weightIn) := goodIn_app (gcons q_1649 (gcons q_1650 (gcons q_1651 (gcons q_91 gnil)))) gw_wsX9_weightIn
theorem gL_law_X8_answeredPriority : GoodIn lw_tbl (wsV RL 175 RX8 yX8_answeredPriority wsX8_answeredPriority) := goodIn_app (gcons q_1042 (gcons q_1043 (gcons q_1044 (gcons q_81 gnil)))) gw_wsX8_answeredPriority
theorem gL_law_X9_answeredPriority : GoodIn lw_tbl (wsV RL 178 RX9 yX9_answeredPriority wsX9_answeredPriority) := goodIn_app (gcons q_1653 (gcons q_1654 (gcons q_1655 (gcons q_91 gnil)))) gw_wsX9_answeredPriority
theorem gL_law_X8_balloonsIn : GoodIn lw_tbl (wsV RL 179 RX8 yX8_balloonsIn wsX8_balloonsIn) := goodIn_app (gcons q_1046 (gcons q_1047 (gcons q_1048 (gcons q_81 gnil)))) gw_wsX8_balloonsIn
theorem gL_law_X9_balloonsIn : GoodIn lw_tbl (wsV RL 182 RX9 yX9_balloonsIn wsX9_balloonsIn) := goodIn_app (gcons q_1657 (gcons q_1658 (gcons q_1659 (gcons q_91 gnil)))) gw_wsX9_balloonsIn
theorem gL_law_X8_eventCount : GoodIn lw_tbl (wsV RL 183 RX8 yX8_eventCount wsX8_eventCount) := goodIn_app (gcons q_1054 (gcons q_1055 (gcons q_1056 (gcons q_81 gnil)))) gw_wsX8_eventCount
theorem gL_law_X9_eventCount : GoodIn lw_tbl (wsV RL 186 RX9 yX9_eventCount wsX9_eventCount) := goodIn_app (gcons q_1661 (gcons q_1662 (gcons q_1663 (gcons q_91 gnil)))) gw_wsX9_eventCount
theorem gL_law_L_eventKind : GoodIn lw_tbl (va_wsS RL 187 yL_eventKind wsL_eventKind) := goodIn_app (gcons q_1077 (gcons q_1078 (gcons q_80 gnil))) gw_wsL_eventKind
theorem gL_law_X9_eventKind : GoodIn lw_tbl (wsV RL 192 RX9 yX9_eventKind wsX9_eventKind) := goodIn_app (gcons q_1665 (gcons q_1666 (gcons q_1667 (gcons q_91 gnil)))) gw_wsX9_eventKind
theorem gL_law_X9_thrown : GoodIn lw_tbl (wsV RL 193 RX9 yX9_thrown wsX9_thrown) := goodIn_app (gcons q_1168 (gcons q_1169 (gcons q_1170 (gcons q_91 gnil)))) gw_wsX9_thrown
theorem gL_law_L_eventNumber : GoodIn lw_tbl (va_wsS RL 196 yL_eventNumber wsL_eventNumber) := goodIn_app (gcons q_1154 (gcons q_1155 (gcons q_80 gnil))) gw_wsL_eventNumber
theorem gL_law_X9_eventNumber : GoodIn lw_tbl (wsV RL 198 RX9 yX9_eventNumber wsX9_eventNumber) := goodIn_app (gcons q_1673 (gcons q_1674 (gcons q_1675 (gcons q_91 gnil)))) gw_wsX9_eventNumber
theorem gL_law_L_eventDay : GoodIn lw_tbl (va_wsS RL 199 yL_eventDay wsL_eventDay) := goodIn_app (gcons q_1161 (gcons q_1162 (gcons q_80 gnil))) gw_wsL_eventDay
theorem gL_law_X9_eventDay : GoodIn lw_tbl (wsV RL 201 RX9 yX9_eventDay wsX9_eventDay) := goodIn_app (gcons q_1677 (gcons q_1678 (gcons q_1679 (gcons q_91 gnil)))) gw_wsX9_eventDay
theorem gL_law_X8_undo : GoodIn lw_tbl (wsV RL 202 RX8 yX8_undo wsX8_undo) := goodIn_app (gcons q_1058 (gcons q_1059 (gcons q_1060 (gcons q_81 gnil)))) gw_wsX8_undo
theorem gL_law_X9_undo : GoodIn lw_tbl (wsV RL 206 RX9 yX9_undo wsX9_undo) := goodIn_app (gcons q_1681 (gcons q_1682 (gcons q_1683 (gcons q_91 gnil)))) gw_wsX9_undo
theorem gL_law_X8_undoDepth : GoodIn lw_tbl (wsV RL 207 RX8 yX8_undoDepth wsX8_undoDepth) := goodIn_app (gcons q_1062 (gcons q_1063 (gcons q_1064 (gcons q_81 gnil)))) gw_wsX8_undoDepth
theorem gL_law_X9_undoDepth : GoodIn lw_tbl (wsV RL 210 RX9 yX9_undoDepth wsX9_undoDepth) := goodIn_app (gcons q_1685 (gcons q_1686 (gcons q_1687 (gcons q_91 gnil)))) gw_wsX9_undoDepth
theorem gL_law_X8_saveSnapshot : GoodIn lw_tbl (wsV RL 211 RX8 yX8_saveSnapshot wsX8_saveSnapshot) := goodIn_app (gcons q_1066 (gcons q_1067 (gcons q_1068 (gcons q_81 gnil)))) gw_wsX8_saveSnapshot
theorem gL_law_X9_saveSnapshot : GoodIn lw_tbl (wsV RL 215 RX9 yX9_saveSnapshot wsX9_saveSnapshot) := goodIn_app (gcons q_1689 (gcons q_1690 (gcons q_1691 (gcons q_91 gnil)))) gw_wsX9_saveSnapshot
theorem gL_law_X8_restoreSnapshot : GoodIn lw_tbl (wsV RL 216 RX8 yX8_restoreSnapshot wsX8_restoreSnapshot) := goodIn_app (gcons q_1073 (gcons q_1074 (gcons q_1075 (gcons q_81 gnil)))) gw_wsX8_restoreSnapshot
theorem gL_law_X9_restoreSnapshot : GoodIn lw_tbl (wsV RL 219 RX9 yX9_restoreSnapshot wsX9_restoreSnapshot) := goodIn_app (gcons q_1693 (gcons q_1694 (gcons q_1695 (gcons q_91 gnil)))) gw_wsX9_restoreSnapshot
theorem gL_law_X8_init : GoodIn lw_tbl (wsX8_init) := gw_wsX8_init
theorem gL_law_X9_init : GoodIn lw_tbl (wsX9_init) := gw_wsX9_init
set_option maxRecDepth 20000 in
theorem ggL_eventKind_X8_eventKind : GoodIn wsL_eventKind wsX8_eventKind := goodIn_ca (goodIn_r _ [6, 7, 8, 9, 10, 11, 12, 13, 14, 15, 16, 17, 18, 19, 20, 21, 22, 23, 24, 25, 26, 27, 28, 29, 30, 31, 32, 33, 34, 35, 36, 37, 38, 39, 40, 41, 42, 43, 44, 45, 46, 47, 48, 49, 50, 51] (by decide +kernel) (by decide +kernel)) (goodIn_sub (fun _ h => List.mem_cons_of_mem _ (List.mem_append_right _ h)) (by decide +kernel))
set_option maxRecDepth 20000 in
theorem gL_eventKind_X8_eventKind : GoodIn wsL_eventKind (wsV RL 7 RX8 yX8_eventKind wsX8_eventKind) := goodIn_app (goodIn_of _ (by decide +kernel)) ggL_eventKind_X8_eventKind
set_option maxRecDepth 20000 in
theorem ggL_eventNumber_X8_eventNumber : GoodIn wsL_eventNumber wsX8_eventNumber := goodIn_ca (goodIn_r _ [6, 7, 8, 9, 10, 11, 12, 13, 14, 15, 16, 17, 18, 19, 20, 21, 22, 23, 24, 25, 26, 27, 28, 29, 30, 31, 32, 33, 34, 35, 36, 37, 38, 39, 40, 41, 42, 43, 44, 45, 46, 47, 48, 49, 50, 51] (by decide +kernel) (by decide +kernel)) (goodIn_sub (fun _ h => List.mem_cons_of_mem _ (List.mem_append_right _ h)) (by decide +kernel))
set_option maxRecDepth 20000 in
theorem gL_eventNumber_X8_eventNumber : GoodIn wsL_eventNumber (wsV RL 15 RX8 yX8_eventNumber wsX8_eventNumber) := goodIn_app (goodIn_of _ (by decide +kernel)) ggL_eventNumber_X8_eventNumber
set_option maxRecDepth 20000 in
theorem ggL_eventDay_X8_eventDay : GoodIn wsL_eventDay wsX8_eventDay := goodIn_ca (goodIn_r _ [6, 7, 8, 9, 10, 11, 12, 13, 14, 15, 16, 17, 18, 19, 20, 21, 22, 23, 24, 25, 26, 27, 28, 29, 30, 31, 32, 33, 34, 35, 36, 37, 38, 39, 40, 41, 42, 43, 44, 45, 46, 47, 48, 49, 50, 51] (by decide +kernel) (by decide +kernel)) (goodIn_sub (fun _ h => List.mem_cons_of_mem _ (List.mem_append_right _ h)) (by decide +kernel))
set_option maxRecDepth 20000 in
theorem gL_eventDay_X8_eventDay : GoodIn wsL_eventDay (wsV RL 18 RX8 yX8_eventDay wsX8_eventDay) := goodIn_app (goodIn_of _ (by decide +kernel)) ggL_eventDay_X8_eventDay
