theorem mw_1428 : Cond.code yX9_lift cX9_lift 1 (some .int) ∈ LW := LWm (tb6 (List.mem_of_getElem? (i := 228) (by decide +kernel))) rfl
theorem mw_1429 : Cond.fieldLink RX9 99 "TinRoofScore$Order" "LIFT" "LTinRoofScore$Order;" ∈ LW := LWm (tb6 (List.mem_of_getElem? (i := 229) (by decide +kernel))) rfl
theorem mw_1430 : Cond.methodLink RL 312 yL_tune ∈ LW := LWm (tb6 (List.mem_of_getElem? (i := 230) (by decide +kernel))) rfl
theorem mw_1431 : Cond.static yL_tune ∈ LW := LWm (tb6 (List.mem_of_getElem? (i := 231) (by decide +kernel))) rfl
theorem mw_1432 : Cond.codeWith yL_tune cL_tune 4 (some .int) [(0, 6, 7, 22), (0, 6, 10, 14), (0, 6, 14, 16)] ∈ LW := LWm (tb6 (List.mem_of_getElem? (i := 232) rfl)) rfl
theorem mw_1433 : Cond.methodLink RL 41 yX9_tune ∈ LW := LWm (tb6 (List.mem_of_getElem? (i := 233) (by decide +kernel))) rfl
theorem mw_1434 : Cond.instanceMethod yX9_tune ∈ LW := LWm (tb6 (List.mem_of_getElem? (i := 234) (by decide +kernel))) rfl
theorem mw_1435 : Cond.selects RX9 yX9_tune yX9_tune ∈ LW := LWm (tb6 (List.mem_of_getElem? (i := 235) (by decide +kernel))) rfl
theorem mw_1436 : Cond.code yX9_tune cX9_tune 3 (some .int) ∈ LW := LWm (tb6 (List.mem_of_getElem? (i := 236) (by decide +kernel))) rfl
theorem mw_1437 : Cond.fieldLink RX9 105 "TinRoofScore$Order" "TUNE" "LTinRoofScore$Order;" ∈ LW := LWm (tb6 (List.mem_of_getElem? (i := 237) (by decide +kernel))) rfl
theorem mw_1443 : Cond.methodLink RL 324 yL_run ∈ LW := LWm (tb7 (List.mem_of_getElem? (i := 3) (by decide +kernel))) rfl
theorem mw_1444 : Cond.static yL_run ∈ LW := LWm (tb7 (List.mem_of_getElem? (i := 4) (by decide +kernel))) rfl
theorem mw_1445 : Cond.code yL_run cL_run 3 (some .int) ∈ LW := LWm (tb7 (List.mem_of_getElem? (i := 5) rfl)) rfl
theorem mw_1446 : Cond.methodLink RL 117 yL_append ∈ LW := LWm (tb7 (List.mem_of_getElem? (i := 6) (by decide +kernel))) rfl
theorem mw_1447 : Cond.static yL_append ∈ LW := LWm (tb7 (List.mem_of_getElem? (i := 7) (by decide +kernel))) rfl
theorem mw_1448 : Cond.codeWith yL_append cL_append 3 (some .int) [(0, 5, 6, 97)] ∈ LW := LWm (tb7 (List.mem_of_getElem? (i := 8) rfl)) rfl
theorem mw_1449 : Cond.classLink RL 97 "java/lang/IllegalStateException" ∈ LW := LWm (tb7 (List.mem_of_getElem? (i := 9) (by decide +kernel))) rfl
theorem mw_1450 : Cond.methodLink RL 93 yX9_append ∈ LW := LWm (tb7 (List.mem_of_getElem? (i := 10) (by decide +kernel))) rfl
theorem mw_1451 : Cond.instanceMethod yX9_append ∈ LW := LWm (tb7 (List.mem_of_getElem? (i := 11) (by decide +kernel))) rfl
theorem mw_1452 : Cond.selects RX9 yX9_append yX9_append ∈ LW := LWm (tb7 (List.mem_of_getElem? (i := 12) (by decide +kernel))) rfl
theorem mw_1453 : Cond.code yX9_append cX9_append 2 (some .int) ∈ LW := LWm (tb7 (List.mem_of_getElem? (i := 13) (by decide +kernel))) rfl
theorem mw_1454 : Cond.methodLinkNest RX9 253 yX8_isFull RX9 ∈ NW := NWm (tb7 (List.mem_of_getElem? (i := 14) (by decide +kernel))) rfl
theorem mw_1456 : Cond.instanceMethod yX8_isFull ∈ LW := LWm (tb7 (List.mem_of_getElem? (i := 16) (by decide +kernel))) rfl
theorem mw_1457 : Cond.code yX8_isFull cX8_isFull 1 (some .boolean) ∈ LW := LWm (tb7 (List.mem_of_getElem? (i := 17) (by decide +kernel))) rfl
theorem mw_1458 : Cond.methodLink RX9 257 yX9_needState ∈ LW := LWm (tb7 (List.mem_of_getElem? (i := 18) (by decide +kernel))) rfl
theorem mw_1459 : Cond.static yX9_needState ∈ LW := LWm (tb7 (List.mem_of_getElem? (i := 19) (by decide +kernel))) rfl
theorem mw_1460 : Cond.code yX9_needState cX9_needState 1 none ∈ LW := LWm (tb7 (List.mem_of_getElem? (i := 20) (by decide +kernel))) rfl
theorem mw_1461 : Cond.classLink RX9 390 "java/lang/IllegalStateException" ∈ LW := LWm (tb7 (List.mem_of_getElem? (i := 21) (by decide +kernel))) rfl
theorem mw_1462 : Cond.instantiable "java/lang/IllegalStateException" 6 ∈ LW := LWm (tb7 (List.mem_of_getElem? (i := 22) (by decide +kernel))) rfl
theorem mw_1463 : Cond.castable "java/lang/IllegalStateException" "java/lang/IllegalStateException" ∈ NW := NWm (tb7 (List.mem_of_getElem? (i := 23) (by decide +kernel))) rfl
theorem mw_1464 : Cond.selects "java/lang/IllegalStateException" ⟨"java/lang/Throwable", "fillInStackTrace", "(I)Ljava/lang/Throwable;"⟩ ⟨"java/lang/Throwable", "fillInStackTrace", "(I)Ljava/lang/Throwable;"⟩ ∈ LW := LWm (tb7 (List.mem_of_getElem? (i := 24) (by decide +kernel))) rfl
theorem mw_1471 : Cond.methodLink RX9 394 ⟨"java/lang/IllegalStateException", "<init>", "(Ljava/lang/String;)V"⟩ ∈ LW := LWm (tb7 (List.mem_of_getElem? (i := 31) (by decide +kernel))) rfl
theorem mw_1472 : Cond.instanceMethod ⟨"java/lang/IllegalStateException", "<init>", "(Ljava/lang/String;)V"⟩ ∈ LW := LWm (tb7 (List.mem_of_getElem? (i := 32) (by decide +kernel))) rfl
theorem mw_1473 : Cond.code ⟨"java/lang/IllegalStateException", "<init>", "(Ljava/lang/String;)V"⟩ prog_24_method_2_code 2 none ∈ LW := LWm (tb7 (List.mem_of_getElem? (i := 33) (by decide +kernel))) rfl
theorem mw_1474 : Cond.methodLink "java/lang/IllegalStateException" 7 ⟨"java/lang/RuntimeException", "<init>", "(Ljava/lang/String;)V"⟩ ∈ LW := LWm (tb7 (List.mem_of_getElem? (i := 34) (by decide +kernel))) rfl
theorem mw_1477 : Cond.arrayClass .long ∈ LW := LWm (tb7 (List.mem_of_getElem? (i := 37) (by decide +kernel))) rfl
theorem mw_1478 : Cond.methodLinkNest RX9 260 yX8_add RX9 ∈ NW := NWm (tb7 (List.mem_of_getElem? (i := 38) (by decide +kernel))) rfl
theorem mw_1480 : Cond.instanceMethod yX8_add ∈ LW := LWm (tb7 (List.mem_of_getElem? (i := 40) (by decide +kernel))) rfl
theorem mw_1481 : Cond.code yX8_add cX8_add 2 (some .int) ∈ LW := LWm (tb7 (List.mem_of_getElem? (i := 41) (by decide +kernel))) rfl
theorem mw_1482 : Cond.methodLink RL 122 yL_runs ∈ LW := LWm (tb7 (List.mem_of_getElem? (i := 42) (by decide +kernel))) rfl
theorem mw_1483 : Cond.static yL_runs ∈ LW := LWm (tb7 (List.mem_of_getElem? (i := 43) (by decide +kernel))) rfl
theorem mw_1484 : Cond.codeWith yL_runs cL_runs 2 (some .int) [(0, 4, 5, 14), (0, 4, 8, 16)] ∈ LW := LWm (tb7 (List.mem_of_getElem? (i := 44) rfl)) rfl
theorem mw_1485 : Cond.methodLink RL 99 yX9_run ∈ LW := LWm (tb7 (List.mem_of_getElem? (i := 45) (by decide +kernel))) rfl
theorem mw_1486 : Cond.instanceMethod yX9_run ∈ LW := LWm (tb7 (List.mem_of_getElem? (i := 46) (by decide +kernel))) rfl
theorem mw_1487 : Cond.selects RX9 yX9_run yX9_run ∈ LW := LWm (tb7 (List.mem_of_getElem? (i := 47) (by decide +kernel))) rfl
theorem mw_1488 : Cond.code yX9_run cX9_run 2 (some .int) ∈ LW := LWm (tb7 (List.mem_of_getElem? (i := 48) (by decide +kernel))) rfl
theorem mw_1489 : Cond.methodLinkNest RX9 264 yX8_read RX9 ∈ NW := NWm (tb7 (List.mem_of_getElem? (i := 49) (by decide +kernel))) rfl
theorem mw_1491 : Cond.instanceMethod yX8_read ∈ LW := LWm (tb7 (List.mem_of_getElem? (i := 51) (by decide +kernel))) rfl
theorem mw_1492 : Cond.code yX8_read cX8_read 2 (some .boolean) ∈ LW := LWm (tb7 (List.mem_of_getElem? (i := 52) (by decide +kernel))) rfl
theorem mw_1493 : Cond.methodLink RX8 42 yX8_readOrders ∈ LW := LWm (tb7 (List.mem_of_getElem? (i := 53) (by decide +kernel))) rfl
theorem mw_1495 : Cond.instanceMethod yX8_readOrders ∈ LW := LWm (tb7 (List.mem_of_getElem? (i := 55) (by decide +kernel))) rfl
theorem mw_1496 : Cond.code yX8_readOrders cX8_readOrders 2 (some .boolean) ∈ LW := LWm (tb7 (List.mem_of_getElem? (i := 56) (by decide +kernel))) rfl
theorem mw_1497 : Cond.methodLink RX8 46 yX8_readOrder ∈ LW := LWm (tb7 (List.mem_of_getElem? (i := 57) (by decide +kernel))) rfl
theorem mw_1499 : Cond.instanceMethod yX8_readOrder ∈ LW := LWm (tb7 (List.mem_of_getElem? (i := 59) (by decide +kernel))) rfl
theorem mw_1500 : Cond.code yX8_readOrder cX8_readOrder 4 (some .boolean) ∈ LW := LWm (tb7 (List.mem_of_getElem? (i := 60) (by decide +kernel))) rfl
theorem mw_1501 : Cond.methodLink RX8 53 yX8_readWord ∈ LW := LWm (tb7 (List.mem_of_getElem? (i := 61) (by decide +kernel))) rfl
theorem mw_1503 : Cond.instanceMethod yX8_readWord ∈ LW := LWm (tb7 (List.mem_of_getElem? (i := 63) (by decide +kernel))) rfl
theorem mw_1504 : Cond.code yX8_readWord cX8_readWord 5 (some (.object "TinRoofScore$Order")) ∈ LW := LWm (tb7 (List.mem_of_getElem? (i := 64) (by decide +kernel))) rfl
theorem mw_1505 : Cond.fieldLinkNest RX8 78 "TinRoofScore" "ORDERS" "[LTinRoofScore$Order;" RX9 ∈ NW := NWm (tb7 (List.mem_of_getElem? (i := 65) (by decide +kernel))) rfl
theorem mw_1507 : Cond.methodLink RX8 84 yX8_lettersOf ∈ LW := LWm (tb7 (List.mem_of_getElem? (i := 67) (by decide +kernel))) rfl
theorem mw_1509 : Cond.instanceMethod yX8_lettersOf ∈ LW := LWm (tb7 (List.mem_of_getElem? (i := 69) (by decide +kernel))) rfl
theorem mw_1510 : Cond.code yX8_lettersOf cX8_lettersOf 3 (some .int) ∈ LW := LWm (tb7 (List.mem_of_getElem? (i := 70) (by decide +kernel))) rfl
theorem mw_1511 : Cond.methodLink RX8 61 yJ0_length_8abf5 ∈ LW := LWm (tb7 (List.mem_of_getElem? (i := 71) (by decide +kernel))) rfl
theorem mw_1512 : Cond.methodLink RX8 66 yJ0_charAt_5068e ∈ LW := LWm (tb7 (List.mem_of_getElem? (i := 72) (by decide +kernel))) rfl
theorem mw_1513 : Cond.methodLink RX8 94 yX8_isSign ∈ LW := LWm (tb7 (List.mem_of_getElem? (i := 73) (by decide +kernel))) rfl
theorem mw_1515 : Cond.instanceMethod yX8_isSign ∈ LW := LWm (tb7 (List.mem_of_getElem? (i := 75) (by decide +kernel))) rfl
theorem mw_1516 : Cond.code yX8_isSign cX8_isSign 3 (some .boolean) ∈ LW := LWm (tb7 (List.mem_of_getElem? (i := 76) (by decide +kernel))) rfl
theorem mw_1517 : Cond.methodLink RX8 88 yJ9_max_7cf53 ∈ LW := LWm (tb7 (List.mem_of_getElem? (i := 77) (by decide +kernel))) rfl
theorem mw_1518 : Cond.methodLink RX8 49 yX8_take ∈ LW := LWm (tb7 (List.mem_of_getElem? (i := 78) (by decide +kernel))) rfl
theorem mw_1520 : Cond.instanceMethod yX8_take ∈ LW := LWm (tb7 (List.mem_of_getElem? (i := 80) (by decide +kernel))) rfl
theorem mw_1521 : Cond.code yX8_take cX8_take 2 (some .boolean) ∈ LW := LWm (tb7 (List.mem_of_getElem? (i := 81) (by decide +kernel))) rfl
theorem mw_1522 : Cond.methodLink RX8 70 yX8_readNumber ∈ LW := LWm (tb7 (List.mem_of_getElem? (i := 82) (by decide +kernel))) rfl
theorem mw_1524 : Cond.instanceMethod yX8_readNumber ∈ LW := LWm (tb7 (List.mem_of_getElem? (i := 84) (by decide +kernel))) rfl
theorem mw_1525 : Cond.code yX8_readNumber cX8_readNumber 4 (some .int) ∈ LW := LWm (tb7 (List.mem_of_getElem? (i := 85) (by decide +kernel))) rfl
theorem mw_1526 : Cond.methodLink RX8 98 yX8_readDigit ∈ LW := LWm (tb7 (List.mem_of_getElem? (i := 86) (by decide +kernel))) rfl
theorem mw_1528 : Cond.instanceMethod yX8_readDigit ∈ LW := LWm (tb7 (List.mem_of_getElem? (i := 88) (by decide +kernel))) rfl
theorem mw_1529 : Cond.code yX8_readDigit cX8_readDigit 3 (some .int) ∈ LW := LWm (tb7 (List.mem_of_getElem? (i := 89) (by decide +kernel))) rfl
theorem mw_1530 : Cond.methodLinkNest RX8 101 yX9_isWithin RX9 ∈ NW := NWm (tb7 (List.mem_of_getElem? (i := 90) (by decide +kernel))) rfl
theorem mw_1531 : Cond.methodLinkNest RX8 74 yX9_put RX9 ∈ NW := NWm (tb7 (List.mem_of_getElem? (i := 91) (by decide +kernel))) rfl
theorem mw_1532 : Cond.methodLinkNest RX9 267 yX5_become RX9 ∈ NW := NWm (tb7 (List.mem_of_getElem? (i := 92) (by decide +kernel))) rfl
theorem mw_1533 : Cond.methodLink RX9 270 yX9_carryOutText ∈ LW := LWm (tb7 (List.mem_of_getElem? (i := 93) (by decide +kernel))) rfl
theorem mw_1535 : Cond.instanceMethod yX9_carryOutText ∈ LW := LWm (tb7 (List.mem_of_getElem? (i := 95) (by decide +kernel))) rfl
theorem mw_1536 : Cond.code yX9_carryOutText cX9_carryOutText 7 (some .int) ∈ LW := LWm (tb7 (List.mem_of_getElem? (i := 96) (by decide +kernel))) rfl
theorem mw_1537 : Cond.methodLinkNest RX9 279 yX8_countOfOrders RX9 ∈ NW := NWm (tb7 (List.mem_of_getElem? (i := 97) (by decide +kernel))) rfl
theorem mw_1539 : Cond.instanceMethod yX8_countOfOrders ∈ LW := LWm (tb7 (List.mem_of_getElem? (i := 99) (by decide +kernel))) rfl
theorem mw_1540 : Cond.code yX8_countOfOrders cX8_countOfOrders 1 (some .int) ∈ LW := LWm (tb7 (List.mem_of_getElem? (i := 100) (by decide +kernel))) rfl
theorem mw_1541 : Cond.methodLinkNest RX9 363 yX8_orderAt RX9 ∈ NW := NWm (tb7 (List.mem_of_getElem? (i := 101) (by decide +kernel))) rfl
theorem mw_1543 : Cond.instanceMethod yX8_orderAt ∈ LW := LWm (tb7 (List.mem_of_getElem? (i := 103) (by decide +kernel))) rfl
theorem mw_1544 : Cond.code yX8_orderAt cX8_orderAt 2 (some (.object "TinRoofScore$Order")) ∈ LW := LWm (tb7 (List.mem_of_getElem? (i := 104) (by decide +kernel))) rfl
theorem mw_1545 : Cond.methodLinkNest RX9 367 yX8_numberAt RX9 ∈ NW := NWm (tb7 (List.mem_of_getElem? (i := 105) (by decide +kernel))) rfl
theorem mw_1547 : Cond.instanceMethod yX8_numberAt ∈ LW := LWm (tb7 (List.mem_of_getElem? (i := 107) (by decide +kernel))) rfl
theorem mw_1548 : Cond.code yX8_numberAt cX8_numberAt 3 (some .int) ∈ LW := LWm (tb7 (List.mem_of_getElem? (i := 108) (by decide +kernel))) rfl
theorem mw_1549 : Cond.methodLinkNest RX8 38 yX9_cell RX9 ∈ NW := NWm (tb7 (List.mem_of_getElem? (i := 109) (by decide +kernel))) rfl
theorem mw_1550 : Cond.methodLink RL 327 yL_undo ∈ LW := LWm (tb7 (List.mem_of_getElem? (i := 110) (by decide +kernel))) rfl
theorem mw_1551 : Cond.static yL_undo ∈ LW := LWm (tb7 (List.mem_of_getElem? (i := 111) (by decide +kernel))) rfl
theorem mw_1552 : Cond.codeWith yL_undo cL_undo 2 (some .int) [(0, 4, 5, 97)] ∈ LW := LWm (tb7 (List.mem_of_getElem? (i := 112) rfl)) rfl
theorem mw_1553 : Cond.methodLink RL 106 yX9_undo ∈ LW := LWm (tb7 (List.mem_of_getElem? (i := 113) (by decide +kernel))) rfl
theorem mw_1554 : Cond.instanceMethod yX9_undo ∈ LW := LWm (tb7 (List.mem_of_getElem? (i := 114) (by decide +kernel))) rfl
theorem mw_1555 : Cond.selects RX9 yX9_undo yX9_undo ∈ LW := LWm (tb7 (List.mem_of_getElem? (i := 115) (by decide +kernel))) rfl
theorem mw_1556 : Cond.code yX9_undo cX9_undo 1 (some .int) ∈ LW := LWm (tb7 (List.mem_of_getElem? (i := 116) (by decide +kernel))) rfl
theorem mw_1557 : Cond.methodLinkNest RX9 351 yX0_takeBack RX9 ∈ NW := NWm (tb7 (List.mem_of_getElem? (i := 117) (by decide +kernel))) rfl
theorem mw_1559 : Cond.instanceMethod yX0_takeBack ∈ LW := LWm (tb7 (List.mem_of_getElem? (i := 119) (by decide +kernel))) rfl
theorem mw_1560 : Cond.code yX0_takeBack cX0_takeBack 4 none ∈ LW := LWm (tb7 (List.mem_of_getElem? (i := 120) (by decide +kernel))) rfl
theorem mw_1571 : Cond.castable "java/lang/ArrayIndexOutOfBoundsException" "java/lang/IndexOutOfBoundsException" ∈ NW := NWm (tb7 (List.mem_of_getElem? (i := 131) (by decide +kernel))) rfl
theorem mw_1572 : Cond.castable "TinRoofScore" "java/lang/Object" ∈ NW := NWm (tb7 (List.mem_of_getElem? (i := 132) (by decide +kernel))) rfl
theorem mw_1573 : Cond.castable "TinRoofScore$Print" "java/lang/Object" ∈ NW := NWm (tb7 (List.mem_of_getElem? (i := 133) (by decide +kernel))) rfl
theorem mw_1574 : Cond.castable "TinRoofScore$Judge" "java/lang/Object" ∈ NW := NWm (tb7 (List.mem_of_getElem? (i := 134) (by decide +kernel))) rfl
theorem mw_1575 : Cond.castable "TinRoofScore$Proof" "java/lang/Object" ∈ NW := NWm (tb7 (List.mem_of_getElem? (i := 135) (by decide +kernel))) rfl
theorem mw_1576 : Cond.castable "TinRoofScore$Melody" "java/lang/Object" ∈ NW := NWm (tb7 (List.mem_of_getElem? (i := 136) (by decide +kernel))) rfl
theorem mw_1577 : Cond.castable "TinRoofScore$Ranking" "java/lang/Object" ∈ NW := NWm (tb7 (List.mem_of_getElem? (i := 137) (by decide +kernel))) rfl
theorem mw_1578 : Cond.castable "TinRoofScore$Line" "java/lang/Object" ∈ NW := NWm (tb7 (List.mem_of_getElem? (i := 138) (by decide +kernel))) rfl
theorem mw_1579 : Cond.castable "TinRoofScore$Text" "java/lang/Object" ∈ NW := NWm (tb7 (List.mem_of_getElem? (i := 139) (by decide +kernel))) rfl
theorem mw_1580 : Cond.castable "TinRoofScore$History" "java/lang/Object" ∈ NW := NWm (tb7 (List.mem_of_getElem? (i := 140) (by decide +kernel))) rfl
theorem mw_1581 : Cond.castable "TinRoofScore$Order" "java/lang/Object" ∈ NW := NWm (tb7 (List.mem_of_getElem? (i := 141) (by decide +kernel))) rfl
theorem mw_1582 : Cond.castable "java/lang/IndexOutOfBoundsException" "java/lang/Object" ∈ NW := NWm (tb7 (List.mem_of_getElem? (i := 142) (by decide +kernel))) rfl
theorem mw_1583 : Cond.castable "java/lang/IllegalArgumentException" "java/lang/Object" ∈ NW := NWm (tb7 (List.mem_of_getElem? (i := 143) (by decide +kernel))) rfl
theorem mw_1584 : Cond.castable "java/lang/UnsupportedOperationException" "java/lang/Object" ∈ NW := NWm (tb7 (List.mem_of_getElem? (i := 144) (by decide +kernel))) rfl
theorem mw_1585 : Cond.castable "java/lang/ArrayIndexOutOfBoundsException" "java/lang/Object" ∈ NW := NWm (tb7 (List.mem_of_getElem? (i := 145) (by decide +kernel))) rfl
theorem mw_1586 : Cond.castable "java/util/NoSuchElementException" "java/lang/Object" ∈ NW := NWm (tb7 (List.mem_of_getElem? (i := 146) (by decide +kernel))) rfl
theorem mw_1587 : Cond.castable "java/lang/ArithmeticException" "java/lang/Object" ∈ NW := NWm (tb7 (List.mem_of_getElem? (i := 147) (by decide +kernel))) rfl
theorem mw_1588 : Cond.castable "java/lang/StringBuilder" "java/lang/Object" ∈ NW := NWm (tb7 (List.mem_of_getElem? (i := 148) (by decide +kernel))) rfl
theorem mw_1589 : Cond.castable "java/lang/String" "java/lang/Object" ∈ NW := NWm (tb7 (List.mem_of_getElem? (i := 149) (by decide +kernel))) rfl
theorem mw_1590 : Cond.castable "java/lang/IllegalStateException" "java/lang/Object" ∈ NW := NWm (tb7 (List.mem_of_getElem? (i := 150) (by decide +kernel))) rfl
theorem mw_1591 : Cond.castable "java/lang/Throwable" "java/lang/Object" ∈ NW := NWm (tb7 (List.mem_of_getElem? (i := 151) (by decide +kernel))) rfl
theorem mw_1592 : Cond.fieldLinkNest RX8 81 "TinRoofScore$Order" "word" "Ljava/lang/String;" RX9 ∈ NW := NWm (tb7 (List.mem_of_getElem? (i := 152) (by decide +kernel))) rfl
theorem mw_1593 : Cond.fieldLinkNest RX8 57 "TinRoofScore$Order" "digits" "Ljava/lang/String;" RX9 ∈ NW := NWm (tb7 (List.mem_of_getElem? (i := 153) (by decide +kernel))) rfl
theorem k_X0_countOfChanges : CKV yX0_countOfChanges cX0_countOfChanges 1 (some .int) 0 := ⟨mw_671, LWs (q := (yX0_countOfChanges, 3)) (List.mem_append_right _ (List.mem_append_right _ (List.mem_append_left _ (List.mem_of_getElem? (i := 14) rfl)))) rfl, mw_9, mw_672, by decide +kernel⟩
theorem k_X0_keep : CKV yX0_keep cX0_keep 3 none 1 := ⟨mw_476, LWs (q := (yX0_keep, 3)) (List.mem_append_right _ (List.mem_append_left _ (List.mem_of_getElem? (i := 7) rfl))) rfl, mw_9, mw_477, by decide +kernel⟩
theorem k_X0_takeBack : CKV yX0_takeBack cX0_takeBack 4 none 1 := ⟨mw_1559, LWs (q := (yX0_takeBack, 3)) (List.mem_append_right _ (List.mem_append_right _ (List.mem_append_right _ (List.mem_append_right _ (List.mem_append_right _ (List.mem_append_right _ (List.mem_append_right _ (List.mem_of_getElem? (i := 1) rfl)))))))) rfl, mw_9, mw_1560, by decide +kernel⟩
theorem k_X0_pageAt : CKV yX0_pageAt cX0_pageAt 2 (some (.object "TinRoofScore$Print")) 1 := ⟨mw_480, LWs (q := (yX0_pageAt, 3)) (List.mem_append_right _ (List.mem_append_left _ (List.mem_of_getElem? (i := 8) rfl))) rfl, mw_9, mw_481, by decide +kernel⟩
theorem k_X1_hasRefused : CKV yX1_hasRefused cX1_hasRefused 1 (some .boolean) 0 := ⟨mw_592, LWs (q := (yX1_hasRefused, 3)) (List.mem_append_right _ (List.mem_append_right _ (List.mem_append_left _ (List.mem_of_getElem? (i := 2) rfl)))) rfl, mw_3, mw_593, by decide +kernel⟩
theorem k_X1_latestReason : CKV yX1_latestReason cX1_latestReason 1 (some .int) 0 := ⟨mw_619, LWs (q := (yX1_latestReason, 3)) (List.mem_append_right _ (List.mem_append_right _ (List.mem_append_left _ (List.mem_of_getElem? (i := 4) rfl)))) rfl, mw_3, mw_620, by decide +kernel⟩
theorem k_X1_latestDetail : CKV yX1_latestDetail cX1_latestDetail 1 (some .int) 0 := ⟨mw_615, LWs (q := (yX1_latestDetail, 3)) (List.mem_append_right _ (List.mem_append_right _ (List.mem_append_left _ (List.mem_of_getElem? (i := 3) rfl)))) rfl, mw_3, mw_616, by decide +kernel⟩
theorem k_X1_refuse : CKV yX1_refuse cX1_refuse 3 (some .int) 2 := ⟨mw_269, LWs (q := (yX1_refuse, 3)) (List.mem_append_left _ (List.mem_of_getElem? (i := 4) rfl)) rfl, mw_3, mw_270, by decide +kernel⟩
theorem k_X1_verdict : CKV yX1_verdict cX1_verdict 5 (some .int) 4 := ⟨mw_253, LWs (q := (yX1_verdict, 3)) (List.mem_append_left _ (List.mem_of_getElem? (i := 1) rfl)) rfl, mw_3, mw_254, by decide +kernel⟩
theorem k_X1_verdictOnBar : CKV yX1_verdictOnBar cX1_verdictOnBar 2 (some .int) 1 := ⟨mw_258, LWs (q := (yX1_verdictOnBar, 3)) (List.mem_append_left _ (List.mem_of_getElem? (i := 2) rfl)) rfl, mw_3, mw_259, by decide +kernel⟩
theorem k_X1_verdictOnTin : CKV yX1_verdictOnTin cX1_verdictOnTin 5 (some .int) 4 := ⟨mw_282, LWs (q := (yX1_verdictOnTin, 3)) (List.mem_append_left _ (List.mem_of_getElem? (i := 6) rfl)) rfl, mw_3, mw_283, by decide +kernel⟩
theorem k_X1_verdictOnDrop : CKV yX1_verdictOnDrop cX1_verdictOnDrop 4 (some .int) 3 := ⟨mw_298, LWs (q := (yX1_verdictOnDrop, 3)) (List.mem_append_left _ (List.mem_of_getElem? (i := 8) rfl)) rfl, mw_3, mw_299, by decide +kernel⟩
theorem k_X1_verdictOnRest : CKV yX1_verdictOnRest cX1_verdictOnRest 2 (some .int) 1 := ⟨mw_324, LWs (q := (yX1_verdictOnRest, 3)) (List.mem_append_left _ (List.mem_of_getElem? (i := 14) rfl)) rfl, mw_3, mw_325, by decide +kernel⟩
theorem k_X1_verdictOnRoom : CKV yX1_verdictOnRoom cX1_verdictOnRoom 3 (some .int) 1 := ⟨mw_302, LWs (q := (yX1_verdictOnRoom, 3)) (List.mem_append_left _ (List.mem_of_getElem? (i := 9) rfl)) rfl, mw_3, mw_303, by decide +kernel⟩
theorem k_X1_verdictOnLimit : CKV yX1_verdictOnLimit cX1_verdictOnLimit 2 (some .int) 1 := ⟨mw_332, LWs (q := (yX1_verdictOnLimit, 3)) (List.mem_append_left _ (List.mem_of_getElem? (i := 15) rfl)) rfl, mw_3, mw_333, by decide +kernel⟩
theorem k_X1_verdictOnTune : CKV yX1_verdictOnTune cX1_verdictOnTune 3 (some .int) 2 := ⟨mw_342, LWs (q := (yX1_verdictOnTune, 3)) (List.mem_append_right _ (List.mem_append_left _ (List.mem_of_getElem? (i := 1) rfl))) rfl, mw_3, mw_343, by decide +kernel⟩
theorem k_X1_carryOut : CKV yX1_carryOut cX1_carryOut 5 (some .int) 4 := ⟨mw_498, LWs (q := (yX1_carryOut, 3)) (List.mem_append_right _ (List.mem_append_left _ (List.mem_of_getElem? (i := 10) rfl))) rfl, mw_3, mw_499, by decide +kernel⟩
theorem k_X2_hasSign : CKV yX2_hasSign cX2_hasSign 2 (some .boolean) 1 := ⟨mw_1375, LWs (q := (yX2_hasSign, 3)) (List.mem_append_right _ (List.mem_append_right _ (List.mem_append_right _ (List.mem_append_right _ (List.mem_append_right _ (List.mem_append_left _ (List.mem_of_getElem? (i := 15) rfl))))))) rfl, mw_7, mw_1376, by decide +kernel⟩
theorem k_X2_signAt : CKV yX2_signAt cX2_signAt 2 (some .char) 1 := ⟨mw_1380, LWs (q := (yX2_signAt, 3)) (List.mem_append_right _ (List.mem_append_right _ (List.mem_append_right _ (List.mem_append_right _ (List.mem_append_right _ (List.mem_append_right _ (List.mem_append_left _ (List.mem_of_getElem? (i := 0) rfl)))))))) rfl, mw_7, mw_1381, by decide +kernel⟩
theorem k_X2_writeBar : CKV yX2_writeBar cX2_writeBar 3 (some .int) 1 := ⟨mw_1340, LWs (q := (yX2_writeBar, 3)) (List.mem_append_right _ (List.mem_append_right _ (List.mem_append_right _ (List.mem_append_right _ (List.mem_append_right _ (List.mem_append_left _ (List.mem_of_getElem? (i := 11) rfl))))))) rfl, mw_7, mw_1341, by decide +kernel⟩
theorem k_X2_addPart : CKV yX2_addPart cX2_addPart 3 none 2 := ⟨mw_1346, LWs (q := (yX2_addPart, 3)) (List.mem_append_right _ (List.mem_append_right _ (List.mem_append_right _ (List.mem_append_right _ (List.mem_append_right _ (List.mem_append_left _ (List.mem_of_getElem? (i := 12) rfl))))))) rfl, mw_7, mw_1347, by decide +kernel⟩
theorem k_X2_writeTin : CKV yX2_writeTin cX2_writeTin 2 (some .int) 1 := ⟨mw_1406, LWs (q := (yX2_writeTin, 3)) (List.mem_append_right _ (List.mem_append_right _ (List.mem_append_right _ (List.mem_append_right _ (List.mem_append_right _ (List.mem_append_right _ (List.mem_append_left _ (List.mem_of_getElem? (i := 1) rfl)))))))) rfl, mw_7, mw_1407, by decide +kernel⟩
theorem k_X2_addNumber : CKV yX2_addNumber cX2_addNumber 2 none 1 := ⟨mw_1357, LWs (q := (yX2_addNumber, 3)) (List.mem_append_right _ (List.mem_append_right _ (List.mem_append_right _ (List.mem_append_right _ (List.mem_append_right _ (List.mem_append_left _ (List.mem_of_getElem? (i := 14) rfl))))))) rfl, mw_7, mw_1358, by decide +kernel⟩
theorem k_X2_addSign : CKV yX2_addSign cX2_addSign 2 none 1 := ⟨mw_1351, LWs (q := (yX2_addSign, 3)) (List.mem_append_right _ (List.mem_append_right _ (List.mem_append_right _ (List.mem_append_right _ (List.mem_append_right _ (List.mem_append_left _ (List.mem_of_getElem? (i := 13) rfl))))))) rfl, mw_7, mw_1352, by decide +kernel⟩
theorem k_X3_way : CKV yX3_way cX3_way 3 (some .int) 0 := ⟨mw_924, LWs (q := (yX3_way, 1)) (List.mem_append_right _ (List.mem_append_right _ (List.mem_append_right _ (List.mem_append_right _ (List.mem_append_left _ (List.mem_of_getElem? (i := 10) rfl)))))) rfl, mw_5, mw_925, by decide +kernel⟩
theorem k_X3_wayBySteps : CKV yX3_wayBySteps cX3_wayBySteps 3 (some .int) 0 := ⟨mw_937, LWs (q := (yX3_wayBySteps, 1)) (List.mem_append_right _ (List.mem_append_right _ (List.mem_append_right _ (List.mem_append_right _ (List.mem_append_left _ (List.mem_of_getElem? (i := 12) rfl)))))) rfl, mw_5, mw_938, by decide +kernel⟩
theorem k_X3_timesOver : CKV yX3_timesOver cX3_timesOver 6 (some .int) 1 := ⟨mw_941, LWs (q := (yX3_timesOver, 1)) (List.mem_append_right _ (List.mem_append_right _ (List.mem_append_right _ (List.mem_append_right _ (List.mem_append_left _ (List.mem_of_getElem? (i := 13) rfl)))))) rfl, mw_5, mw_942, by decide +kernel⟩
theorem k_X3_riseTo : CKV yX3_riseTo cX3_riseTo 3 (some .int) 1 := ⟨mw_929, LWs (q := (yX3_riseTo, 1)) (List.mem_append_right _ (List.mem_append_right _ (List.mem_append_right _ (List.mem_append_right _ (List.mem_append_left _ (List.mem_of_getElem? (i := 11) rfl)))))) rfl, mw_5, mw_930, by decide +kernel⟩
theorem k_X3_moves : CKV yX3_moves cX3_moves 5 (some .int) 1 := ⟨mw_964, LWs (q := (yX3_moves, 1)) (List.mem_append_right _ (List.mem_append_right _ (List.mem_append_right _ (List.mem_append_right _ (List.mem_append_right _ (List.mem_append_left _ (List.mem_of_getElem? (i := 0) rfl))))))) rfl, mw_5, mw_965, by decide +kernel⟩
theorem k_X3_width : CKV yX3_width cX3_width 5 (some .int) 0 := ⟨mw_972, LWs (q := (yX3_width, 1)) (List.mem_append_right _ (List.mem_append_right _ (List.mem_append_right _ (List.mem_append_right _ (List.mem_append_right _ (List.mem_append_left _ (List.mem_of_getElem? (i := 1) rfl))))))) rfl, mw_5, mw_973, by decide +kernel⟩
theorem k_X3_dropsAt : CKV yX3_dropsAt cX3_dropsAt 4 (some .int) 1 := ⟨mw_1014, LWs (q := (yX3_dropsAt, 1)) (List.mem_append_right _ (List.mem_append_right _ (List.mem_append_right _ (List.mem_append_right _ (List.mem_append_right _ (List.mem_append_left _ (List.mem_of_getElem? (i := 4) rfl))))))) rfl, mw_5, mw_1015, by decide +kernel⟩
theorem k_X3_countOfDrops : CKV yX3_countOfDrops cX3_countOfDrops 1 (some .int) 0 := ⟨mw_982, LWs (q := (yX3_countOfDrops, 1)) (List.mem_append_right _ (List.mem_append_right _ (List.mem_append_right _ (List.mem_append_right _ (List.mem_append_right _ (List.mem_append_left _ (List.mem_of_getElem? (i := 2) rfl))))))) rfl, mw_5, mw_983, by decide +kernel⟩
theorem k_X3_sumOfPitches : CKV yX3_sumOfPitches cX3_sumOfPitches 3 (some .int) 0 := ⟨mw_1003, LWs (q := (yX3_sumOfPitches, 1)) (List.mem_append_right _ (List.mem_append_right _ (List.mem_append_right _ (List.mem_append_right _ (List.mem_append_right _ (List.mem_append_left _ (List.mem_of_getElem? (i := 3) rfl))))))) rfl, mw_5, mw_1004, by decide +kernel⟩
theorem k_X5_become : CKV yX5_become cX5_become 2 none 1 := ⟨mw_484, LWs (q := (yX5_become, 11)) (List.mem_append_right _ (List.mem_append_left _ (List.mem_of_getElem? (i := 9) rfl))) rfl, mw_2, mw_485, by decide +kernel⟩
theorem k_X5_addBar : CKV yX5_addBar cX5_addBar 2 (some .int) 1 := ⟨mw_502, LWs (q := (yX5_addBar, 11)) (List.mem_append_right _ (List.mem_append_left _ (List.mem_of_getElem? (i := 11) rfl))) rfl, mw_2, mw_503, by decide +kernel⟩
theorem k_X5_addSound : CKV yX5_addSound cX5_addSound 4 (some .int) 3 := ⟨mw_515, LWs (q := (yX5_addSound, 11)) (List.mem_append_right _ (List.mem_append_left _ (List.mem_of_getElem? (i := 14) rfl))) rfl, mw_2, mw_516, by decide +kernel⟩
theorem k_X5_takeLast : CKV yX5_takeLast cX5_takeLast 1 (some .int) 0 := ⟨mw_519, LWs (q := (yX5_takeLast, 11)) (List.mem_append_right _ (List.mem_append_left _ (List.mem_of_getElem? (i := 15) rfl))) rfl, mw_2, mw_520, by decide +kernel⟩
theorem k_X5_setKey : CKV yX5_setKey cX5_setKey 4 (some .int) 2 := ⟨mw_507, LWs (q := (yX5_setKey, 11)) (List.mem_append_right _ (List.mem_append_left _ (List.mem_of_getElem? (i := 12) rfl))) rfl, mw_2, mw_508, by decide +kernel⟩
theorem k_X5_setLeak : CKV yX5_setLeak cX5_setLeak 4 (some .int) 2 := ⟨mw_511, LWs (q := (yX5_setLeak, 11)) (List.mem_append_right _ (List.mem_append_left _ (List.mem_of_getElem? (i := 13) rfl))) rfl, mw_2, mw_512, by decide +kernel⟩
theorem k_X5_setHeight : CKV yX5_setHeight cX5_setHeight 4 (some .int) 2 := ⟨mw_527, LWs (q := (yX5_setHeight, 11)) (List.mem_append_right _ (List.mem_append_right _ (List.mem_append_left _ (List.mem_of_getElem? (i := 1) rfl)))) rfl, mw_2, mw_528, by decide +kernel⟩
theorem k_X5_setFarthest : CKV yX5_setFarthest cX5_setFarthest 3 (some .int) 1 := ⟨mw_523, LWs (q := (yX5_setFarthest, 11)) (List.mem_append_right _ (List.mem_append_right _ (List.mem_append_left _ (List.mem_of_getElem? (i := 0) rfl)))) rfl, mw_2, mw_524, by decide +kernel⟩
theorem k_X5_countOfBars : CKV yX5_countOfBars cX5_countOfBars 1 (some .int) 0 := ⟨mw_265, LWs (q := (yX5_countOfBars, 11)) (List.mem_append_left _ (List.mem_of_getElem? (i := 3) rfl)) rfl, mw_2, mw_266, by decide +kernel⟩
theorem k_X5_countOfSounds : CKV yX5_countOfSounds cX5_countOfSounds 1 (some .int) 0 := ⟨mw_306, LWs (q := (yX5_countOfSounds, 11)) (List.mem_append_left _ (List.mem_of_getElem? (i := 10) rfl)) rfl, mw_2, mw_307, by decide +kernel⟩
theorem k_X5_limitNow : CKV yX5_limitNow cX5_limitNow 1 (some .int) 0 := ⟨mw_336, LWs (q := (yX5_limitNow, 11)) (List.mem_append_right _ (List.mem_append_left _ (List.mem_of_getElem? (i := 0) rfl))) rfl, mw_2, mw_337, by decide +kernel⟩
theorem k_X5_setSoFar : CKV yX5_setSoFar cX5_setSoFar 1 (some .int) 0 := ⟨mw_659, LWs (q := (yX5_setSoFar, 11)) (List.mem_append_right _ (List.mem_append_right _ (List.mem_append_left _ (List.mem_of_getElem? (i := 11) rfl)))) rfl, mw_2, mw_660, by decide +kernel⟩
theorem k_X5_takenSoFar : CKV yX5_takenSoFar cX5_takenSoFar 1 (some .int) 0 := ⟨mw_663, LWs (q := (yX5_takenSoFar, 11)) (List.mem_append_right _ (List.mem_append_right _ (List.mem_append_left _ (List.mem_of_getElem? (i := 12) rfl)))) rfl, mw_2, mw_664, by decide +kernel⟩
theorem k_X5_hasBar : CKV yX5_hasBar cX5_hasBar 2 (some .boolean) 1 := ⟨mw_744, LWs (q := (yX5_hasBar, 11)) (List.mem_append_right _ (List.mem_append_right _ (List.mem_append_right _ (List.mem_append_left _ (List.mem_of_getElem? (i := 5) rfl))))) rfl, mw_2, mw_745, by decide +kernel⟩
theorem k_X5_hasSound : CKV yX5_hasSound cX5_hasSound 2 (some .boolean) 1 := ⟨mw_346, LWs (q := (yX5_hasSound, 11)) (List.mem_append_right _ (List.mem_append_left _ (List.mem_of_getElem? (i := 2) rfl))) rfl, mw_2, mw_347, by decide +kernel⟩
theorem k_X5_keyOf : CKV yX5_keyOf cX5_keyOf 2 (some .int) 1 := ⟨mw_275, LWs (q := (yX5_keyOf, 11)) (List.mem_append_left _ (List.mem_of_getElem? (i := 5) rfl)) rfl, mw_2, mw_276, by decide +kernel⟩
theorem k_X5_leakOf : CKV yX5_leakOf cX5_leakOf 2 (some .int) 1 := ⟨mw_292, LWs (q := (yX5_leakOf, 11)) (List.mem_append_left _ (List.mem_of_getElem? (i := 7) rfl)) rfl, mw_2, mw_293, by decide +kernel⟩
theorem k_X5_sizeOf : CKV yX5_sizeOf cX5_sizeOf 2 (some .int) 1 := ⟨mw_748, LWs (q := (yX5_sizeOf, 11)) (List.mem_append_right _ (List.mem_append_right _ (List.mem_append_right _ (List.mem_append_left _ (List.mem_of_getElem? (i := 6) rfl))))) rfl, mw_2, mw_749, by decide +kernel⟩
theorem k_X5_tinOfSound : CKV yX5_tinOfSound cX5_tinOfSound 2 (some .int) 1 := ⟨mw_699, LWs (q := (yX5_tinOfSound, 11)) (List.mem_append_right _ (List.mem_append_right _ (List.mem_append_left _ (List.mem_of_getElem? (i := 15) rfl)))) rfl, mw_2, mw_700, by decide +kernel⟩
theorem k_X5_heightOf : CKV yX5_heightOf cX5_heightOf 2 (some .int) 1 := ⟨mw_359, LWs (q := (yX5_heightOf, 11)) (List.mem_append_right _ (List.mem_append_left _ (List.mem_of_getElem? (i := 5) rfl))) rfl, mw_2, mw_360, by decide +kernel⟩
theorem k_X5_beatsOf : CKV yX5_beatsOf cX5_beatsOf 2 (some .int) 1 := ⟨mw_355, LWs (q := (yX5_beatsOf, 11)) (List.mem_append_right _ (List.mem_append_left _ (List.mem_of_getElem? (i := 4) rfl))) rfl, mw_2, mw_356, by decide +kernel⟩
theorem k_X5_isRest : CKV yX5_isRest cX5_isRest 2 (some .boolean) 1 := ⟨mw_351, LWs (q := (yX5_isRest, 11)) (List.mem_append_right _ (List.mem_append_left _ (List.mem_of_getElem? (i := 3) rfl))) rfl, mw_2, mw_352, by decide +kernel⟩
theorem k_X5_pitchOf : CKV yX5_pitchOf cX5_pitchOf 4 (some .int) 1 := ⟨mw_705, LWs (q := (yX5_pitchOf, 11)) (List.mem_append_right _ (List.mem_append_right _ (List.mem_append_right _ (List.mem_append_left _ (List.mem_of_getElem? (i := 0) rfl))))) rfl, mw_2, mw_706, by decide +kernel⟩
theorem k_X5_dropAhead : CKV yX5_dropAhead cX5_dropAhead 3 (some .int) 1 := ⟨mw_862, LWs (q := (yX5_dropAhead, 11)) (List.mem_append_right _ (List.mem_append_right _ (List.mem_append_right _ (List.mem_append_right _ (List.mem_append_left _ (List.mem_of_getElem? (i := 4) rfl)))))) rfl, mw_2, mw_863, by decide +kernel⟩
theorem k_X5_countOfRests : CKV yX5_countOfRests cX5_countOfRests 3 (some .int) 0 := ⟨mw_637, LWs (q := (yX5_countOfRests, 11)) (List.mem_append_right _ (List.mem_append_right _ (List.mem_append_left _ (List.mem_of_getElem? (i := 7) rfl)))) rfl, mw_2, mw_638, by decide +kernel⟩
theorem k_X5_countOfTin : CKV yX5_countOfTin cX5_countOfTin 5 (some .int) 2 := ⟨mw_729, LWs (q := (yX5_countOfTin, 11)) (List.mem_append_right _ (List.mem_append_right _ (List.mem_append_right _ (List.mem_append_left _ (List.mem_of_getElem? (i := 3) rfl))))) rfl, mw_2, mw_730, by decide +kernel⟩
theorem k_X5_beatsOfTin : CKV yX5_beatsOfTin cX5_beatsOfTin 4 (some .int) 1 := ⟨mw_733, LWs (q := (yX5_beatsOfTin, 11)) (List.mem_append_right _ (List.mem_append_right _ (List.mem_append_right _ (List.mem_append_left _ (List.mem_of_getElem? (i := 4) rfl))))) rfl, mw_2, mw_734, by decide +kernel⟩
theorem k_X5_startOfBar : CKV yX5_startOfBar cX5_startOfBar 4 (some .int) 1 := ⟨mw_314, LWs (q := (yX5_startOfBar, 11)) (List.mem_append_left _ (List.mem_of_getElem? (i := 12) rfl)) rfl, mw_2, mw_315, by decide +kernel⟩
theorem k_X5_startOfSound : CKV yX5_startOfSound cX5_startOfSound 4 (some .int) 1 := ⟨mw_318, LWs (q := (yX5_startOfSound, 11)) (List.mem_append_left _ (List.mem_of_getElem? (i := 13) rfl)) rfl, mw_2, mw_319, by decide +kernel⟩
theorem k_X5_allBeats : CKV yX5_allBeats cX5_allBeats 1 (some .int) 0 := ⟨mw_628, LWs (q := (yX5_allBeats, 11)) (List.mem_append_right _ (List.mem_append_right _ (List.mem_append_left _ (List.mem_of_getElem? (i := 5) rfl)))) rfl, mw_2, mw_629, by decide +kernel⟩
theorem k_X5_filledBeats : CKV yX5_filledBeats cX5_filledBeats 1 (some .int) 0 := ⟨mw_632, LWs (q := (yX5_filledBeats, 11)) (List.mem_append_right _ (List.mem_append_right _ (List.mem_append_left _ (List.mem_of_getElem? (i := 6) rfl)))) rfl, mw_2, mw_633, by decide +kernel⟩
theorem k_X5_freeBeats : CKV yX5_freeBeats cX5_freeBeats 1 (some .int) 0 := ⟨mw_310, LWs (q := (yX5_freeBeats, 11)) (List.mem_append_left _ (List.mem_of_getElem? (i := 11) rfl)) rfl, mw_2, mw_311, by decide +kernel⟩
theorem k_X5_barAt : CKV yX5_barAt cX5_barAt 4 (some .int) 1 := ⟨mw_713, LWs (q := (yX5_barAt, 11)) (List.mem_append_right _ (List.mem_append_right _ (List.mem_append_right _ (List.mem_append_left _ (List.mem_of_getElem? (i := 2) rfl))))) rfl, mw_2, mw_714, by decide +kernel⟩
theorem k_X5_soundAt : CKV yX5_soundAt cX5_soundAt 4 (some .int) 1 := ⟨mw_788, LWs (q := (yX5_soundAt, 11)) (List.mem_append_right _ (List.mem_append_right _ (List.mem_append_right _ (List.mem_append_left _ (List.mem_of_getElem? (i := 11) rfl))))) rfl, mw_2, mw_789, by decide +kernel⟩
theorem k_X5_overlap : CKV yX5_overlap cX5_overlap 7 (some .int) 2 := ⟨mw_650, LWs (q := (yX5_overlap, 11)) (List.mem_append_right _ (List.mem_append_right _ (List.mem_append_left _ (List.mem_of_getElem? (i := 10) rfl)))) rfl, mw_2, mw_651, by decide +kernel⟩
theorem k_X5_isTied : CKV yX5_isTied cX5_isTied 3 (some .boolean) 2 := ⟨mw_777, LWs (q := (yX5_isTied, 11)) (List.mem_append_right _ (List.mem_append_right _ (List.mem_append_right _ (List.mem_append_left _ (List.mem_of_getElem? (i := 10) rfl))))) rfl, mw_2, mw_778, by decide +kernel⟩
theorem k_X5_partsOfSound : CKV yX5_partsOfSound cX5_partsOfSound 3 (some .int) 1 := ⟨mw_709, LWs (q := (yX5_partsOfSound, 11)) (List.mem_append_right _ (List.mem_append_right _ (List.mem_append_right _ (List.mem_append_left _ (List.mem_of_getElem? (i := 1) rfl))))) rfl, mw_2, mw_710, by decide +kernel⟩
theorem k_X5_partsOfBar : CKV yX5_partsOfBar cX5_partsOfBar 4 (some .int) 1 := ⟨mw_646, LWs (q := (yX5_partsOfBar, 11)) (List.mem_append_right _ (List.mem_append_right _ (List.mem_append_left _ (List.mem_of_getElem? (i := 9) rfl)))) rfl, mw_2, mw_647, by decide +kernel⟩
theorem k_X5_allParts : CKV yX5_allParts cX5_allParts 3 (some .int) 0 := ⟨mw_642, LWs (q := (yX5_allParts, 11)) (List.mem_append_right _ (List.mem_append_right _ (List.mem_append_left _ (List.mem_of_getElem? (i := 8) rfl)))) rfl, mw_2, mw_643, by decide +kernel⟩
theorem k_X5_beginningsIn : CKV yX5_beginningsIn cX5_beginningsIn 4 (some .int) 1 := ⟨mw_758, LWs (q := (yX5_beginningsIn, 11)) (List.mem_append_right _ (List.mem_append_right _ (List.mem_append_right _ (List.mem_append_left _ (List.mem_of_getElem? (i := 8) rfl))))) rfl, mw_2, mw_759, by decide +kernel⟩
theorem k_X5_filledOfBar : CKV yX5_filledOfBar cX5_filledOfBar 3 (some .int) 1 := ⟨mw_752, LWs (q := (yX5_filledOfBar, 11)) (List.mem_append_right _ (List.mem_append_right _ (List.mem_append_right _ (List.mem_append_left _ (List.mem_of_getElem? (i := 7) rfl))))) rfl, mw_2, mw_753, by decide +kernel⟩
theorem k_X5_soundOfPart : CKV yX5_soundOfPart cX5_soundOfPart 5 (some .int) 2 := ⟨mw_772, LWs (q := (yX5_soundOfPart, 11)) (List.mem_append_right _ (List.mem_append_right _ (List.mem_append_right _ (List.mem_append_left _ (List.mem_of_getElem? (i := 9) rfl))))) rfl, mw_2, mw_773, by decide +kernel⟩
theorem k_X5_arePartsWhole : CKV yX5_arePartsWhole cX5_arePartsWhole 4 (some .boolean) 0 := ⟨mw_945, LWs (q := (yX5_arePartsWhole, 11)) (List.mem_append_right _ (List.mem_append_right _ (List.mem_append_right _ (List.mem_append_right _ (List.mem_append_left _ (List.mem_of_getElem? (i := 14) rfl)))))) rfl, mw_2, mw_946, by decide +kernel⟩
theorem k_X5_areBarsInBounds : CKV yX5_areBarsInBounds cX5_areBarsInBounds 4 (some .boolean) 0 := ⟨mw_949, LWs (q := (yX5_areBarsInBounds, 11)) (List.mem_append_right _ (List.mem_append_right _ (List.mem_append_right _ (List.mem_append_right _ (List.mem_append_left _ (List.mem_of_getElem? (i := 15) rfl)))))) rfl, mw_2, mw_950, by decide +kernel⟩
theorem k_X6_isFault : CKV yX6_isFault cX6_isFault 4 (some .boolean) 2 := ⟨mw_853, LWs (q := (yX6_isFault, 1)) (List.mem_append_right _ (List.mem_append_right _ (List.mem_append_right _ (List.mem_append_right _ (List.mem_append_left _ (List.mem_of_getElem? (i := 2) rfl)))))) rfl, mw_4, mw_854, by decide +kernel⟩
theorem k_X6_isFar : CKV yX6_isFar cX6_isFar 3 (some .boolean) 1 := ⟨mw_858, LWs (q := (yX6_isFar, 1)) (List.mem_append_right _ (List.mem_append_right _ (List.mem_append_right _ (List.mem_append_right _ (List.mem_append_left _ (List.mem_of_getElem? (i := 3) rfl)))))) rfl, mw_4, mw_859, by decide +kernel⟩
theorem k_X6_isSame : CKV yX6_isSame cX6_isSame 3 (some .boolean) 1 := ⟨mw_866, LWs (q := (yX6_isSame, 1)) (List.mem_append_right _ (List.mem_append_right _ (List.mem_append_right _ (List.mem_append_right _ (List.mem_append_left _ (List.mem_of_getElem? (i := 5) rfl)))))) rfl, mw_4, mw_867, by decide +kernel⟩
theorem k_X6_mostParts : CKS yX6_mostParts cX6_mostParts 1 (some .int) 1 := ⟨mw_839, mw_4, mw_840, by decide +kernel⟩
theorem k_X6_places : CKV yX6_places cX6_places 2 (some .int) 1 := ⟨mw_847, LWs (q := (yX6_places, 1)) (List.mem_append_right _ (List.mem_append_right _ (List.mem_append_right _ (List.mem_append_right _ (List.mem_append_left _ (List.mem_of_getElem? (i := 1) rfl)))))) rfl, mw_4, mw_848, by decide +kernel⟩
theorem k_X6_count : CKV yX6_count cX6_count 5 (some .int) 1 := ⟨mw_843, LWs (q := (yX6_count, 1)) (List.mem_append_right _ (List.mem_append_right _ (List.mem_append_right _ (List.mem_append_right _ (List.mem_append_left _ (List.mem_of_getElem? (i := 0) rfl)))))) rfl, mw_4, mw_844, by decide +kernel⟩
theorem k_X6_first : CKV yX6_first cX6_first 4 (some .int) 1 := ⟨mw_878, LWs (q := (yX6_first, 1)) (List.mem_append_right _ (List.mem_append_right _ (List.mem_append_right _ (List.mem_append_right _ (List.mem_append_left _ (List.mem_of_getElem? (i := 6) rfl)))))) rfl, mw_4, mw_879, by decide +kernel⟩
theorem k_X6_countAll : CKV yX6_countAll cX6_countAll 3 (some .int) 0 := ⟨mw_898, LWs (q := (yX6_countAll, 1)) (List.mem_append_right _ (List.mem_append_right _ (List.mem_append_right _ (List.mem_append_right _ (List.mem_append_left _ (List.mem_of_getElem? (i := 8) rfl)))))) rfl, mw_4, mw_899, by decide +kernel⟩
theorem k_X6_countByBeats : CKV yX6_countByBeats cX6_countByBeats 2 (some .int) 1 := ⟨mw_817, LWs (q := (yX6_countByBeats, 1)) (List.mem_append_right _ (List.mem_append_right _ (List.mem_append_right _ (List.mem_append_left _ (List.mem_of_getElem? (i := 12) rfl))))) rfl, mw_4, mw_818, by decide +kernel⟩
theorem k_X6_pitchesByBeats : CKV yX6_pitchesByBeats cX6_pitchesByBeats 11 (some .int) 1 := ⟨mw_829, LWs (q := (yX6_pitchesByBeats, 1)) (List.mem_append_right _ (List.mem_append_right _ (List.mem_append_right _ (List.mem_append_left _ (List.mem_of_getElem? (i := 14) rfl))))) rfl, mw_4, mw_830, by decide +kernel⟩
theorem k_X6_restsAtBars : CKV yX6_restsAtBars cX6_restsAtBars 5 (some .int) 0 := ⟨mw_821, LWs (q := (yX6_restsAtBars, 1)) (List.mem_append_right _ (List.mem_append_right _ (List.mem_append_right _ (List.mem_append_left _ (List.mem_of_getElem? (i := 13) rfl))))) rfl, mw_4, mw_822, by decide +kernel⟩
theorem k_X6_tiesByBeats : CKV yX6_tiesByBeats cX6_tiesByBeats 7 (some .int) 0 := ⟨mw_836, LWs (q := (yX6_tiesByBeats, 1)) (List.mem_append_right _ (List.mem_append_right _ (List.mem_append_right _ (List.mem_append_left _ (List.mem_of_getElem? (i := 15) rfl))))) rfl, mw_4, mw_837, by decide +kernel⟩
theorem k_X6_countWith : CKV yX6_countWith cX6_countWith 5 (some .int) 2 := ⟨mw_893, LWs (q := (yX6_countWith, 1)) (List.mem_append_right _ (List.mem_append_right _ (List.mem_append_right _ (List.mem_append_right _ (List.mem_append_left _ (List.mem_of_getElem? (i := 7) rfl)))))) rfl, mw_4, mw_894, by decide +kernel⟩
theorem k_X6_isToldAlike : CKV yX6_isToldAlike cX6_isToldAlike 2 (some .boolean) 0 := ⟨mw_919, LWs (q := (yX6_isToldAlike, 1)) (List.mem_append_right _ (List.mem_append_right _ (List.mem_append_right _ (List.mem_append_right _ (List.mem_append_left _ (List.mem_of_getElem? (i := 9) rfl)))))) rfl, mw_4, mw_920, by decide +kernel⟩
theorem k_X7_tinAt : CKV yX7_tinAt cX7_tinAt 3 (some .int) 1 := ⟨mw_1033, LWs (q := (yX7_tinAt, 1)) (List.mem_append_right _ (List.mem_append_right _ (List.mem_append_right _ (List.mem_append_right _ (List.mem_append_right _ (List.mem_append_left _ (List.mem_of_getElem? (i := 5) rfl))))))) rfl, mw_6, mw_1034, by decide +kernel⟩
theorem k_X7_placeOfTin : CKV yX7_placeOfTin cX7_placeOfTin 4 (some .int) 1 := ⟨mw_1037, LWs (q := (yX7_placeOfTin, 1)) (List.mem_append_right _ (List.mem_append_right _ (List.mem_append_right _ (List.mem_append_right _ (List.mem_append_right _ (List.mem_append_left _ (List.mem_of_getElem? (i := 6) rfl))))))) rfl, mw_6, mw_1038, by decide +kernel⟩
theorem k_X7_isTinAhead : CKV yX7_isTinAhead cX7_isTinAhead 5 (some .boolean) 2 := ⟨mw_1041, LWs (q := (yX7_isTinAhead, 1)) (List.mem_append_right _ (List.mem_append_right _ (List.mem_append_right _ (List.mem_append_right _ (List.mem_append_right _ (List.mem_append_left _ (List.mem_of_getElem? (i := 7) rfl))))))) rfl, mw_6, mw_1042, by decide +kernel⟩
theorem k_X7_dropAt : CKV yX7_dropAt cX7_dropAt 3 (some .int) 1 := ⟨mw_1054, LWs (q := (yX7_dropAt, 1)) (List.mem_append_right _ (List.mem_append_right _ (List.mem_append_right _ (List.mem_append_right _ (List.mem_append_right _ (List.mem_append_left _ (List.mem_of_getElem? (i := 8) rfl))))))) rfl, mw_6, mw_1055, by decide +kernel⟩
theorem k_X7_placeOfDrop : CKV yX7_placeOfDrop cX7_placeOfDrop 4 (some .int) 1 := ⟨mw_1060, LWs (q := (yX7_placeOfDrop, 1)) (List.mem_append_right _ (List.mem_append_right _ (List.mem_append_right _ (List.mem_append_right _ (List.mem_append_right _ (List.mem_append_left _ (List.mem_of_getElem? (i := 9) rfl))))))) rfl, mw_6, mw_1061, by decide +kernel⟩
theorem k_X7_isDropAhead : CKV yX7_isDropAhead cX7_isDropAhead 5 (some .boolean) 2 := ⟨mw_1064, LWs (q := (yX7_isDropAhead, 1)) (List.mem_append_right _ (List.mem_append_right _ (List.mem_append_right _ (List.mem_append_right _ (List.mem_append_right _ (List.mem_append_left _ (List.mem_of_getElem? (i := 10) rfl))))))) rfl, mw_6, mw_1065, by decide +kernel⟩
theorem k_X8_isFull : CKV yX8_isFull cX8_isFull 1 (some .boolean) 0 := ⟨mw_1456, LWs (q := (yX8_isFull, 7)) (List.mem_append_right _ (List.mem_append_right _ (List.mem_append_right _ (List.mem_append_right _ (List.mem_append_right _ (List.mem_append_right _ (List.mem_append_left _ (List.mem_of_getElem? (i := 2) rfl)))))))) rfl, mw_8, mw_1457, by decide +kernel⟩
theorem k_X8_add : CKV yX8_add cX8_add 2 (some .int) 1 := ⟨mw_1480, LWs (q := (yX8_add, 7)) (List.mem_append_right _ (List.mem_append_right _ (List.mem_append_right _ (List.mem_append_right _ (List.mem_append_right _ (List.mem_append_right _ (List.mem_append_left _ (List.mem_of_getElem? (i := 3) rfl)))))))) rfl, mw_8, mw_1481, by decide +kernel⟩
theorem k_X8_countOfSigns : CKV yX8_countOfSigns cX8_countOfSigns 1 (some .int) 0 := ⟨mw_667, LWs (q := (yX8_countOfSigns, 7)) (List.mem_append_right _ (List.mem_append_right _ (List.mem_append_left _ (List.mem_of_getElem? (i := 13) rfl)))) rfl, mw_8, mw_668, by decide +kernel⟩
theorem k_X8_countOfOrders : CKV yX8_countOfOrders cX8_countOfOrders 1 (some .int) 0 := ⟨mw_1539, LWs (q := (yX8_countOfOrders, 7)) (List.mem_append_right _ (List.mem_append_right _ (List.mem_append_right _ (List.mem_append_right _ (List.mem_append_right _ (List.mem_append_right _ (List.mem_append_left _ (List.mem_of_getElem? (i := 14) rfl)))))))) rfl, mw_8, mw_1540, by decide +kernel⟩
theorem k_X8_orderAt : CKV yX8_orderAt cX8_orderAt 2 (some (.object "TinRoofScore$Order")) 1 := ⟨mw_1543, LWs (q := (yX8_orderAt, 7)) (List.mem_append_right _ (List.mem_append_right _ (List.mem_append_right _ (List.mem_append_right _ (List.mem_append_right _ (List.mem_append_right _ (List.mem_append_left _ (List.mem_of_getElem? (i := 15) rfl)))))))) rfl, mw_8, mw_1544, by decide +kernel⟩
theorem k_X8_numberAt : CKV yX8_numberAt cX8_numberAt 3 (some .int) 2 := ⟨mw_1547, LWs (q := (yX8_numberAt, 7)) (List.mem_append_right _ (List.mem_append_right _ (List.mem_append_right _ (List.mem_append_right _ (List.mem_append_right _ (List.mem_append_right _ (List.mem_append_right _ (List.mem_of_getElem? (i := 0) rfl)))))))) rfl, mw_8, mw_1548, by decide +kernel⟩
theorem k_X8_read : CKV yX8_read cX8_read 2 (some .boolean) 0 := ⟨mw_1491, LWs (q := (yX8_read, 7)) (List.mem_append_right _ (List.mem_append_right _ (List.mem_append_right _ (List.mem_append_right _ (List.mem_append_right _ (List.mem_append_right _ (List.mem_append_left _ (List.mem_of_getElem? (i := 4) rfl)))))))) rfl, mw_8, mw_1492, by decide +kernel⟩
theorem k_X8_readOrders : CKV yX8_readOrders cX8_readOrders 2 (some .boolean) 0 := ⟨mw_1495, LWs (q := (yX8_readOrders, 7)) (List.mem_append_right _ (List.mem_append_right _ (List.mem_append_right _ (List.mem_append_right _ (List.mem_append_right _ (List.mem_append_right _ (List.mem_append_left _ (List.mem_of_getElem? (i := 5) rfl)))))))) rfl, mw_8, mw_1496, by decide +kernel⟩
theorem k_X8_readOrder : CKV yX8_readOrder cX8_readOrder 4 (some .boolean) 0 := ⟨mw_1499, LWs (q := (yX8_readOrder, 7)) (List.mem_append_right _ (List.mem_append_right _ (List.mem_append_right _ (List.mem_append_right _ (List.mem_append_right _ (List.mem_append_right _ (List.mem_append_left _ (List.mem_of_getElem? (i := 6) rfl)))))))) rfl, mw_8, mw_1500, by decide +kernel⟩
theorem k_X8_readWord : CKV yX8_readWord cX8_readWord 5 (some (.object "TinRoofScore$Order")) 0 := ⟨mw_1503, LWs (q := (yX8_readWord, 7)) (List.mem_append_right _ (List.mem_append_right _ (List.mem_append_right _ (List.mem_append_right _ (List.mem_append_right _ (List.mem_append_right _ (List.mem_append_left _ (List.mem_of_getElem? (i := 7) rfl)))))))) rfl, mw_8, mw_1504, by decide +kernel⟩
theorem k_X8_lettersOf : CKV yX8_lettersOf cX8_lettersOf 3 (some .int) 1 := ⟨mw_1509, LWs (q := (yX8_lettersOf, 7)) (List.mem_append_right _ (List.mem_append_right _ (List.mem_append_right _ (List.mem_append_right _ (List.mem_append_right _ (List.mem_append_right _ (List.mem_append_left _ (List.mem_of_getElem? (i := 8) rfl)))))))) rfl, mw_8, mw_1510, by decide +kernel⟩
theorem k_X8_readNumber : CKV yX8_readNumber cX8_readNumber 4 (some .int) 1 := ⟨mw_1524, LWs (q := (yX8_readNumber, 7)) (List.mem_append_right _ (List.mem_append_right _ (List.mem_append_right _ (List.mem_append_right _ (List.mem_append_right _ (List.mem_append_right _ (List.mem_append_left _ (List.mem_of_getElem? (i := 11) rfl)))))))) rfl, mw_8, mw_1525, by decide +kernel⟩
theorem k_X8_readDigit : CKV yX8_readDigit cX8_readDigit 3 (some .int) 0 := ⟨mw_1528, LWs (q := (yX8_readDigit, 7)) (List.mem_append_right _ (List.mem_append_right _ (List.mem_append_right _ (List.mem_append_right _ (List.mem_append_right _ (List.mem_append_right _ (List.mem_append_left _ (List.mem_of_getElem? (i := 12) rfl)))))))) rfl, mw_8, mw_1529, by decide +kernel⟩
theorem k_X8_take : CKV yX8_take cX8_take 2 (some .boolean) 1 := ⟨mw_1520, LWs (q := (yX8_take, 7)) (List.mem_append_right _ (List.mem_append_right _ (List.mem_append_right _ (List.mem_append_right _ (List.mem_append_right _ (List.mem_append_right _ (List.mem_append_left _ (List.mem_of_getElem? (i := 10) rfl)))))))) rfl, mw_8, mw_1521, by decide +kernel⟩
theorem k_X8_isSign : CKV yX8_isSign cX8_isSign 3 (some .boolean) 2 := ⟨mw_1515, LWs (q := (yX8_isSign, 7)) (List.mem_append_right _ (List.mem_append_right _ (List.mem_append_right _ (List.mem_append_right _ (List.mem_append_right _ (List.mem_append_right _ (List.mem_append_left _ (List.mem_of_getElem? (i := 9) rfl)))))))) rfl, mw_8, mw_1516, by decide +kernel⟩
theorem k_X9_bar : CKV yX9_bar cX9_bar 2 (some .int) 1 := ⟨mw_242, mw_243, mw_1, mw_244, by decide +kernel⟩
theorem k_X9_key : CKV yX9_key cX9_key 3 (some .int) 2 := ⟨mw_554, mw_555, mw_1, mw_556, by decide +kernel⟩
theorem k_X9_leak : CKV yX9_leak cX9_leak 3 (some .int) 2 := ⟨mw_562, mw_563, mw_1, mw_564, by decide +kernel⟩
theorem k_X9_drop : CKV yX9_drop cX9_drop 4 (some .int) 3 := ⟨mw_578, mw_579, mw_1, mw_580, by decide +kernel⟩
theorem k_X9_rest : CKV yX9_rest cX9_rest 2 (some .int) 1 := ⟨mw_570, mw_571, mw_1, mw_572, by decide +kernel⟩
theorem k_X9_lift : CKV yX9_lift cX9_lift 1 (some .int) 0 := ⟨mw_1426, mw_1427, mw_1, mw_1428, by decide +kernel⟩
theorem k_X9_limit : CKV yX9_limit cX9_limit 2 (some .int) 1 := ⟨mw_677, mw_678, mw_1, mw_679, by decide +kernel⟩
theorem k_X9_tune : CKV yX9_tune cX9_tune 3 (some .int) 2 := ⟨mw_1434, mw_1435, mw_1, mw_1436, by decide +kernel⟩
theorem k_X9_tinOf : CKV yX9_tinOf cX9_tinOf 3 (some .int) 2 := ⟨mw_721, mw_722, mw_1, mw_723, by decide +kernel⟩
theorem k_X9_soundOf : CKV yX9_soundOf cX9_soundOf 3 (some .int) 2 := ⟨mw_693, mw_694, mw_1, mw_695, by decide +kernel⟩
theorem k_X9_barOf : CKV yX9_barOf cX9_barOf 3 (some .int) 2 := ⟨mw_739, mw_740, mw_1, mw_741, by decide +kernel⟩
theorem k_X9_partOf : CKV yX9_partOf cX9_partOf 5 (some .int) 3 := ⟨mw_767, mw_768, mw_1, mw_769, by decide +kernel⟩
theorem k_X9_at : CKV yX9_at cX9_at 2 (some .int) 1 := ⟨mw_783, mw_784, mw_1, mw_785, by decide +kernel⟩
theorem k_X9_faults : CKV yX9_faults cX9_faults 3 (some .int) 2 := ⟨mw_812, mw_813, mw_1, mw_814, by decide +kernel⟩
theorem k_X9_firstFault : CKV yX9_firstFault cX9_firstFault 2 (some .int) 1 := ⟨mw_873, mw_874, mw_1, mw_875, by decide +kernel⟩
theorem k_X9_isClean : CKV yX9_isClean cX9_isClean 1 (some .boolean) 0 := ⟨mw_909, mw_910, mw_1, mw_911, by decide +kernel⟩
theorem k_X9_wouldFault : CKV yX9_wouldFault cX9_wouldFault 3 (some .int) 2 := ⟨mw_887, mw_888, mw_1, mw_889, by decide +kernel⟩
theorem k_X9_bestHeight : CKV yX9_bestHeight cX9_bestHeight 6 (some .int) 1 := ⟨mw_905, mw_906, mw_1, mw_907, by decide +kernel⟩
theorem k_X9_walk : CKV yX9_walk cX9_walk 2 (some .int) 1 := ⟨mw_955, mw_956, mw_1, mw_957, by decide +kernel⟩
theorem k_X9_goes : CKV yX9_goes cX9_goes 2 (some .int) 1 := ⟨mw_959, mw_960, mw_1, mw_961, by decide +kernel⟩
theorem k_X9_span : CKV yX9_span cX9_span 1 (some .int) 0 := ⟨mw_967, mw_968, mw_1, mw_969, by decide +kernel⟩
theorem k_X9_withPitch : CKV yX9_withPitch cX9_withPitch 2 (some .int) 1 := ⟨mw_1009, mw_1010, mw_1, mw_1011, by decide +kernel⟩
theorem k_X9_loudest : CKV yX9_loudest cX9_loudest 2 (some .int) 1 := ⟨mw_1028, mw_1029, mw_1, mw_1030, by decide +kernel⟩
theorem k_X9_highest : CKV yX9_highest cX9_highest 2 (some .int) 1 := ⟨mw_1049, mw_1050, mw_1, mw_1051, by decide +kernel⟩
theorem k_X9_line : CKV yX9_line cX9_line 2 (some .int) 1 := ⟨mw_1335, mw_1336, mw_1, mw_1337, by decide +kernel⟩
theorem k_X9_tinLine : CKV yX9_tinLine cX9_tinLine 2 (some .int) 1 := ⟨mw_1401, mw_1402, mw_1, mw_1403, by decide +kernel⟩
theorem k_X9_character : CKV yX9_character cX9_character 2 (some .char) 1 := ⟨mw_1370, mw_1371, mw_1, mw_1372, by decide +kernel⟩
theorem k_X9_append : CKV yX9_append cX9_append 2 (some .int) 1 := ⟨mw_1451, mw_1452, mw_1, mw_1453, by decide +kernel⟩
theorem k_X9_run : CKV yX9_run cX9_run 2 (some .int) 0 := ⟨mw_1486, mw_1487, mw_1, mw_1488, by decide +kernel⟩
theorem k_X9_refusal : CKV yX9_refusal cX9_refusal 2 (some .int) 1 := ⟨mw_587, mw_588, mw_1, mw_589, by decide +kernel⟩
theorem k_X9_account : CKV yX9_account cX9_account 2 (some .int) 1 := ⟨mw_622, mw_623, mw_1, mw_624, by decide +kernel⟩
theorem k_X9_isWell : CKV yX9_isWell cX9_isWell 1 (some .boolean) 0 := ⟨mw_914, mw_915, mw_1, mw_916, by decide +kernel⟩
theorem k_X9_meanPitch : CKV yX9_meanPitch cX9_meanPitch 2 (some .double) 0 := ⟨mw_977, mw_978, mw_1, mw_979, by decide +kernel⟩
theorem k_X9_filledShare : CKV yX9_filledShare cX9_filledShare 2 (some .float) 0 := ⟨mw_1017, mw_1018, mw_1, mw_1019, by decide +kernel⟩
theorem k_X9_undo : CKV yX9_undo cX9_undo 1 (some .int) 0 := ⟨mw_1554, mw_1555, mw_1, mw_1556, by decide +kernel⟩
theorem k_X9_change : CKV yX9_change cX9_change 6 (some .int) 4 := ⟨mw_249, LWs (q := (yX9_change, 11)) (List.mem_append_left _ (List.mem_of_getElem? (i := 0) rfl)) rfl, mw_1, mw_250, by decide +kernel⟩
theorem k_X9_carryOutText : CKV yX9_carryOutText cX9_carryOutText 7 (some .int) 0 := ⟨mw_1535, LWs (q := (yX9_carryOutText, 11)) (List.mem_append_right _ (List.mem_append_right _ (List.mem_append_right _ (List.mem_append_right _ (List.mem_append_right _ (List.mem_append_right _ (List.mem_append_left _ (List.mem_of_getElem? (i := 13) rfl)))))))) rfl, mw_1, mw_1536, by decide +kernel⟩
theorem k_X9_needPlace : CKS yX9_needPlace cX9_needPlace 1 none 1 := ⟨mw_362, mw_1, mw_363, by decide +kernel⟩
theorem k_X9_needRange : CKS yX9_needRange cX9_needRange 1 none 1 := ⟨mw_437, mw_1, mw_438, by decide +kernel⟩
theorem k_X9_needConsent : CKS yX9_needConsent cX9_needConsent 1 none 1 := ⟨mw_456, mw_1, mw_457, by decide +kernel⟩
theorem k_X9_needElement : CKS yX9_needElement cX9_needElement 1 none 1 := ⟨mw_595, mw_1, mw_596, by decide +kernel⟩
theorem k_X9_needState : CKS yX9_needState cX9_needState 1 none 1 := ⟨mw_1459, mw_1, mw_1460, by decide +kernel⟩
theorem k_X9_found : CKS yX9_found cX9_found 1 (some .int) 1 := ⟨mw_791, mw_1, mw_792, by decide +kernel⟩
theorem k_X9_isWithin : CKS yX9_isWithin cX9_isWithin 3 (some .boolean) 3 := ⟨mw_261, mw_1, mw_262, by decide +kernel⟩
theorem k_X9_isTin : CKS yX9_isTin cX9_isTin 1 (some .boolean) 1 := ⟨mw_285, mw_1, mw_286, by decide +kernel⟩
theorem k_X9_cell : CKS yX9_cell cX9_cell 2 (some .int) 2 := ⟨mw_278, mw_1, mw_279, by decide +kernel⟩
theorem k_X9_put : CKS yX9_put cX9_put 3 none 3 := ⟨mw_491, mw_1, mw_492, by decide +kernel⟩
theorem k_X9_copyRow : CKS yX9_copyRow cX9_copyRow 3 none 2 := ⟨mw_487, mw_1, mw_488, by decide +kernel⟩
theorem k_J6_getChars_ba4f3 : CKS yJ6_getChars_ba4f3 cJ6_getChars_ba4f3 7 (some .int) 3 := ⟨mw_1253, mw_32, mw_1254, by decide +kernel⟩
theorem k_J6_stringSize_0f7a4 : CKS yJ6_stringSize_0f7a4 cJ6_stringSize_0f7a4 4 (some .int) 1 := ⟨mw_1250, mw_32, mw_1251, by decide +kernel⟩
theorem k_J9_abs_0f7a4 : CKS yJ9_abs_0f7a4 cJ9_abs_0f7a4 1 (some .int) 1 := ⟨mw_806, mw_18, mw_807, by decide +kernel⟩
theorem k_J9_max_7cf53 : CKS yJ9_max_7cf53 cJ9_max_7cf53 2 (some .int) 2 := ⟨mw_654, mw_18, mw_655, by decide +kernel⟩
theorem k_J9_min_7cf53 : CKS yJ9_min_7cf53 cJ9_min_7cf53 2 (some .int) 2 := ⟨mw_494, mw_18, mw_495, by decide +kernel⟩
theorem k_J0_length_8abf5 : CKV yJ0_length_8abf5 cJ0_length_8abf5 1 (some .int) 0 := ⟨mw_1177, mw_1178, mw_20, mw_1179, by decide +kernel⟩
theorem k_J0_charAt_5068e : CKV yJ0_charAt_5068e cJ0_charAt_5068e 2 (some .char) 1 := ⟨mw_1383, mw_1384, mw_20, mw_1385, by decide +kernel⟩
theorem k_J0_getBytes_840e7 : CKV yJ0_getBytes_840e7 cJ0_getBytes_840e7 4 none 3 := ⟨mw_1214, mw_1215, mw_20, mw_1216, by decide +kernel⟩
theorem k_J0_coder_7d493 : CKV yJ0_coder_7d493 cJ0_coder_7d493 1 (some .byte) 0 := ⟨mw_1181, mw_1182, mw_20, mw_1183, by decide +kernel⟩
theorem k_J0_isLatin1_aae02 : CKV yJ0_isLatin1_aae02 cJ0_isLatin1_aae02 1 (some .boolean) 0 := ⟨mw_1387, mw_1388, mw_20, mw_1389, by decide +kernel⟩
theorem k_J0_checkIndex_df160 : CKS yJ0_checkIndex_df160 cJ0_checkIndex_df160 2 none 2 := ⟨mw_1237, mw_20, mw_1238, by decide +kernel⟩
theorem k_J0_checkBoundsOffCount_cabcc : CKS yJ0_checkBoundsOffCount_cabcc cJ0_checkBoundsOffCount_cabcc 3 (some .int) 3 := ⟨mw_1208, mw_20, mw_1209, by decide +kernel⟩
theorem k_J0_checkBoundsBeginEnd_23922 : CKS yJ0_checkBoundsBeginEnd_23922 cJ0_checkBoundsBeginEnd_23922 3 none 3 := ⟨mw_1160, mw_20, mw_1161, by decide +kernel⟩
theorem k_J4_append_15ec4 : CKV yJ4_append_15ec4 cJ4_append_15ec4 2 (some (.object "java/lang/StringBuilder")) 1 := ⟨mw_1104, mw_1105, mw_24, mw_1106, by decide +kernel⟩
theorem k_J4_append_cf468 : CKV yJ4_append_cf468 cJ4_append_cf468 2 (some (.object "java/lang/StringBuilder")) 1 := ⟨mw_1221, mw_1222, mw_24, mw_1223, by decide +kernel⟩
theorem k_J4_append_bf812 : CKV yJ4_append_bf812 cJ4_append_bf812 2 (some (.object "java/lang/StringBuilder")) 1 := ⟨mw_1243, mw_1244, mw_24, mw_1245, by decide +kernel⟩
theorem k_J4_toString_0e30d : CKV yJ4_toString_0e30d cJ4_toString_0e30d 1 (some (.object "java/lang/String")) 0 := ⟨mw_1269, mw_1270, mw_24, mw_1271, by decide +kernel⟩
theorem k_J1_charAt_3b067 : CKS yJ1_charAt_3b067 cJ1_charAt_3b067 2 (some .char) 2 := ⟨mw_1391, mw_30, mw_1392, by decide +kernel⟩
theorem k_J1_canEncode_fc78d : CKS yJ1_canEncode_fc78d cJ1_canEncode_fc78d 1 (some .boolean) 1 := ⟨mw_1228, mw_30, mw_1229, by decide +kernel⟩
theorem k_J1_inflate_0e8fd : CKS yJ1_inflate_0e8fd cJ1_inflate_0e8fd 5 none 5 := ⟨mw_1199, mw_30, mw_1200, by decide +kernel⟩
theorem k_J2_newBytesFor_77867 : CKS yJ2_newBytesFor_77867 cJ2_newBytesFor_77867 1 (some (.array .byte)) 1 := ⟨mw_1084, mw_25, mw_1085, by decide +kernel⟩
theorem k_J2_newBytesLength_0f7a4 : CKS yJ2_newBytesLength_0f7a4 cJ2_newBytesLength_0f7a4 1 (some .int) 1 := ⟨mw_1087, mw_25, mw_1088, by decide +kernel⟩
theorem k_J2_putChar_b72d1 : CKS yJ2_putChar_b72d1 cJ2_putChar_b72d1 3 none 3 := ⟨mw_1168, mw_25, mw_1169, by decide +kernel⟩
theorem k_J2_getChar_3b067 : CKS yJ2_getChar_3b067 cJ2_getChar_3b067 2 (some .char) 2 := ⟨mw_1318, mw_25, mw_1319, by decide +kernel⟩
theorem k_J2_length_9d52b : CKS yJ2_length_9d52b cJ2_length_9d52b 1 (some .int) 1 := ⟨mw_1157, mw_25, mw_1158, by decide +kernel⟩
theorem k_J2_coderFromArrayLen_85cad : CKS yJ2_coderFromArrayLen_85cad cJ2_coderFromArrayLen_85cad 2 (some .byte) 2 := ⟨mw_1322, mw_25, mw_1323, by decide +kernel⟩
theorem k_J2_compress_39247 : CKS yJ2_compress_39247 cJ2_compress_39247 6 (some (.array .byte)) 3 := ⟨mw_1312, mw_25, mw_1313, by decide +kernel⟩
theorem k_J2_compress_5af95 : CKS yJ2_compress_5af95 cJ2_compress_5af95 7 (some .int) 5 := ⟨mw_1315, mw_25, mw_1316, by decide +kernel⟩
theorem k_J2_putCharSB_b72d1 : CKS yJ2_putCharSB_b72d1 cJ2_putCharSB_b72d1 3 none 3 := ⟨mw_1231, mw_25, mw_1232, by decide +kernel⟩
theorem k_J2_getChars_46870 : CKS yJ2_getChars_46870 cJ2_getChars_46870 5 (some .int) 4 := ⟨mw_1260, mw_25, mw_1261, by decide +kernel⟩
theorem k_J2_putCharsAt_cd4e5 : CKS yJ2_putCharsAt_cd4e5 cJ2_putCharsAt_cd4e5 7 (some .int) 6 := ⟨mw_1151, mw_25, mw_1152, by decide +kernel⟩
theorem k_J2_charAt_3b067 : CKS yJ2_charAt_3b067 cJ2_charAt_3b067 2 (some .char) 2 := ⟨mw_1395, mw_25, mw_1396, by decide +kernel⟩
theorem k_J2_inflate_0e8fd : CKS yJ2_inflate_0e8fd cJ2_inflate_0e8fd 6 none 5 := ⟨mw_1202, mw_25, mw_1203, by decide +kernel⟩
theorem k_J2_getChars_ba4f3 : CKS yJ2_getChars_ba4f3 cJ2_getChars_ba4f3 7 (some .int) 3 := ⟨mw_1263, mw_25, mw_1264, by decide +kernel⟩
theorem k_J2_checkIndex_2214a : CKS yJ2_checkIndex_2214a cJ2_checkIndex_2214a 2 none 2 := ⟨mw_1234, mw_25, mw_1235, by decide +kernel⟩
theorem k_J2_checkBoundsBeginEnd_d044e : CKS yJ2_checkBoundsBeginEnd_d044e cJ2_checkBoundsBeginEnd_d044e 3 none 3 := ⟨mw_1154, mw_25, mw_1155, by decide +kernel⟩
theorem k_J2_checkBoundsOffCount_d044e : CKS yJ2_checkBoundsOffCount_d044e cJ2_checkBoundsOffCount_d044e 3 none 3 := ⟨mw_1205, mw_25, mw_1206, by decide +kernel⟩
theorem k_J7_copyOf_9075b : CKS yJ7_copyOf_9075b cJ7_copyOf_9075b 3 (some (.array .byte)) 2 := ⟨mw_1132, mw_27, mw_1133, by decide +kernel⟩
theorem k_J7_checkLength_df160 : CKS yJ7_checkLength_df160 cJ7_checkLength_df160 2 none 2 := ⟨mw_1301, mw_27, mw_1302, by decide +kernel⟩
theorem k_J7_copyOfRange_39247 : CKS yJ7_copyOfRange_39247 cJ7_copyOfRange_39247 3 (some (.array .byte)) 3 := ⟨mw_1295, mw_27, mw_1296, by decide +kernel⟩
theorem k_J7_copyOfRangeByte_39247 : CKS yJ7_copyOfRangeByte_39247 cJ7_copyOfRangeByte_39247 5 (some (.array .byte)) 3 := ⟨mw_1298, mw_27, mw_1299, by decide +kernel⟩
theorem k_J8_newLength_cabcc : CKS yJ8_newLength_cabcc cJ8_newLength_cabcc 4 (some .int) 3 := ⟨mw_1123, mw_26, mw_1124, by decide +kernel⟩
theorem k_J8_hugeLength_7cf53 : CKS yJ8_hugeLength_7cf53 cJ8_hugeLength_7cf53 3 (some .int) 2 := ⟨mw_1128, mw_26, mw_1129, by decide +kernel⟩
theorem k_J3_checkIndex_8e157 : CKS yJ3_checkIndex_8e157 cJ3_checkIndex_8e157 3 (some .int) 3 := ⟨mw_1240, mw_29, mw_1241, by decide +kernel⟩
theorem k_J3_checkFromToIndex_8c36e : CKS yJ3_checkFromToIndex_8c36e cJ3_checkFromToIndex_8c36e 4 (some .int) 4 := ⟨mw_1165, mw_29, mw_1166, by decide +kernel⟩
theorem k_J3_checkFromIndexSize_8c36e : CKS yJ3_checkFromIndexSize_8c36e cJ3_checkFromIndexSize_8c36e 4 (some .int) 4 := ⟨mw_1211, mw_29, mw_1212, by decide +kernel⟩
theorem k_L_cell : CKS yL_cell cL_cell 2 (some .int) 2 := ⟨mw_233, mw_0, mw_234, by decide +kernel⟩
theorem k_L_run : CKS yL_run cL_run 3 (some .int) 2 := ⟨mw_1444, mw_0, mw_1445, by decide +kernel⟩
theorem k_L_drawn : CKS yL_drawn cL_drawn 7 (some (.object "TinRoofScore")) 1 := ⟨mw_35, mw_0, mw_36, by decide +kernel⟩
theorem k_L_sounds : CKS yL_sounds cL_sounds 13 (some (.array (.array .int))) 1 := ⟨mw_685, mw_0, mw_686, by decide +kernel⟩
theorem k_L_ahead : CKS yL_ahead cL_ahead 5 (some (.array .int)) 2 := ⟨mw_803, mw_0, mw_804, by decide +kernel⟩
theorem k_L_isFault : CKS yL_isFault cL_isFault 10 (some .boolean) 4 := ⟨mw_800, mw_0, mw_801, by decide +kernel⟩
theorem k_L_faultsOf : CKS yL_faultsOf cL_faultsOf 5 (some .int) 3 := ⟨mw_797, mw_0, mw_798, by decide +kernel⟩
theorem k_L_allFaults : CKS yL_allFaults cL_allFaults 2 (some .int) 2 := ⟨mw_881, mw_0, mw_882, by decide +kernel⟩
theorem k_L_parts : CKS yL_parts cL_parts 14 (some .boolean) 1 := ⟨mw_682, mw_0, mw_683, by decide +kernel⟩
theorem k_L_faulty : CKS yL_faulty cL_faulty 8 (some .boolean) 1 := ⟨mw_794, mw_0, mw_795, by decide +kernel⟩
theorem k_L_tunes : CKS yL_tunes cL_tunes 15 (some .boolean) 1 := ⟨mw_952, mw_0, mw_953, by decide +kernel⟩
theorem k_L_ranks : CKS yL_ranks cL_ranks 9 (some .boolean) 1 := ⟨mw_1022, mw_0, mw_1023, by decide +kernel⟩
theorem k_L_spells : CKS yL_spells cL_spells 5 (some .boolean) 3 := ⟨mw_1363, mw_0, mw_1364, by decide +kernel⟩
theorem k_L_lines : CKS yL_lines cL_lines 5 (some .boolean) 1 := ⟨mw_1069, mw_0, mw_1070, by decide +kernel⟩
theorem k_L_sum : CKS yL_sum cL_sum 4 (some .long) 1 := ⟨mw_1415, mw_0, mw_1416, by decide +kernel⟩
theorem k_L_undone : CKS yL_undone cL_undone 8 (some .boolean) 2 := ⟨mw_1412, mw_0, mw_1413, by decide +kernel⟩
theorem i_X0 : ∀ w ∈ u_ws RX0 TX0 3, w ∈ LW := fun w h => LWf ((by decide +kernel : ∀ w ∈ u_ws RX0 TX0 3, w ∈ lw_tbl) w h) ((by decide +kernel : ∀ w ∈ u_ws RX0 TX0 3, goodWord w = true) w h)
theorem i_X1 : ∀ w ∈ u_ws RX1 TX1 3, w ∈ LW := fun w h => LWf ((by decide +kernel : ∀ w ∈ u_ws RX1 TX1 3, w ∈ lw_tbl) w h) ((by decide +kernel : ∀ w ∈ u_ws RX1 TX1 3, goodWord w = true) w h)
theorem i_X2 : ∀ w ∈ u_ws RX2 TX2 3, w ∈ LW := fun w h => LWf ((by decide +kernel : ∀ w ∈ u_ws RX2 TX2 3, w ∈ lw_tbl) w h) ((by decide +kernel : ∀ w ∈ u_ws RX2 TX2 3, goodWord w = true) w h)
theorem i_X3 : ∀ w ∈ u_ws RX3 TX3 1, w ∈ LW := fun w h => LWf ((by decide +kernel : ∀ w ∈ u_ws RX3 TX3 1, w ∈ lw_tbl) w h) ((by decide +kernel : ∀ w ∈ u_ws RX3 TX3 1, goodWord w = true) w h)
theorem i_X5 : ∀ w ∈ u_ws RX5 TX5 11, w ∈ LW := fun w h => LWf ((by decide +kernel : ∀ w ∈ u_ws RX5 TX5 11, w ∈ lw_tbl) w h) ((by decide +kernel : ∀ w ∈ u_ws RX5 TX5 11, goodWord w = true) w h)
theorem i_X6 : ∀ w ∈ u_ws RX6 TX6 1, w ∈ LW := fun w h => LWf ((by decide +kernel : ∀ w ∈ u_ws RX6 TX6 1, w ∈ lw_tbl) w h) ((by decide +kernel : ∀ w ∈ u_ws RX6 TX6 1, goodWord w = true) w h)
theorem i_X7 : ∀ w ∈ u_ws RX7 TX7 1, w ∈ LW := fun w h => LWf ((by decide +kernel : ∀ w ∈ u_ws RX7 TX7 1, w ∈ lw_tbl) w h) ((by decide +kernel : ∀ w ∈ u_ws RX7 TX7 1, goodWord w = true) w h)
theorem i_X8 : ∀ w ∈ u_ws RX8 TX8 7, w ∈ LW := fun w h => LWf ((by decide +kernel : ∀ w ∈ u_ws RX8 TX8 7, w ∈ lw_tbl) w h) ((by decide +kernel : ∀ w ∈ u_ws RX8 TX8 7, goodWord w = true) w h)
theorem i_X9 : ∀ w ∈ u_ws RX9 TX9 11, w ∈ LW := fun w h => LWf ((by decide +kernel : ∀ w ∈ u_ws RX9 TX9 11, w ∈ lw_tbl) w h) ((by decide +kernel : ∀ w ∈ u_ws RX9 TX9 11, goodWord w = true) w h)
theorem i_J0 : ∀ w ∈ u_ws RJ0 TJ0 4, w ∈ LW := fun w h => LWf ((by decide +kernel : ∀ w ∈ u_ws RJ0 TJ0 4, w ∈ lw_tbl) w h) ((by decide +kernel : ∀ w ∈ u_ws RJ0 TJ0 4, goodWord w = true) w h)
theorem i_J4 : ∀ w ∈ u_ws RJ4 TJ4 4, w ∈ LW := fun w h => LWf ((by decide +kernel : ∀ w ∈ u_ws RJ4 TJ4 4, w ∈ lw_tbl) w h) ((by decide +kernel : ∀ w ∈ u_ws RJ4 TJ4 4, goodWord w = true) w h)
