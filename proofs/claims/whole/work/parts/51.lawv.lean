set_option maxRecDepth 20000 in
theorem lw_v_X9_thing : lw_V 13 mX9_thing := lw_vt (by decide) 375 376 377 84 (by decide +kernel) (by decide +kernel) (by decide +kernel) (by decide +kernel) rfl
set_option maxRecDepth 20000 in
theorem lw_v_X10_thing : lw_V 17 mX10_thing := lw_vt (by decide) 1315 1316 1317 94 (by decide +kernel) (by decide +kernel) (by decide +kernel) (by decide +kernel) rfl
set_option maxRecDepth 20000 in
theorem lw_v_X9_act : lw_V 18 mX9_act := lw_vt (by decide) 383 384 385 84 (by decide +kernel) (by decide +kernel) (by decide +kernel) (by decide +kernel) rfl
set_option maxRecDepth 20000 in
theorem lw_v_X10_act : lw_V 22 mX10_act := lw_vt (by decide) 1322 1323 1324 94 (by decide +kernel) (by decide +kernel) (by decide +kernel) (by decide +kernel) rfl
set_option maxRecDepth 20000 in
theorem lw_v_X9_undo : lw_V 23 mX9_undo := lw_vt (by decide) 415 416 417 84 (by decide +kernel) (by decide +kernel) (by decide +kernel) (by decide +kernel) rfl
set_option maxRecDepth 20000 in
theorem lw_v_X10_undo : lw_V 27 mX10_undo := lw_vt (by decide) 1346 1347 1348 94 (by decide +kernel) (by decide +kernel) (by decide +kernel) (by decide +kernel) rfl
set_option maxRecDepth 20000 in
theorem lw_v_X9_where : lw_V 28 mX9_where := lw_vt (by decide) 423 424 425 84 (by decide +kernel) (by decide +kernel) (by decide +kernel) (by decide +kernel) rfl
set_option maxRecDepth 20000 in
theorem lw_v_X10_where : lw_V 32 mX10_where := lw_vt (by decide) 1350 1351 1352 94 (by decide +kernel) (by decide +kernel) (by decide +kernel) (by decide +kernel) rfl
set_option maxRecDepth 20000 in
theorem lw_v_X9_over : lw_V 33 mX9_over := lw_vt (by decide) 428 429 430 84 (by decide +kernel) (by decide +kernel) (by decide +kernel) (by decide +kernel) rfl
set_option maxRecDepth 20000 in
theorem lw_v_X10_over : lw_V 36 mX10_over := lw_vt (by decide) 1354 1355 1356 94 (by decide +kernel) (by decide +kernel) (by decide +kernel) (by decide +kernel) rfl
set_option maxRecDepth 20000 in
theorem lw_v_X9_was : lw_V 37 mX9_was := lw_vt (by decide) 437 438 439 84 (by decide +kernel) (by decide +kernel) (by decide +kernel) (by decide +kernel) rfl
set_option maxRecDepth 20000 in
theorem lw_v_X10_was : lw_V 40 mX10_was := lw_vt (by decide) 1362 1363 1364 94 (by decide +kernel) (by decide +kernel) (by decide +kernel) (by decide +kernel) rfl
set_option maxRecDepth 20000 in
theorem lw_v_X9_event : lw_V 41 mX9_event := lw_vt (by decide) 445 446 447 84 (by decide +kernel) (by decide +kernel) (by decide +kernel) (by decide +kernel) rfl
set_option maxRecDepth 20000 in
theorem lw_v_X10_event : lw_V 44 mX10_event := lw_vt (by decide) 1370 1371 1372 94 (by decide +kernel) (by decide +kernel) (by decide +kernel) (by decide +kernel) rfl
set_option maxRecDepth 20000 in
theorem lw_v_X9_feed : lw_V 45 mX9_feed := lw_vt (by decide) 453 454 455 84 (by decide +kernel) (by decide +kernel) (by decide +kernel) (by decide +kernel) rfl
set_option maxRecDepth 20000 in
theorem lw_v_X10_feed : lw_V 49 mX10_feed := lw_vt (by decide) 1374 1375 1376 94 (by decide +kernel) (by decide +kernel) (by decide +kernel) (by decide +kernel) rfl
set_option maxRecDepth 20000 in
theorem lw_v_X9_say : lw_V 50 mX9_say := lw_vt (by decide) 470 471 472 84 (by decide +kernel) (by decide +kernel) (by decide +kernel) (by decide +kernel) rfl
set_option maxRecDepth 20000 in
theorem lw_v_X10_say : lw_V 53 mX10_say := lw_vt (by decide) 1382 1383 1384 94 (by decide +kernel) (by decide +kernel) (by decide +kernel) (by decide +kernel) rfl
set_option maxRecDepth 20000 in
theorem lw_v_X9_reading : lw_V 54 mX9_reading := lw_vt (by decide) 660 661 662 84 (by decide +kernel) (by decide +kernel) (by decide +kernel) (by decide +kernel) rfl
set_option maxRecDepth 20000 in
theorem lw_v_X10_reading : lw_V 57 mX10_reading := lw_vt (by decide) 1448 1449 1450 94 (by decide +kernel) (by decide +kernel) (by decide +kernel) (by decide +kernel) rfl
set_option maxRecDepth 20000 in
theorem lw_v_X9_means : lw_V 58 mX9_means := lw_vt (by decide) 674 675 676 84 (by decide +kernel) (by decide +kernel) (by decide +kernel) (by decide +kernel) rfl
set_option maxRecDepth 20000 in
theorem lw_v_X10_means : lw_V 61 mX10_means := lw_vt (by decide) 1459 1460 1461 94 (by decide +kernel) (by decide +kernel) (by decide +kernel) (by decide +kernel) rfl
set_option maxRecDepth 20000 in
theorem lw_v_X9_trouble : lw_V 62 mX9_trouble := lw_vt (by decide) 828 829 830 84 (by decide +kernel) (by decide +kernel) (by decide +kernel) (by decide +kernel) rfl
set_option maxRecDepth 20000 in
theorem lw_v_X10_trouble : lw_V 65 mX10_trouble := lw_vt (by decide) 1499 1500 1501 94 (by decide +kernel) (by decide +kernel) (by decide +kernel) (by decide +kernel) rfl
set_option maxRecDepth 20000 in
theorem lw_v_X9_taken : lw_V 66 mX9_taken := lw_vt (by decide) 840 841 842 84 (by decide +kernel) (by decide +kernel) (by decide +kernel) (by decide +kernel) rfl
set_option maxRecDepth 20000 in
theorem lw_v_X10_taken : lw_V 69 mX10_taken := lw_vt (by decide) 1533 1534 1535 94 (by decide +kernel) (by decide +kernel) (by decide +kernel) (by decide +kernel) rfl
set_option maxRecDepth 20000 in
theorem lw_v_X9_answer : lw_V 70 mX9_answer := lw_vt (by decide) 865 866 867 84 (by decide +kernel) (by decide +kernel) (by decide +kernel) (by decide +kernel) rfl
set_option maxRecDepth 20000 in
theorem lw_v_X10_answer : lw_V 73 mX10_answer := lw_vt (by decide) 1549 1550 1551 94 (by decide +kernel) (by decide +kernel) (by decide +kernel) (by decide +kernel) rfl
set_option maxRecDepth 20000 in
theorem lw_v_X9_plan : lw_V 74 mX9_plan := lw_vt (by decide) 871 872 873 84 (by decide +kernel) (by decide +kernel) (by decide +kernel) (by decide +kernel) rfl
set_option maxRecDepth 20000 in
theorem lw_v_X10_plan : lw_V 77 mX10_plan := lw_vt (by decide) 1553 1554 1555 94 (by decide +kernel) (by decide +kernel) (by decide +kernel) (by decide +kernel) rfl
set_option maxRecDepth 20000 in
theorem lw_v_X9_done : lw_V 78 mX9_done := lw_vt (by decide) 920 921 922 84 (by decide +kernel) (by decide +kernel) (by decide +kernel) (by decide +kernel) rfl
set_option maxRecDepth 20000 in
theorem lw_v_X10_done : lw_V 81 mX10_done := lw_vt (by decide) 1584 1585 1586 94 (by decide +kernel) (by decide +kernel) (by decide +kernel) (by decide +kernel) rfl
set_option maxRecDepth 20000 in
theorem lw_v_X9_mentioned : lw_V 82 mX9_mentioned := lw_vt (by decide) 998 999 1000 84 (by decide +kernel) (by decide +kernel) (by decide +kernel) (by decide +kernel) rfl
set_option maxRecDepth 20000 in
theorem lw_v_X10_mentioned : lw_V 85 mX10_mentioned := lw_vt (by decide) 1600 1601 1602 94 (by decide +kernel) (by decide +kernel) (by decide +kernel) (by decide +kernel) rfl
set_option maxRecDepth 20000 in
theorem lw_v_X9_owned : lw_V 86 mX9_owned := lw_vt (by decide) 1003 1004 1005 84 (by decide +kernel) (by decide +kernel) (by decide +kernel) (by decide +kernel) rfl
set_option maxRecDepth 20000 in
theorem lw_v_X10_owned : lw_V 89 mX10_owned := lw_vt (by decide) 1604 1605 1606 94 (by decide +kernel) (by decide +kernel) (by decide +kernel) (by decide +kernel) rfl
set_option maxRecDepth 20000 in
theorem lw_v_X9_judge : lw_V 90 mX9_judge := lw_vt (by decide) 1012 1013 1014 84 (by decide +kernel) (by decide +kernel) (by decide +kernel) (by decide +kernel) rfl
set_option maxRecDepth 20000 in
theorem lw_v_X10_judge : lw_V 93 mX10_judge := lw_vt (by decide) 1608 1609 1610 94 (by decide +kernel) (by decide +kernel) (by decide +kernel) (by decide +kernel) rfl
set_option maxRecDepth 20000 in
theorem lw_v_X9_breaks : lw_V 94 mX9_breaks := lw_vt (by decide) 1024 1025 1026 84 (by decide +kernel) (by decide +kernel) (by decide +kernel) (by decide +kernel) rfl
set_option maxRecDepth 20000 in
theorem lw_v_X10_breaks : lw_V 97 mX10_breaks := lw_vt (by decide) 1612 1613 1614 94 (by decide +kernel) (by decide +kernel) (by decide +kernel) (by decide +kernel) rfl
set_option maxRecDepth 20000 in
theorem lw_v_X9_acts : lw_V 98 mX9_acts := lw_vt (by decide) 1036 1037 1038 84 (by decide +kernel) (by decide +kernel) (by decide +kernel) (by decide +kernel) rfl
set_option maxRecDepth 20000 in
theorem lw_v_X10_acts : lw_V 101 mX10_acts := lw_vt (by decide) 1616 1617 1618 94 (by decide +kernel) (by decide +kernel) (by decide +kernel) (by decide +kernel) rfl
set_option maxRecDepth 20000 in
theorem lw_v_X9_noun : lw_V 102 mX9_noun := lw_vt (by decide) 1044 1045 1046 84 (by decide +kernel) (by decide +kernel) (by decide +kernel) (by decide +kernel) rfl
set_option maxRecDepth 20000 in
theorem lw_v_X10_noun : lw_V 105 mX10_noun := lw_vt (by decide) 1620 1621 1622 94 (by decide +kernel) (by decide +kernel) (by decide +kernel) (by decide +kernel) rfl
set_option maxRecDepth 20000 in
theorem lw_v_X9_check : lw_V 106 mX9_check := lw_vt (by decide) 1052 1053 1054 84 (by decide +kernel) (by decide +kernel) (by decide +kernel) (by decide +kernel) rfl
set_option maxRecDepth 20000 in
theorem lw_v_X10_check : lw_V 109 mX10_check := lw_vt (by decide) 1624 1625 1626 94 (by decide +kernel) (by decide +kernel) (by decide +kernel) (by decide +kernel) rfl
set_option maxRecDepth 20000 in
theorem lw_v_X9_count : lw_V 110 mX9_count := lw_vt (by decide) 1065 1066 1067 84 (by decide +kernel) (by decide +kernel) (by decide +kernel) (by decide +kernel) rfl
set_option maxRecDepth 20000 in
theorem lw_v_X10_count : lw_V 113 mX10_count := lw_vt (by decide) 1632 1633 1634 94 (by decide +kernel) (by decide +kernel) (by decide +kernel) (by decide +kernel) rfl
