set_option maxRecDepth 100000 in
theorem lk_X6_15 : LV RX6 15 jX6_begin 0 := ⟨kbX6_begin, rfl, List.mem_filter.mpr ⟨List.mem_of_getElem? (i := 293) (by decide +kernel), by decide +kernel⟩, List.mem_filter.mpr ⟨List.mem_of_getElem? (i := 294) (by decide +kernel), by decide +kernel⟩, List.mem_filter.mpr ⟨List.mem_of_getElem? (i := 295) (by decide +kernel), by decide +kernel⟩⟩
set_option maxRecDepth 100000 in
theorem lk_X6_47 : LV RX6 47 jX6_beginNumber 0 := ⟨kbX6_beginNumber, rfl, List.mem_filter.mpr ⟨List.mem_of_getElem? (i := 297) (by decide +kernel), by decide +kernel⟩, List.mem_filter.mpr ⟨List.mem_of_getElem? (i := 299) (by decide +kernel), by decide +kernel⟩, List.mem_filter.mpr ⟨List.mem_of_getElem? (i := 0) (by decide +kernel), by decide +kernel⟩⟩
set_option maxRecDepth 100000 in
theorem lk_L_13 : LV RL 13 jX9_move 2 := ⟨kbX9_move, rfl, List.mem_filter.mpr ⟨List.mem_of_getElem? (i := 408) (by decide +kernel), by decide +kernel⟩, List.mem_filter.mpr ⟨List.mem_of_getElem? (i := 409) (by decide +kernel), by decide +kernel⟩, List.mem_filter.mpr ⟨List.mem_of_getElem? (i := 410) (by decide +kernel), by decide +kernel⟩⟩
set_option maxRecDepth 100000 in
theorem lk_X9_79 : LT RX9 79 jX9_fits 1 := ⟨kbX9_fits, List.mem_filter.mpr ⟨List.mem_of_getElem? (i := 412) (by decide +kernel), by decide +kernel⟩, List.mem_filter.mpr ⟨List.mem_of_getElem? (i := 413) (by decide +kernel), by decide +kernel⟩⟩
set_option maxRecDepth 100000 in
theorem lk_X9_129 : LT RX9 129 jX9_between 3 := ⟨kbX9_between, List.mem_filter.mpr ⟨List.mem_of_getElem? (i := 415) (by decide +kernel), by decide +kernel⟩, List.mem_filter.mpr ⟨List.mem_of_getElem? (i := 416) (by decide +kernel), by decide +kernel⟩⟩
set_option maxRecDepth 100000 in
theorem lk_X9_84 : LV RX9 84 jX9_append 7 := ⟨kbX9_append, rfl, List.mem_filter.mpr ⟨List.mem_of_getElem? (i := 419) (by decide +kernel), by decide +kernel⟩, List.mem_filter.mpr ⟨List.mem_of_getElem? (i := 421) (by decide +kernel), by decide +kernel⟩, List.mem_filter.mpr ⟨List.mem_of_getElem? (i := 1) (by decide +kernel), by decide +kernel⟩⟩
set_option maxRecDepth 100000 in
theorem lk_X9_294 : LV RX9 294 jX5_add 7 := ⟨kbX5_add, rfl, List.mem_filter.mpr ⟨List.mem_of_getElem? (i := 424) (by decide +kernel), by decide +kernel⟩, List.mem_filter.mpr ⟨List.mem_of_getElem? (i := 425) (by decide +kernel), by decide +kernel⟩, List.mem_filter.mpr ⟨List.mem_of_getElem? (i := 426) (by decide +kernel), by decide +kernel⟩⟩
set_option maxRecDepth 100000 in
theorem lk_X5_25 : LV RX5 25 jX5_addKind 1 := ⟨kbX5_addKind, rfl, List.mem_filter.mpr ⟨List.mem_of_getElem? (i := 428) (by decide +kernel), by decide +kernel⟩, List.mem_filter.mpr ⟨List.mem_of_getElem? (i := 430) (by decide +kernel), by decide +kernel⟩, List.mem_filter.mpr ⟨List.mem_of_getElem? (i := 2) (by decide +kernel), by decide +kernel⟩⟩
set_option maxRecDepth 100000 in
theorem lk_L_18 : LV RL 18 jX9_line 2 := ⟨kbX9_line, rfl, List.mem_filter.mpr ⟨List.mem_of_getElem? (i := 432) (by decide +kernel), by decide +kernel⟩, List.mem_filter.mpr ⟨List.mem_of_getElem? (i := 433) (by decide +kernel), by decide +kernel⟩, List.mem_filter.mpr ⟨List.mem_of_getElem? (i := 434) (by decide +kernel), by decide +kernel⟩⟩
set_option maxRecDepth 100000 in
theorem lk_X9_88 : LV RX9 88 jX9_goOn 7 := ⟨kbX9_goOn, rfl, List.mem_filter.mpr ⟨List.mem_of_getElem? (i := 436) (by decide +kernel), by decide +kernel⟩, List.mem_filter.mpr ⟨List.mem_of_getElem? (i := 438) (by decide +kernel), by decide +kernel⟩, List.mem_filter.mpr ⟨List.mem_of_getElem? (i := 3) (by decide +kernel), by decide +kernel⟩⟩
set_option maxRecDepth 100000 in
theorem lk_X9_291 : LV RX9 291 jX5_isOpen 0 := ⟨kbX5_isOpen, rfl, List.mem_filter.mpr ⟨List.mem_of_getElem? (i := 440) (by decide +kernel), by decide +kernel⟩, List.mem_filter.mpr ⟨List.mem_of_getElem? (i := 441) (by decide +kernel), by decide +kernel⟩, List.mem_filter.mpr ⟨List.mem_of_getElem? (i := 442) (by decide +kernel), by decide +kernel⟩⟩
set_option maxRecDepth 100000 in
theorem lk_L_22 : LV RL 22 jX9_quad 4 := ⟨kbX9_quad, rfl, List.mem_filter.mpr ⟨List.mem_of_getElem? (i := 445) (by decide +kernel), by decide +kernel⟩, List.mem_filter.mpr ⟨List.mem_of_getElem? (i := 446) (by decide +kernel), by decide +kernel⟩, List.mem_filter.mpr ⟨List.mem_of_getElem? (i := 447) (by decide +kernel), by decide +kernel⟩⟩
set_option maxRecDepth 100000 in
theorem lk_L_27 : LV RL 27 jX9_cubic 6 := ⟨kbX9_cubic, rfl, List.mem_filter.mpr ⟨List.mem_of_getElem? (i := 449) (by decide +kernel), by decide +kernel⟩, List.mem_filter.mpr ⟨List.mem_of_getElem? (i := 450) (by decide +kernel), by decide +kernel⟩, List.mem_filter.mpr ⟨List.mem_of_getElem? (i := 451) (by decide +kernel), by decide +kernel⟩⟩
set_option maxRecDepth 100000 in
theorem lk_L_32 : LV RL 32 jX9_close 0 := ⟨kbX9_close, rfl, List.mem_filter.mpr ⟨List.mem_of_getElem? (i := 453) (by decide +kernel), by decide +kernel⟩, List.mem_filter.mpr ⟨List.mem_of_getElem? (i := 454) (by decide +kernel), by decide +kernel⟩, List.mem_filter.mpr ⟨List.mem_of_getElem? (i := 455) (by decide +kernel), by decide +kernel⟩⟩
set_option maxRecDepth 100000 in
theorem lk_X9_94 : LV RX9 94 jX5_firstOf 1 := ⟨kbX5_firstOf, rfl, List.mem_filter.mpr ⟨List.mem_of_getElem? (i := 457) (by decide +kernel), by decide +kernel⟩, List.mem_filter.mpr ⟨List.mem_of_getElem? (i := 458) (by decide +kernel), by decide +kernel⟩, List.mem_filter.mpr ⟨List.mem_of_getElem? (i := 459) (by decide +kernel), by decide +kernel⟩⟩
set_option maxRecDepth 100000 in
theorem lk_X9_98 : LV RX9 98 jX5_endX 1 := ⟨kbX5_endX, rfl, List.mem_filter.mpr ⟨List.mem_of_getElem? (i := 461) (by decide +kernel), by decide +kernel⟩, List.mem_filter.mpr ⟨List.mem_of_getElem? (i := 462) (by decide +kernel), by decide +kernel⟩, List.mem_filter.mpr ⟨List.mem_of_getElem? (i := 463) (by decide +kernel), by decide +kernel⟩⟩
set_option maxRecDepth 100000 in
theorem lk_X5_42 : LV RX5 42 jX5_pointsOf 1 := ⟨kbX5_pointsOf, rfl, List.mem_filter.mpr ⟨List.mem_of_getElem? (i := 465) (by decide +kernel), by decide +kernel⟩, List.mem_filter.mpr ⟨List.mem_of_getElem? (i := 466) (by decide +kernel), by decide +kernel⟩, List.mem_filter.mpr ⟨List.mem_of_getElem? (i := 467) (by decide +kernel), by decide +kernel⟩⟩
set_option maxRecDepth 100000 in
theorem lk_X5_38 : LV RX5 38 jX5_kindOf 1 := ⟨kbX5_kindOf, rfl, List.mem_filter.mpr ⟨List.mem_of_getElem? (i := 471) (by decide +kernel), by decide +kernel⟩, List.mem_filter.mpr ⟨List.mem_of_getElem? (i := 472) (by decide +kernel), by decide +kernel⟩, List.mem_filter.mpr ⟨List.mem_of_getElem? (i := 473) (by decide +kernel), by decide +kernel⟩⟩
set_option maxRecDepth 100000 in
theorem lk_X5_45 : LV RX5 45 jX5_numberOf 2 := ⟨kbX5_numberOf, rfl, List.mem_filter.mpr ⟨List.mem_of_getElem? (i := 475) (by decide +kernel), by decide +kernel⟩, List.mem_filter.mpr ⟨List.mem_of_getElem? (i := 476) (by decide +kernel), by decide +kernel⟩, List.mem_filter.mpr ⟨List.mem_of_getElem? (i := 477) (by decide +kernel), by decide +kernel⟩⟩
set_option maxRecDepth 100000 in
theorem lk_X9_101 : LV RX9 101 jX5_endY 1 := ⟨kbX5_endY, rfl, List.mem_filter.mpr ⟨List.mem_of_getElem? (i := 479) (by decide +kernel), by decide +kernel⟩, List.mem_filter.mpr ⟨List.mem_of_getElem? (i := 480) (by decide +kernel), by decide +kernel⟩, List.mem_filter.mpr ⟨List.mem_of_getElem? (i := 481) (by decide +kernel), by decide +kernel⟩⟩
set_option maxRecDepth 100000 in
theorem lk_L_37 : LV RL 37 jX9_removeLast 0 := ⟨kbX9_removeLast, rfl, List.mem_filter.mpr ⟨List.mem_of_getElem? (i := 483) (by decide +kernel), by decide +kernel⟩, List.mem_filter.mpr ⟨List.mem_of_getElem? (i := 484) (by decide +kernel), by decide +kernel⟩, List.mem_filter.mpr ⟨List.mem_of_getElem? (i := 485) (by decide +kernel), by decide +kernel⟩⟩
set_option maxRecDepth 100000 in
theorem lk_X9_108 : LV RX9 108 jX5_dropLast 0 := ⟨kbX5_dropLast, rfl, List.mem_filter.mpr ⟨List.mem_of_getElem? (i := 487) (by decide +kernel), by decide +kernel⟩, List.mem_filter.mpr ⟨List.mem_of_getElem? (i := 488) (by decide +kernel), by decide +kernel⟩, List.mem_filter.mpr ⟨List.mem_of_getElem? (i := 489) (by decide +kernel), by decide +kernel⟩⟩
set_option maxRecDepth 100000 in
theorem lk_L_41 : LV RL 41 jX9_command 2 := ⟨kbX9_command, rfl, List.mem_filter.mpr ⟨List.mem_of_getElem? (i := 491) (by decide +kernel), by decide +kernel⟩, List.mem_filter.mpr ⟨List.mem_of_getElem? (i := 492) (by decide +kernel), by decide +kernel⟩, List.mem_filter.mpr ⟨List.mem_of_getElem? (i := 493) (by decide +kernel), by decide +kernel⟩⟩
set_option maxRecDepth 100000 in
theorem lk_X9_112 : LV RX9 112 jX5_kindOf 1 := ⟨kbX5_kindOf, rfl, List.mem_filter.mpr ⟨List.mem_of_getElem? (i := 496) (by decide +kernel), by decide +kernel⟩, List.mem_filter.mpr ⟨List.mem_of_getElem? (i := 472) (by decide +kernel), by decide +kernel⟩, List.mem_filter.mpr ⟨List.mem_of_getElem? (i := 473) (by decide +kernel), by decide +kernel⟩⟩
set_option maxRecDepth 100000 in
theorem lk_X9_115 : LV RX9 115 jX5_contourOf 1 := ⟨kbX5_contourOf, rfl, List.mem_filter.mpr ⟨List.mem_of_getElem? (i := 497) (by decide +kernel), by decide +kernel⟩, List.mem_filter.mpr ⟨List.mem_of_getElem? (i := 498) (by decide +kernel), by decide +kernel⟩, List.mem_filter.mpr ⟨List.mem_of_getElem? (i := 499) (by decide +kernel), by decide +kernel⟩⟩
set_option maxRecDepth 100000 in
theorem lk_X9_118 : LV RX9 118 jX9_flattened 0 := ⟨kbX9_flattened, rfl, List.mem_filter.mpr ⟨List.mem_of_getElem? (i := 501) (by decide +kernel), by decide +kernel⟩, List.mem_filter.mpr ⟨List.mem_of_getElem? (i := 503) (by decide +kernel), by decide +kernel⟩, List.mem_filter.mpr ⟨List.mem_of_getElem? (i := 4) (by decide +kernel), by decide +kernel⟩⟩
set_option maxRecDepth 100000 in
theorem lk_X9_298 : LV RX9 298 jX1_flatten 2 := ⟨kbX1_flatten, rfl, List.mem_filter.mpr ⟨List.mem_of_getElem? (i := 505) (by decide +kernel), by decide +kernel⟩, List.mem_filter.mpr ⟨List.mem_of_getElem? (i := 506) (by decide +kernel), by decide +kernel⟩, List.mem_filter.mpr ⟨List.mem_of_getElem? (i := 507) (by decide +kernel), by decide +kernel⟩⟩
set_option maxRecDepth 100000 in
theorem lk_X1_48 : LV RX1 48 jX5_kindOf 1 := ⟨kbX5_kindOf, rfl, List.mem_filter.mpr ⟨List.mem_of_getElem? (i := 509) (by decide +kernel), by decide +kernel⟩, List.mem_filter.mpr ⟨List.mem_of_getElem? (i := 472) (by decide +kernel), by decide +kernel⟩, List.mem_filter.mpr ⟨List.mem_of_getElem? (i := 473) (by decide +kernel), by decide +kernel⟩⟩
set_option maxRecDepth 100000 in
theorem lk_X1_52 : LV RX1 52 jX5_endX 1 := ⟨kbX5_endX, rfl, List.mem_filter.mpr ⟨List.mem_of_getElem? (i := 510) (by decide +kernel), by decide +kernel⟩, List.mem_filter.mpr ⟨List.mem_of_getElem? (i := 462) (by decide +kernel), by decide +kernel⟩, List.mem_filter.mpr ⟨List.mem_of_getElem? (i := 463) (by decide +kernel), by decide +kernel⟩⟩
set_option maxRecDepth 100000 in
theorem lk_X1_55 : LV RX1 55 jX5_endY 1 := ⟨kbX5_endY, rfl, List.mem_filter.mpr ⟨List.mem_of_getElem? (i := 511) (by decide +kernel), by decide +kernel⟩, List.mem_filter.mpr ⟨List.mem_of_getElem? (i := 480) (by decide +kernel), by decide +kernel⟩, List.mem_filter.mpr ⟨List.mem_of_getElem? (i := 481) (by decide +kernel), by decide +kernel⟩⟩
set_option maxRecDepth 100000 in
theorem lk_X1_58 : LV RX1 58 jX1_beginContour 3 := ⟨kbX1_beginContour, rfl, List.mem_filter.mpr ⟨List.mem_of_getElem? (i := 512) (by decide +kernel), by decide +kernel⟩, List.mem_filter.mpr ⟨List.mem_of_getElem? (i := 514) (by decide +kernel), by decide +kernel⟩, List.mem_filter.mpr ⟨List.mem_of_getElem? (i := 5) (by decide +kernel), by decide +kernel⟩⟩
set_option maxRecDepth 100000 in
theorem lk_X1_69 : LV RX1 69 jX1_append 4 := ⟨kbX1_append, rfl, List.mem_filter.mpr ⟨List.mem_of_getElem? (i := 516) (by decide +kernel), by decide +kernel⟩, List.mem_filter.mpr ⟨List.mem_of_getElem? (i := 518) (by decide +kernel), by decide +kernel⟩, List.mem_filter.mpr ⟨List.mem_of_getElem? (i := 6) (by decide +kernel), by decide +kernel⟩⟩
set_option maxRecDepth 100000 in
theorem lk_X1_62 : LV RX1 62 jX1_addCurve 3 := ⟨kbX1_addCurve, rfl, List.mem_filter.mpr ⟨List.mem_of_getElem? (i := 520) (by decide +kernel), by decide +kernel⟩, List.mem_filter.mpr ⟨List.mem_of_getElem? (i := 522) (by decide +kernel), by decide +kernel⟩, List.mem_filter.mpr ⟨List.mem_of_getElem? (i := 7) (by decide +kernel), by decide +kernel⟩⟩
set_option maxRecDepth 100000 in
theorem lk_X1_73 : LV RX1 73 jX2_begin 4 := ⟨kbX2_begin, rfl, List.mem_filter.mpr ⟨List.mem_of_getElem? (i := 524) (by decide +kernel), by decide +kernel⟩, List.mem_filter.mpr ⟨List.mem_of_getElem? (i := 525) (by decide +kernel), by decide +kernel⟩, List.mem_filter.mpr ⟨List.mem_of_getElem? (i := 526) (by decide +kernel), by decide +kernel⟩⟩
set_option maxRecDepth 100000 in
theorem lk_X2_27 : LV RX2 27 jX5_pointsOf 1 := ⟨kbX5_pointsOf, rfl, List.mem_filter.mpr ⟨List.mem_of_getElem? (i := 528) (by decide +kernel), by decide +kernel⟩, List.mem_filter.mpr ⟨List.mem_of_getElem? (i := 466) (by decide +kernel), by decide +kernel⟩, List.mem_filter.mpr ⟨List.mem_of_getElem? (i := 467) (by decide +kernel), by decide +kernel⟩⟩
set_option maxRecDepth 100000 in
theorem lk_X2_33 : LV RX2 33 jX5_numberOf 2 := ⟨kbX5_numberOf, rfl, List.mem_filter.mpr ⟨List.mem_of_getElem? (i := 529) (by decide +kernel), by decide +kernel⟩, List.mem_filter.mpr ⟨List.mem_of_getElem? (i := 476) (by decide +kernel), by decide +kernel⟩, List.mem_filter.mpr ⟨List.mem_of_getElem? (i := 477) (by decide +kernel), by decide +kernel⟩⟩
set_option maxRecDepth 100000 in
theorem lk_X1_77 : LV RX1 77 jX2_hasMore 0 := ⟨kbX2_hasMore, rfl, List.mem_filter.mpr ⟨List.mem_of_getElem? (i := 530) (by decide +kernel), by decide +kernel⟩, List.mem_filter.mpr ⟨List.mem_of_getElem? (i := 531) (by decide +kernel), by decide +kernel⟩, List.mem_filter.mpr ⟨List.mem_of_getElem? (i := 532) (by decide +kernel), by decide +kernel⟩⟩
set_option maxRecDepth 100000 in
theorem lk_X1_81 : LV RX1 81 jX2_halveNext 1 := ⟨kbX2_halveNext, rfl, List.mem_filter.mpr ⟨List.mem_of_getElem? (i := 534) (by decide +kernel), by decide +kernel⟩, List.mem_filter.mpr ⟨List.mem_of_getElem? (i := 535) (by decide +kernel), by decide +kernel⟩, List.mem_filter.mpr ⟨List.mem_of_getElem? (i := 536) (by decide +kernel), by decide +kernel⟩⟩
set_option maxRecDepth 100000 in
theorem lk_X2_37 : LV RX2 37 jX2_isFlat 2 := ⟨kbX2_isFlat, rfl, List.mem_filter.mpr ⟨List.mem_of_getElem? (i := 538) (by decide +kernel), by decide +kernel⟩, List.mem_filter.mpr ⟨List.mem_of_getElem? (i := 540) (by decide +kernel), by decide +kernel⟩, List.mem_filter.mpr ⟨List.mem_of_getElem? (i := 8) (by decide +kernel), by decide +kernel⟩⟩
set_option maxRecDepth 100000 in
theorem lk_X2_45 : LT RX2 45 jJ9_abs_0f7a4 1 := ⟨kbJ9_abs_0f7a4, List.mem_filter.mpr ⟨List.mem_of_getElem? (i := 542) (by decide +kernel), by decide +kernel⟩, List.mem_filter.mpr ⟨List.mem_of_getElem? (i := 543) (by decide +kernel), by decide +kernel⟩⟩
set_option maxRecDepth 100000 in
theorem lk_X2_41 : LV RX2 41 jX2_halve 2 := ⟨kbX2_halve, rfl, List.mem_filter.mpr ⟨List.mem_of_getElem? (i := 545) (by decide +kernel), by decide +kernel⟩, List.mem_filter.mpr ⟨List.mem_of_getElem? (i := 547) (by decide +kernel), by decide +kernel⟩, List.mem_filter.mpr ⟨List.mem_of_getElem? (i := 9) (by decide +kernel), by decide +kernel⟩⟩
set_option maxRecDepth 100000 in
theorem lk_X1_85 : LV RX1 85 jX2_nextX 0 := ⟨kbX2_nextX, rfl, List.mem_filter.mpr ⟨List.mem_of_getElem? (i := 549) (by decide +kernel), by decide +kernel⟩, List.mem_filter.mpr ⟨List.mem_of_getElem? (i := 550) (by decide +kernel), by decide +kernel⟩, List.mem_filter.mpr ⟨List.mem_of_getElem? (i := 551) (by decide +kernel), by decide +kernel⟩⟩
set_option maxRecDepth 100000 in
theorem lk_X1_89 : LV RX1 89 jX2_nextY 0 := ⟨kbX2_nextY, rfl, List.mem_filter.mpr ⟨List.mem_of_getElem? (i := 553) (by decide +kernel), by decide +kernel⟩, List.mem_filter.mpr ⟨List.mem_of_getElem? (i := 554) (by decide +kernel), by decide +kernel⟩, List.mem_filter.mpr ⟨List.mem_of_getElem? (i := 555) (by decide +kernel), by decide +kernel⟩⟩
set_option maxRecDepth 100000 in
theorem lk_X1_66 : LV RX1 66 jX1_addVertex 3 := ⟨kbX1_addVertex, rfl, List.mem_filter.mpr ⟨List.mem_of_getElem? (i := 557) (by decide +kernel), by decide +kernel⟩, List.mem_filter.mpr ⟨List.mem_of_getElem? (i := 559) (by decide +kernel), by decide +kernel⟩, List.mem_filter.mpr ⟨List.mem_of_getElem? (i := 10) (by decide +kernel), by decide +kernel⟩⟩
set_option maxRecDepth 100000 in
theorem lk_X1_95 : LT RX1 95 jX1_segmentLength 2 := ⟨kbX1_segmentLength, List.mem_filter.mpr ⟨List.mem_of_getElem? (i := 561) (by decide +kernel), by decide +kernel⟩, List.mem_filter.mpr ⟨List.mem_of_getElem? (i := 562) (by decide +kernel), by decide +kernel⟩⟩
set_option maxRecDepth 100000 in
theorem lk_X1_92 : LV RX1 92 jX2_dropNext 0 := ⟨kbX2_dropNext, rfl, List.mem_filter.mpr ⟨List.mem_of_getElem? (i := 565) (by decide +kernel), by decide +kernel⟩, List.mem_filter.mpr ⟨List.mem_of_getElem? (i := 566) (by decide +kernel), by decide +kernel⟩, List.mem_filter.mpr ⟨List.mem_of_getElem? (i := 567) (by decide +kernel), by decide +kernel⟩⟩
set_option maxRecDepth 100000 in
theorem lk_X9_122 : LV RX9 122 jX1_lengthMadeBy 1 := ⟨kbX1_lengthMadeBy, rfl, List.mem_filter.mpr ⟨List.mem_of_getElem? (i := 569) (by decide +kernel), by decide +kernel⟩, List.mem_filter.mpr ⟨List.mem_of_getElem? (i := 570) (by decide +kernel), by decide +kernel⟩, List.mem_filter.mpr ⟨List.mem_of_getElem? (i := 571) (by decide +kernel), by decide +kernel⟩⟩
set_option maxRecDepth 100000 in
theorem lk_X9_125 : LV RX9 125 jX5_control 2 := ⟨kbX5_control, rfl, List.mem_filter.mpr ⟨List.mem_of_getElem? (i := 573) (by decide +kernel), by decide +kernel⟩, List.mem_filter.mpr ⟨List.mem_of_getElem? (i := 574) (by decide +kernel), by decide +kernel⟩, List.mem_filter.mpr ⟨List.mem_of_getElem? (i := 575) (by decide +kernel), by decide +kernel⟩⟩
set_option maxRecDepth 100000 in
theorem lk_L_45 : LV RL 45 jX9_setTolerance 1 := ⟨kbX9_setTolerance, rfl, List.mem_filter.mpr ⟨List.mem_of_getElem? (i := 578) (by decide +kernel), by decide +kernel⟩, List.mem_filter.mpr ⟨List.mem_of_getElem? (i := 579) (by decide +kernel), by decide +kernel⟩, List.mem_filter.mpr ⟨List.mem_of_getElem? (i := 580) (by decide +kernel), by decide +kernel⟩⟩
set_option maxRecDepth 100000 in
theorem lk_L_50 : LV RL 50 jX9_reverse 1 := ⟨kbX9_reverse, rfl, List.mem_filter.mpr ⟨List.mem_of_getElem? (i := 582) (by decide +kernel), by decide +kernel⟩, List.mem_filter.mpr ⟨List.mem_of_getElem? (i := 583) (by decide +kernel), by decide +kernel⟩, List.mem_filter.mpr ⟨List.mem_of_getElem? (i := 584) (by decide +kernel), by decide +kernel⟩⟩
set_option maxRecDepth 100000 in
theorem lk_X9_133 : LV RX9 133 jX9_isContour 1 := ⟨kbX9_isContour, rfl, List.mem_filter.mpr ⟨List.mem_of_getElem? (i := 586) (by decide +kernel), by decide +kernel⟩, List.mem_filter.mpr ⟨List.mem_of_getElem? (i := 588) (by decide +kernel), by decide +kernel⟩, List.mem_filter.mpr ⟨List.mem_of_getElem? (i := 11) (by decide +kernel), by decide +kernel⟩⟩
set_option maxRecDepth 100000 in
theorem lk_X9_136 : LV RX9 136 jX5_becomeReversed 2 := ⟨kbX5_becomeReversed, rfl, List.mem_filter.mpr ⟨List.mem_of_getElem? (i := 590) (by decide +kernel), by decide +kernel⟩, List.mem_filter.mpr ⟨List.mem_of_getElem? (i := 591) (by decide +kernel), by decide +kernel⟩, List.mem_filter.mpr ⟨List.mem_of_getElem? (i := 592) (by decide +kernel), by decide +kernel⟩⟩
set_option maxRecDepth 100000 in
theorem lk_X5_63 : LV RX5 63 jX5_clear 0 := ⟨kbX5_clear, rfl, List.mem_filter.mpr ⟨List.mem_of_getElem? (i := 594) (by decide +kernel), by decide +kernel⟩, List.mem_filter.mpr ⟨List.mem_of_getElem? (i := 595) (by decide +kernel), by decide +kernel⟩, List.mem_filter.mpr ⟨List.mem_of_getElem? (i := 596) (by decide +kernel), by decide +kernel⟩⟩
set_option maxRecDepth 100000 in
theorem lk_X5_50 : LV RX5 50 jX5_firstOf 1 := ⟨kbX5_firstOf, rfl, List.mem_filter.mpr ⟨List.mem_of_getElem? (i := 598) (by decide +kernel), by decide +kernel⟩, List.mem_filter.mpr ⟨List.mem_of_getElem? (i := 458) (by decide +kernel), by decide +kernel⟩, List.mem_filter.mpr ⟨List.mem_of_getElem? (i := 459) (by decide +kernel), by decide +kernel⟩⟩
set_option maxRecDepth 100000 in
theorem lk_X5_53 : LV RX5 53 jX5_behind 1 := ⟨kbX5_behind, rfl, List.mem_filter.mpr ⟨List.mem_of_getElem? (i := 599) (by decide +kernel), by decide +kernel⟩, List.mem_filter.mpr ⟨List.mem_of_getElem? (i := 600) (by decide +kernel), by decide +kernel⟩, List.mem_filter.mpr ⟨List.mem_of_getElem? (i := 601) (by decide +kernel), by decide +kernel⟩⟩
set_option maxRecDepth 100000 in
theorem lk_X5_66 : LV RX5 66 jX5_addCopies 3 := ⟨kbX5_addCopies, rfl, List.mem_filter.mpr ⟨List.mem_of_getElem? (i := 603) (by decide +kernel), by decide +kernel⟩, List.mem_filter.mpr ⟨List.mem_of_getElem? (i := 605) (by decide +kernel), by decide +kernel⟩, List.mem_filter.mpr ⟨List.mem_of_getElem? (i := 12) (by decide +kernel), by decide +kernel⟩⟩
set_option maxRecDepth 100000 in
theorem lk_X5_76 : LV RX5 76 jX5_add 7 := ⟨kbX5_add, rfl, List.mem_filter.mpr ⟨List.mem_of_getElem? (i := 607) (by decide +kernel), by decide +kernel⟩, List.mem_filter.mpr ⟨List.mem_of_getElem? (i := 425) (by decide +kernel), by decide +kernel⟩, List.mem_filter.mpr ⟨List.mem_of_getElem? (i := 426) (by decide +kernel), by decide +kernel⟩⟩
set_option maxRecDepth 100000 in
theorem lk_X5_70 : LV RX5 70 jX5_endX 1 := ⟨kbX5_endX, rfl, List.mem_filter.mpr ⟨List.mem_of_getElem? (i := 608) (by decide +kernel), by decide +kernel⟩, List.mem_filter.mpr ⟨List.mem_of_getElem? (i := 462) (by decide +kernel), by decide +kernel⟩, List.mem_filter.mpr ⟨List.mem_of_getElem? (i := 463) (by decide +kernel), by decide +kernel⟩⟩
set_option maxRecDepth 100000 in
theorem lk_X5_73 : LV RX5 73 jX5_endY 1 := ⟨kbX5_endY, rfl, List.mem_filter.mpr ⟨List.mem_of_getElem? (i := 609) (by decide +kernel), by decide +kernel⟩, List.mem_filter.mpr ⟨List.mem_of_getElem? (i := 480) (by decide +kernel), by decide +kernel⟩, List.mem_filter.mpr ⟨List.mem_of_getElem? (i := 481) (by decide +kernel), by decide +kernel⟩⟩
set_option maxRecDepth 100000 in
theorem lk_X5_80 : LV RX5 80 jX5_addBackward 2 := ⟨kbX5_addBackward, rfl, List.mem_filter.mpr ⟨List.mem_of_getElem? (i := 610) (by decide +kernel), by decide +kernel⟩, List.mem_filter.mpr ⟨List.mem_of_getElem? (i := 612) (by decide +kernel), by decide +kernel⟩, List.mem_filter.mpr ⟨List.mem_of_getElem? (i := 13) (by decide +kernel), by decide +kernel⟩⟩
set_option maxRecDepth 100000 in
theorem lk_X9_140 : LV RX9 140 jX5_become 1 := ⟨kbX5_become, rfl, List.mem_filter.mpr ⟨List.mem_of_getElem? (i := 614) (by decide +kernel), by decide +kernel⟩, List.mem_filter.mpr ⟨List.mem_of_getElem? (i := 615) (by decide +kernel), by decide +kernel⟩, List.mem_filter.mpr ⟨List.mem_of_getElem? (i := 616) (by decide +kernel), by decide +kernel⟩⟩
set_option maxRecDepth 100000 in
theorem lk_X9_144 : LV RX9 144 jX5_behind 1 := ⟨kbX5_behind, rfl, List.mem_filter.mpr ⟨List.mem_of_getElem? (i := 621) (by decide +kernel), by decide +kernel⟩, List.mem_filter.mpr ⟨List.mem_of_getElem? (i := 600) (by decide +kernel), by decide +kernel⟩, List.mem_filter.mpr ⟨List.mem_of_getElem? (i := 601) (by decide +kernel), by decide +kernel⟩⟩
set_option maxRecDepth 100000 in
theorem lk_L_54 : LV RL 54 jX9_transform 6 := ⟨kbX9_transform, rfl, List.mem_filter.mpr ⟨List.mem_of_getElem? (i := 622) (by decide +kernel), by decide +kernel⟩, List.mem_filter.mpr ⟨List.mem_of_getElem? (i := 623) (by decide +kernel), by decide +kernel⟩, List.mem_filter.mpr ⟨List.mem_of_getElem? (i := 624) (by decide +kernel), by decide +kernel⟩⟩
set_option maxRecDepth 100000 in
theorem lk_X9_147 : LV RX9 147 jX5_becomeTransformed 7 := ⟨kbX5_becomeTransformed, rfl, List.mem_filter.mpr ⟨List.mem_of_getElem? (i := 626) (by decide +kernel), by decide +kernel⟩, List.mem_filter.mpr ⟨List.mem_of_getElem? (i := 627) (by decide +kernel), by decide +kernel⟩, List.mem_filter.mpr ⟨List.mem_of_getElem? (i := 628) (by decide +kernel), by decide +kernel⟩⟩
set_option maxRecDepth 100000 in
theorem lk_X5_59 : LV RX5 59 jX5_become 1 := ⟨kbX5_become, rfl, List.mem_filter.mpr ⟨List.mem_of_getElem? (i := 630) (by decide +kernel), by decide +kernel⟩, List.mem_filter.mpr ⟨List.mem_of_getElem? (i := 615) (by decide +kernel), by decide +kernel⟩, List.mem_filter.mpr ⟨List.mem_of_getElem? (i := 616) (by decide +kernel), by decide +kernel⟩⟩
set_option maxRecDepth 100000 in
theorem lk_X9_151 : LV RX9 151 jX5_isInRange 0 := ⟨kbX5_isInRange, rfl, List.mem_filter.mpr ⟨List.mem_of_getElem? (i := 631) (by decide +kernel), by decide +kernel⟩, List.mem_filter.mpr ⟨List.mem_of_getElem? (i := 632) (by decide +kernel), by decide +kernel⟩, List.mem_filter.mpr ⟨List.mem_of_getElem? (i := 633) (by decide +kernel), by decide +kernel⟩⟩
set_option maxRecDepth 100000 in
theorem lk_L_58 : LV RL 58 jX9_say 1 := ⟨kbX9_say, rfl, List.mem_filter.mpr ⟨List.mem_of_getElem? (i := 636) (by decide +kernel), by decide +kernel⟩, List.mem_filter.mpr ⟨List.mem_of_getElem? (i := 637) (by decide +kernel), by decide +kernel⟩, List.mem_filter.mpr ⟨List.mem_of_getElem? (i := 638) (by decide +kernel), by decide +kernel⟩⟩
set_option maxRecDepth 100000 in
theorem lk_X9_157 : LV RX9 157 jX4_append 1 := ⟨kbX4_append, rfl, List.mem_filter.mpr ⟨List.mem_of_getElem? (i := 640) (by decide +kernel), by decide +kernel⟩, List.mem_filter.mpr ⟨List.mem_of_getElem? (i := 641) (by decide +kernel), by decide +kernel⟩, List.mem_filter.mpr ⟨List.mem_of_getElem? (i := 642) (by decide +kernel), by decide +kernel⟩⟩
set_option maxRecDepth 100000 in
theorem lk_L_62 : LV RL 62 jX9_wipe 0 := ⟨kbX9_wipe, rfl, List.mem_filter.mpr ⟨List.mem_of_getElem? (i := 644) (by decide +kernel), by decide +kernel⟩, List.mem_filter.mpr ⟨List.mem_of_getElem? (i := 645) (by decide +kernel), by decide +kernel⟩, List.mem_filter.mpr ⟨List.mem_of_getElem? (i := 646) (by decide +kernel), by decide +kernel⟩⟩
set_option maxRecDepth 100000 in
theorem lk_L_66 : LV RL 66 jX9_fault 0 := ⟨kbX9_fault, rfl, List.mem_filter.mpr ⟨List.mem_of_getElem? (i := 648) (by decide +kernel), by decide +kernel⟩, List.mem_filter.mpr ⟨List.mem_of_getElem? (i := 649) (by decide +kernel), by decide +kernel⟩, List.mem_filter.mpr ⟨List.mem_of_getElem? (i := 650) (by decide +kernel), by decide +kernel⟩⟩
set_option maxRecDepth 100000 in
theorem lk_X9_160 : LV RX9 160 jX4_readInto 1 := ⟨kbX4_readInto, rfl, List.mem_filter.mpr ⟨List.mem_of_getElem? (i := 652) (by decide +kernel), by decide +kernel⟩, List.mem_filter.mpr ⟨List.mem_of_getElem? (i := 653) (by decide +kernel), by decide +kernel⟩, List.mem_filter.mpr ⟨List.mem_of_getElem? (i := 654) (by decide +kernel), by decide +kernel⟩⟩
set_option maxRecDepth 100000 in
theorem lk_X4_26 : LV RX4 26 jX5_clear 0 := ⟨kbX5_clear, rfl, List.mem_filter.mpr ⟨List.mem_of_getElem? (i := 656) (by decide +kernel), by decide +kernel⟩, List.mem_filter.mpr ⟨List.mem_of_getElem? (i := 595) (by decide +kernel), by decide +kernel⟩, List.mem_filter.mpr ⟨List.mem_of_getElem? (i := 596) (by decide +kernel), by decide +kernel⟩⟩
set_option maxRecDepth 100000 in
theorem lk_X4_31 : LV RX4 31 jX6_begin 0 := ⟨kbX6_begin, rfl, List.mem_filter.mpr ⟨List.mem_of_getElem? (i := 657) (by decide +kernel), by decide +kernel⟩, List.mem_filter.mpr ⟨List.mem_of_getElem? (i := 294) (by decide +kernel), by decide +kernel⟩, List.mem_filter.mpr ⟨List.mem_of_getElem? (i := 295) (by decide +kernel), by decide +kernel⟩⟩
set_option maxRecDepth 100000 in
theorem lk_X4_34 : LV RX4 34 jX6_takes 2 := ⟨kbX6_takes, rfl, List.mem_filter.mpr ⟨List.mem_of_getElem? (i := 658) (by decide +kernel), by decide +kernel⟩, List.mem_filter.mpr ⟨List.mem_of_getElem? (i := 659) (by decide +kernel), by decide +kernel⟩, List.mem_filter.mpr ⟨List.mem_of_getElem? (i := 660) (by decide +kernel), by decide +kernel⟩⟩
set_option maxRecDepth 100000 in
theorem lk_X6_59 : LV RX6 59 jX6_takesDigit 1 := ⟨kbX6_takesDigit, rfl, List.mem_filter.mpr ⟨List.mem_of_getElem? (i := 662) (by decide +kernel), by decide +kernel⟩, List.mem_filter.mpr ⟨List.mem_of_getElem? (i := 664) (by decide +kernel), by decide +kernel⟩, List.mem_filter.mpr ⟨List.mem_of_getElem? (i := 14) (by decide +kernel), by decide +kernel⟩⟩
set_option maxRecDepth 100000 in
theorem lk_X6_63 : LV RX6 63 jX6_takesMinus 0 := ⟨kbX6_takesMinus, rfl, List.mem_filter.mpr ⟨List.mem_of_getElem? (i := 666) (by decide +kernel), by decide +kernel⟩, List.mem_filter.mpr ⟨List.mem_of_getElem? (i := 668) (by decide +kernel), by decide +kernel⟩, List.mem_filter.mpr ⟨List.mem_of_getElem? (i := 15) (by decide +kernel), by decide +kernel⟩⟩
set_option maxRecDepth 100000 in
theorem lk_X6_67 : LV RX6 67 jX6_takesComma 0 := ⟨kbX6_takesComma, rfl, List.mem_filter.mpr ⟨List.mem_of_getElem? (i := 670) (by decide +kernel), by decide +kernel⟩, List.mem_filter.mpr ⟨List.mem_of_getElem? (i := 672) (by decide +kernel), by decide +kernel⟩, List.mem_filter.mpr ⟨List.mem_of_getElem? (i := 16) (by decide +kernel), by decide +kernel⟩⟩
set_option maxRecDepth 100000 in
theorem lk_X6_74 : LV RX6 74 jX6_finishNumber 0 := ⟨kbX6_finishNumber, rfl, List.mem_filter.mpr ⟨List.mem_of_getElem? (i := 674) (by decide +kernel), by decide +kernel⟩, List.mem_filter.mpr ⟨List.mem_of_getElem? (i := 676) (by decide +kernel), by decide +kernel⟩, List.mem_filter.mpr ⟨List.mem_of_getElem? (i := 17) (by decide +kernel), by decide +kernel⟩⟩
set_option maxRecDepth 100000 in
theorem lk_X6_70 : LV RX6 70 jX6_takesKind 2 := ⟨kbX6_takesKind, rfl, List.mem_filter.mpr ⟨List.mem_of_getElem? (i := 678) (by decide +kernel), by decide +kernel⟩, List.mem_filter.mpr ⟨List.mem_of_getElem? (i := 680) (by decide +kernel), by decide +kernel⟩, List.mem_filter.mpr ⟨List.mem_of_getElem? (i := 18) (by decide +kernel), by decide +kernel⟩⟩
set_option maxRecDepth 100000 in
theorem lk_X6_79 : LV RX6 79 jJ0_indexOf_0f7a4 1 := ⟨kbJ0_indexOf_0f7a4, rfl, List.mem_filter.mpr ⟨List.mem_of_getElem? (i := 683) (by decide +kernel), by decide +kernel⟩, List.mem_filter.mpr ⟨List.mem_of_getElem? (i := 684) (by decide +kernel), by decide +kernel⟩, List.mem_filter.mpr ⟨List.mem_of_getElem? (i := 685) (by decide +kernel), by decide +kernel⟩⟩
set_option maxRecDepth 100000 in
theorem lk_J0_633 : LV RJ0 633 jJ0_indexOf_7cf53 2 := ⟨kbJ0_indexOf_7cf53, rfl, List.mem_filter.mpr ⟨List.mem_of_getElem? (i := 687) (by decide +kernel), by decide +kernel⟩, List.mem_filter.mpr ⟨List.mem_of_getElem? (i := 688) (by decide +kernel), by decide +kernel⟩, List.mem_filter.mpr ⟨List.mem_of_getElem? (i := 689) (by decide +kernel), by decide +kernel⟩⟩
set_option maxRecDepth 100000 in
theorem lk_J0_492 : LV RJ0 492 jJ0_isLatin1_aae02 0 := ⟨kbJ0_isLatin1_aae02, rfl, List.mem_filter.mpr ⟨List.mem_of_getElem? (i := 691) (by decide +kernel), by decide +kernel⟩, List.mem_filter.mpr ⟨List.mem_of_getElem? (i := 692) (by decide +kernel), by decide +kernel⟩, List.mem_filter.mpr ⟨List.mem_of_getElem? (i := 693) (by decide +kernel), by decide +kernel⟩⟩
set_option maxRecDepth 100000 in
theorem lk_J0_505 : LV RJ0 505 jJ0_length_8abf5 0 := ⟨kbJ0_length_8abf5, rfl, List.mem_filter.mpr ⟨List.mem_of_getElem? (i := 697) (by decide +kernel), by decide +kernel⟩, List.mem_filter.mpr ⟨List.mem_of_getElem? (i := 698) (by decide +kernel), by decide +kernel⟩, List.mem_filter.mpr ⟨List.mem_of_getElem? (i := 699) (by decide +kernel), by decide +kernel⟩⟩
set_option maxRecDepth 100000 in
theorem lk_J0_335 : LV RJ0 335 jJ0_coder_7d493 0 := ⟨kbJ0_coder_7d493, rfl, List.mem_filter.mpr ⟨List.mem_of_getElem? (i := 701) (by decide +kernel), by decide +kernel⟩, List.mem_filter.mpr ⟨List.mem_of_getElem? (i := 702) (by decide +kernel), by decide +kernel⟩, List.mem_filter.mpr ⟨List.mem_of_getElem? (i := 703) (by decide +kernel), by decide +kernel⟩⟩
set_option maxRecDepth 100000 in
theorem lk_J0_637 : LT RJ0 637 jJ1_indexOf_4cfef 4 := ⟨kbJ1_indexOf_4cfef, List.mem_filter.mpr ⟨List.mem_of_getElem? (i := 705) (by decide +kernel), by decide +kernel⟩, List.mem_filter.mpr ⟨List.mem_of_getElem? (i := 706) (by decide +kernel), by decide +kernel⟩⟩
set_option maxRecDepth 100000 in
theorem lk_J1_88 : LT RJ1 88 jJ1_canEncode_9a6ad 1 := ⟨kbJ1_canEncode_9a6ad, List.mem_filter.mpr ⟨List.mem_of_getElem? (i := 708) (by decide +kernel), by decide +kernel⟩, List.mem_filter.mpr ⟨List.mem_of_getElem? (i := 709) (by decide +kernel), by decide +kernel⟩⟩
set_option maxRecDepth 100000 in
theorem lk_J1_92 : LT RJ1 92 jJ9_max_7cf53 2 := ⟨kbJ9_max_7cf53, List.mem_filter.mpr ⟨List.mem_of_getElem? (i := 711) (by decide +kernel), by decide +kernel⟩, List.mem_filter.mpr ⟨List.mem_of_getElem? (i := 712) (by decide +kernel), by decide +kernel⟩⟩
set_option maxRecDepth 100000 in
theorem lk_J1_38 : LT RJ1 38 jJ9_min_7cf53 2 := ⟨kbJ9_min_7cf53, List.mem_filter.mpr ⟨List.mem_of_getElem? (i := 714) (by decide +kernel), by decide +kernel⟩, List.mem_filter.mpr ⟨List.mem_of_getElem? (i := 715) (by decide +kernel), by decide +kernel⟩⟩
set_option maxRecDepth 100000 in
theorem lk_J1_95 : LT RJ1 95 jJ1_indexOfChar_4cfef 4 := ⟨kbJ1_indexOfChar_4cfef, List.mem_filter.mpr ⟨List.mem_of_getElem? (i := 717) (by decide +kernel), by decide +kernel⟩, List.mem_filter.mpr ⟨List.mem_of_getElem? (i := 718) (by decide +kernel), by decide +kernel⟩⟩
set_option maxRecDepth 100000 in
theorem lk_J0_640 : LT RJ0 640 jJ2_indexOf_4cfef 4 := ⟨kbJ2_indexOf_4cfef, List.mem_filter.mpr ⟨List.mem_of_getElem? (i := 720) (by decide +kernel), by decide +kernel⟩, List.mem_filter.mpr ⟨List.mem_of_getElem? (i := 721) (by decide +kernel), by decide +kernel⟩⟩
set_option maxRecDepth 100000 in
theorem lk_J2_224 : LT RJ2 224 jJ9_max_7cf53 2 := ⟨kbJ9_max_7cf53, List.mem_filter.mpr ⟨List.mem_of_getElem? (i := 723) (by decide +kernel), by decide +kernel⟩, List.mem_filter.mpr ⟨List.mem_of_getElem? (i := 712) (by decide +kernel), by decide +kernel⟩⟩
set_option maxRecDepth 100000 in
theorem lk_J2_183 : LT RJ2 183 jJ9_min_7cf53 2 := ⟨kbJ9_min_7cf53, List.mem_filter.mpr ⟨List.mem_of_getElem? (i := 724) (by decide +kernel), by decide +kernel⟩, List.mem_filter.mpr ⟨List.mem_of_getElem? (i := 715) (by decide +kernel), by decide +kernel⟩⟩
set_option maxRecDepth 100000 in
theorem lk_J2_228 : LT RJ2 228 jJ2_indexOfChar_4cfef 4 := ⟨kbJ2_indexOfChar_4cfef, List.mem_filter.mpr ⟨List.mem_of_getElem? (i := 726) (by decide +kernel), by decide +kernel⟩, List.mem_filter.mpr ⟨List.mem_of_getElem? (i := 727) (by decide +kernel), by decide +kernel⟩⟩
set_option maxRecDepth 100000 in
theorem lk_J2_96 : LT RJ2 96 jJ2_checkBoundsBeginEnd_d044e 3 := ⟨kbJ2_checkBoundsBeginEnd_d044e, List.mem_filter.mpr ⟨List.mem_of_getElem? (i := 729) (by decide +kernel), by decide +kernel⟩, List.mem_filter.mpr ⟨List.mem_of_getElem? (i := 730) (by decide +kernel), by decide +kernel⟩⟩
set_option maxRecDepth 100000 in
theorem lk_J2_48 : LT RJ2 48 jJ2_length_9d52b 1 := ⟨kbJ2_length_9d52b, List.mem_filter.mpr ⟨List.mem_of_getElem? (i := 732) (by decide +kernel), by decide +kernel⟩, List.mem_filter.mpr ⟨List.mem_of_getElem? (i := 733) (by decide +kernel), by decide +kernel⟩⟩
set_option maxRecDepth 100000 in
theorem lk_J2_241 : LT RJ2 241 jJ0_checkBoundsBeginEnd_23922 3 := ⟨kbJ0_checkBoundsBeginEnd_23922, List.mem_filter.mpr ⟨List.mem_of_getElem? (i := 735) (by decide +kernel), by decide +kernel⟩, List.mem_filter.mpr ⟨List.mem_of_getElem? (i := 736) (by decide +kernel), by decide +kernel⟩⟩
set_option maxRecDepth 100000 in
theorem lk_J0_1062 : LT RJ0 1062 jJ3_checkFromToIndex_8c36e 4 := ⟨kbJ3_checkFromToIndex_8c36e, List.mem_filter.mpr ⟨List.mem_of_getElem? (i := 740) (by decide +kernel), by decide +kernel⟩, List.mem_filter.mpr ⟨List.mem_of_getElem? (i := 741) (by decide +kernel), by decide +kernel⟩⟩
set_option maxRecDepth 100000 in
theorem lk_J2_244 : LT RJ2 244 jJ2_indexOfCharUnsafe_4cfef 4 := ⟨kbJ2_indexOfCharUnsafe_4cfef, List.mem_filter.mpr ⟨List.mem_of_getElem? (i := 743) (by decide +kernel), by decide +kernel⟩, List.mem_filter.mpr ⟨List.mem_of_getElem? (i := 744) (by decide +kernel), by decide +kernel⟩⟩
set_option maxRecDepth 100000 in
theorem lk_J2_71 : LT RJ2 71 jJ2_getChar_3b067 2 := ⟨kbJ2_getChar_3b067, List.mem_filter.mpr ⟨List.mem_of_getElem? (i := 746) (by decide +kernel), by decide +kernel⟩, List.mem_filter.mpr ⟨List.mem_of_getElem? (i := 747) (by decide +kernel), by decide +kernel⟩⟩
set_option maxRecDepth 100000 in
theorem lk_J2_232 : LT RJ2 232 jJ2_indexOfSupplementary_4cfef 4 := ⟨kbJ2_indexOfSupplementary_4cfef, List.mem_filter.mpr ⟨List.mem_of_getElem? (i := 755) (by decide +kernel), by decide +kernel⟩, List.mem_filter.mpr ⟨List.mem_of_getElem? (i := 756) (by decide +kernel), by decide +kernel⟩⟩
set_option maxRecDepth 100000 in
theorem lk_J2_164 : LT RJ2 164 jJ11_isValidCodePoint_9a6ad 1 := ⟨kbJ11_isValidCodePoint_9a6ad, List.mem_filter.mpr ⟨List.mem_of_getElem? (i := 758) (by decide +kernel), by decide +kernel⟩, List.mem_filter.mpr ⟨List.mem_of_getElem? (i := 759) (by decide +kernel), by decide +kernel⟩⟩
set_option maxRecDepth 100000 in
theorem lk_J2_157 : LT RJ2 157 jJ11_highSurrogate_5068e 1 := ⟨kbJ11_highSurrogate_5068e, List.mem_filter.mpr ⟨List.mem_of_getElem? (i := 761) (by decide +kernel), by decide +kernel⟩, List.mem_filter.mpr ⟨List.mem_of_getElem? (i := 762) (by decide +kernel), by decide +kernel⟩⟩
set_option maxRecDepth 100000 in
theorem lk_J2_161 : LT RJ2 161 jJ11_lowSurrogate_5068e 1 := ⟨kbJ11_lowSurrogate_5068e, List.mem_filter.mpr ⟨List.mem_of_getElem? (i := 765) (by decide +kernel), by decide +kernel⟩, List.mem_filter.mpr ⟨List.mem_of_getElem? (i := 766) (by decide +kernel), by decide +kernel⟩⟩
set_option maxRecDepth 100000 in
theorem lk_X6_87 : LV RX6 87 jX6_canBegin 1 := ⟨kbX6_canBegin, rfl, List.mem_filter.mpr ⟨List.mem_of_getElem? (i := 770) (by decide +kernel), by decide +kernel⟩, List.mem_filter.mpr ⟨List.mem_of_getElem? (i := 772) (by decide +kernel), by decide +kernel⟩, List.mem_filter.mpr ⟨List.mem_of_getElem? (i := 19) (by decide +kernel), by decide +kernel⟩⟩
set_option maxRecDepth 100000 in
theorem lk_X6_97 : LV RX6 97 jX6_isWhole 0 := ⟨kbX6_isWhole, rfl, List.mem_filter.mpr ⟨List.mem_of_getElem? (i := 774) (by decide +kernel), by decide +kernel⟩, List.mem_filter.mpr ⟨List.mem_of_getElem? (i := 775) (by decide +kernel), by decide +kernel⟩, List.mem_filter.mpr ⟨List.mem_of_getElem? (i := 776) (by decide +kernel), by decide +kernel⟩⟩
set_option maxRecDepth 100000 in
theorem lk_X6_90 : LV RX6 90 jX6_finishCommand 1 := ⟨kbX6_finishCommand, rfl, List.mem_filter.mpr ⟨List.mem_of_getElem? (i := 778) (by decide +kernel), by decide +kernel⟩, List.mem_filter.mpr ⟨List.mem_of_getElem? (i := 779) (by decide +kernel), by decide +kernel⟩, List.mem_filter.mpr ⟨List.mem_of_getElem? (i := 780) (by decide +kernel), by decide +kernel⟩⟩
set_option maxRecDepth 100000 in
theorem lk_X6_100 : LV RX6 100 jX5_add 7 := ⟨kbX5_add, rfl, List.mem_filter.mpr ⟨List.mem_of_getElem? (i := 782) (by decide +kernel), by decide +kernel⟩, List.mem_filter.mpr ⟨List.mem_of_getElem? (i := 425) (by decide +kernel), by decide +kernel⟩, List.mem_filter.mpr ⟨List.mem_of_getElem? (i := 426) (by decide +kernel), by decide +kernel⟩⟩
set_option maxRecDepth 100000 in
theorem lk_X6_106 : LV RX6 106 jX6_shiftNumbers 0 := ⟨kbX6_shiftNumbers, rfl, List.mem_filter.mpr ⟨List.mem_of_getElem? (i := 783) (by decide +kernel), by decide +kernel⟩, List.mem_filter.mpr ⟨List.mem_of_getElem? (i := 785) (by decide +kernel), by decide +kernel⟩, List.mem_filter.mpr ⟨List.mem_of_getElem? (i := 20) (by decide +kernel), by decide +kernel⟩⟩
set_option maxRecDepth 100000 in
theorem lk_X4_38 : LV RX4 38 jX6_isWhole 0 := ⟨kbX6_isWhole, rfl, List.mem_filter.mpr ⟨List.mem_of_getElem? (i := 788) (by decide +kernel), by decide +kernel⟩, List.mem_filter.mpr ⟨List.mem_of_getElem? (i := 775) (by decide +kernel), by decide +kernel⟩, List.mem_filter.mpr ⟨List.mem_of_getElem? (i := 776) (by decide +kernel), by decide +kernel⟩⟩
set_option maxRecDepth 100000 in
theorem lk_X4_42 : LV RX4 42 jX6_finishCommand 1 := ⟨kbX6_finishCommand, rfl, List.mem_filter.mpr ⟨List.mem_of_getElem? (i := 789) (by decide +kernel), by decide +kernel⟩, List.mem_filter.mpr ⟨List.mem_of_getElem? (i := 779) (by decide +kernel), by decide +kernel⟩, List.mem_filter.mpr ⟨List.mem_of_getElem? (i := 780) (by decide +kernel), by decide +kernel⟩⟩
set_option maxRecDepth 100000 in
theorem lk_L_70 : LV RL 70 jX9_load 0 := ⟨kbX9_load, rfl, List.mem_filter.mpr ⟨List.mem_of_getElem? (i := 792) (by decide +kernel), by decide +kernel⟩, List.mem_filter.mpr ⟨List.mem_of_getElem? (i := 793) (by decide +kernel), by decide +kernel⟩, List.mem_filter.mpr ⟨List.mem_of_getElem? (i := 794) (by decide +kernel), by decide +kernel⟩⟩
set_option maxRecDepth 100000 in
theorem lk_X9_166 : LV RX9 166 jX4_commandsRead 0 := ⟨kbX4_commandsRead, rfl, List.mem_filter.mpr ⟨List.mem_of_getElem? (i := 798) (by decide +kernel), by decide +kernel⟩, List.mem_filter.mpr ⟨List.mem_of_getElem? (i := 799) (by decide +kernel), by decide +kernel⟩, List.mem_filter.mpr ⟨List.mem_of_getElem? (i := 800) (by decide +kernel), by decide +kernel⟩⟩
set_option maxRecDepth 100000 in
theorem lk_L_74 : LV RL 74 jX9_spell 1 := ⟨kbX9_spell, rfl, List.mem_filter.mpr ⟨List.mem_of_getElem? (i := 802) (by decide +kernel), by decide +kernel⟩, List.mem_filter.mpr ⟨List.mem_of_getElem? (i := 803) (by decide +kernel), by decide +kernel⟩, List.mem_filter.mpr ⟨List.mem_of_getElem? (i := 804) (by decide +kernel), by decide +kernel⟩⟩
set_option maxRecDepth 100000 in
theorem lk_X9_170 : LV RX9 170 jX8_spellOut 1 := ⟨kbX8_spellOut, rfl, List.mem_filter.mpr ⟨List.mem_of_getElem? (i := 806) (by decide +kernel), by decide +kernel⟩, List.mem_filter.mpr ⟨List.mem_of_getElem? (i := 807) (by decide +kernel), by decide +kernel⟩, List.mem_filter.mpr ⟨List.mem_of_getElem? (i := 808) (by decide +kernel), by decide +kernel⟩⟩
set_option maxRecDepth 100000 in
theorem lk_X8_23 : LV RX8 23 jX5_kindOf 1 := ⟨kbX5_kindOf, rfl, List.mem_filter.mpr ⟨List.mem_of_getElem? (i := 810) (by decide +kernel), by decide +kernel⟩, List.mem_filter.mpr ⟨List.mem_of_getElem? (i := 472) (by decide +kernel), by decide +kernel⟩, List.mem_filter.mpr ⟨List.mem_of_getElem? (i := 473) (by decide +kernel), by decide +kernel⟩⟩
set_option maxRecDepth 100000 in
theorem lk_X8_29 : LV RX8 29 jJ0_charAt_5068e 1 := ⟨kbJ0_charAt_5068e, rfl, List.mem_filter.mpr ⟨List.mem_of_getElem? (i := 812) (by decide +kernel), by decide +kernel⟩, List.mem_filter.mpr ⟨List.mem_of_getElem? (i := 813) (by decide +kernel), by decide +kernel⟩, List.mem_filter.mpr ⟨List.mem_of_getElem? (i := 814) (by decide +kernel), by decide +kernel⟩⟩
set_option maxRecDepth 100000 in
theorem lk_J0_495 : LT RJ0 495 jJ1_charAt_3b067 2 := ⟨kbJ1_charAt_3b067, List.mem_filter.mpr ⟨List.mem_of_getElem? (i := 816) (by decide +kernel), by decide +kernel⟩, List.mem_filter.mpr ⟨List.mem_of_getElem? (i := 817) (by decide +kernel), by decide +kernel⟩⟩
set_option maxRecDepth 100000 in
theorem lk_J1_9 : LT RJ1 9 jJ0_checkIndex_df160 2 := ⟨kbJ0_checkIndex_df160, List.mem_filter.mpr ⟨List.mem_of_getElem? (i := 819) (by decide +kernel), by decide +kernel⟩, List.mem_filter.mpr ⟨List.mem_of_getElem? (i := 820) (by decide +kernel), by decide +kernel⟩⟩
set_option maxRecDepth 100000 in
theorem lk_J0_1059 : LT RJ0 1059 jJ3_checkIndex_8e157 3 := ⟨kbJ3_checkIndex_8e157, List.mem_filter.mpr ⟨List.mem_of_getElem? (i := 822) (by decide +kernel), by decide +kernel⟩, List.mem_filter.mpr ⟨List.mem_of_getElem? (i := 823) (by decide +kernel), by decide +kernel⟩⟩
set_option maxRecDepth 100000 in
theorem lk_J0_498 : LT RJ0 498 jJ2_charAt_3b067 2 := ⟨kbJ2_charAt_3b067, List.mem_filter.mpr ⟨List.mem_of_getElem? (i := 825) (by decide +kernel), by decide +kernel⟩, List.mem_filter.mpr ⟨List.mem_of_getElem? (i := 826) (by decide +kernel), by decide +kernel⟩⟩
set_option maxRecDepth 100000 in
theorem lk_J2_67 : LT RJ2 67 jJ2_checkIndex_2214a 2 := ⟨kbJ2_checkIndex_2214a, List.mem_filter.mpr ⟨List.mem_of_getElem? (i := 828) (by decide +kernel), by decide +kernel⟩, List.mem_filter.mpr ⟨List.mem_of_getElem? (i := 829) (by decide +kernel), by decide +kernel⟩⟩
set_option maxRecDepth 100000 in
theorem lk_J2_414 : LT RJ2 414 jJ0_checkIndex_df160 2 := ⟨kbJ0_checkIndex_df160, List.mem_filter.mpr ⟨List.mem_of_getElem? (i := 831) (by decide +kernel), by decide +kernel⟩, List.mem_filter.mpr ⟨List.mem_of_getElem? (i := 820) (by decide +kernel), by decide +kernel⟩⟩
set_option maxRecDepth 100000 in
theorem lk_X8_35 : LV RX8 35 jX8_append 1 := ⟨kbX8_append, rfl, List.mem_filter.mpr ⟨List.mem_of_getElem? (i := 832) (by decide +kernel), by decide +kernel⟩, List.mem_filter.mpr ⟨List.mem_of_getElem? (i := 834) (by decide +kernel), by decide +kernel⟩, List.mem_filter.mpr ⟨List.mem_of_getElem? (i := 21) (by decide +kernel), by decide +kernel⟩⟩
set_option maxRecDepth 100000 in
theorem lk_X8_39 : LV RX8 39 jX8_spellNumbers 2 := ⟨kbX8_spellNumbers, rfl, List.mem_filter.mpr ⟨List.mem_of_getElem? (i := 836) (by decide +kernel), by decide +kernel⟩, List.mem_filter.mpr ⟨List.mem_of_getElem? (i := 838) (by decide +kernel), by decide +kernel⟩, List.mem_filter.mpr ⟨List.mem_of_getElem? (i := 22) (by decide +kernel), by decide +kernel⟩⟩
set_option maxRecDepth 100000 in
theorem lk_X8_43 : LV RX8 43 jX5_pointsOf 1 := ⟨kbX5_pointsOf, rfl, List.mem_filter.mpr ⟨List.mem_of_getElem? (i := 840) (by decide +kernel), by decide +kernel⟩, List.mem_filter.mpr ⟨List.mem_of_getElem? (i := 466) (by decide +kernel), by decide +kernel⟩, List.mem_filter.mpr ⟨List.mem_of_getElem? (i := 467) (by decide +kernel), by decide +kernel⟩⟩
set_option maxRecDepth 100000 in
theorem lk_X8_46 : LV RX8 46 jX5_numberOf 2 := ⟨kbX5_numberOf, rfl, List.mem_filter.mpr ⟨List.mem_of_getElem? (i := 841) (by decide +kernel), by decide +kernel⟩, List.mem_filter.mpr ⟨List.mem_of_getElem? (i := 476) (by decide +kernel), by decide +kernel⟩, List.mem_filter.mpr ⟨List.mem_of_getElem? (i := 477) (by decide +kernel), by decide +kernel⟩⟩
set_option maxRecDepth 100000 in
theorem lk_X8_50 : LV RX8 50 jX8_spellNumber 1 := ⟨kbX8_spellNumber, rfl, List.mem_filter.mpr ⟨List.mem_of_getElem? (i := 842) (by decide +kernel), by decide +kernel⟩, List.mem_filter.mpr ⟨List.mem_of_getElem? (i := 844) (by decide +kernel), by decide +kernel⟩, List.mem_filter.mpr ⟨List.mem_of_getElem? (i := 23) (by decide +kernel), by decide +kernel⟩⟩
set_option maxRecDepth 100000 in
theorem lk_X8_54 : LT RX8 54 jJ9_abs_0f7a4 1 := ⟨kbJ9_abs_0f7a4, List.mem_filter.mpr ⟨List.mem_of_getElem? (i := 846) (by decide +kernel), by decide +kernel⟩, List.mem_filter.mpr ⟨List.mem_of_getElem? (i := 543) (by decide +kernel), by decide +kernel⟩⟩
set_option maxRecDepth 100000 in
theorem lk_X9_174 : LV RX9 174 jX8_characterAt 1 := ⟨kbX8_characterAt, rfl, List.mem_filter.mpr ⟨List.mem_of_getElem? (i := 847) (by decide +kernel), by decide +kernel⟩, List.mem_filter.mpr ⟨List.mem_of_getElem? (i := 848) (by decide +kernel), by decide +kernel⟩, List.mem_filter.mpr ⟨List.mem_of_getElem? (i := 849) (by decide +kernel), by decide +kernel⟩⟩
set_option maxRecDepth 100000 in
theorem lk_L_78 : LV RL 78 jX9_measure 2 := ⟨kbX9_measure, rfl, List.mem_filter.mpr ⟨List.mem_of_getElem? (i := 852) (by decide +kernel), by decide +kernel⟩, List.mem_filter.mpr ⟨List.mem_of_getElem? (i := 853) (by decide +kernel), by decide +kernel⟩, List.mem_filter.mpr ⟨List.mem_of_getElem? (i := 854) (by decide +kernel), by decide +kernel⟩⟩
set_option maxRecDepth 100000 in
theorem lk_X9_177 : LV RX9 177 jX1_verticesIn 2 := ⟨kbX1_verticesIn, rfl, List.mem_filter.mpr ⟨List.mem_of_getElem? (i := 856) (by decide +kernel), by decide +kernel⟩, List.mem_filter.mpr ⟨List.mem_of_getElem? (i := 857) (by decide +kernel), by decide +kernel⟩, List.mem_filter.mpr ⟨List.mem_of_getElem? (i := 858) (by decide +kernel), by decide +kernel⟩⟩
set_option maxRecDepth 100000 in
theorem lk_X1_101 : LV RX1 101 jX1_firstOf 1 := ⟨kbX1_firstOf, rfl, List.mem_filter.mpr ⟨List.mem_of_getElem? (i := 860) (by decide +kernel), by decide +kernel⟩, List.mem_filter.mpr ⟨List.mem_of_getElem? (i := 861) (by decide +kernel), by decide +kernel⟩, List.mem_filter.mpr ⟨List.mem_of_getElem? (i := 862) (by decide +kernel), by decide +kernel⟩⟩
set_option maxRecDepth 100000 in
theorem lk_X9_180 : LV RX9 180 jX1_segmentsIn 2 := ⟨kbX1_segmentsIn, rfl, List.mem_filter.mpr ⟨List.mem_of_getElem? (i := 864) (by decide +kernel), by decide +kernel⟩, List.mem_filter.mpr ⟨List.mem_of_getElem? (i := 865) (by decide +kernel), by decide +kernel⟩, List.mem_filter.mpr ⟨List.mem_of_getElem? (i := 866) (by decide +kernel), by decide +kernel⟩⟩
set_option maxRecDepth 100000 in
theorem lk_X1_104 : LV RX1 104 jX1_verticesIn 2 := ⟨kbX1_verticesIn, rfl, List.mem_filter.mpr ⟨List.mem_of_getElem? (i := 868) (by decide +kernel), by decide +kernel⟩, List.mem_filter.mpr ⟨List.mem_of_getElem? (i := 857) (by decide +kernel), by decide +kernel⟩, List.mem_filter.mpr ⟨List.mem_of_getElem? (i := 858) (by decide +kernel), by decide +kernel⟩⟩
set_option maxRecDepth 100000 in
theorem lk_X9_183 : LV RX9 183 jX1_lengthIn 2 := ⟨kbX1_lengthIn, rfl, List.mem_filter.mpr ⟨List.mem_of_getElem? (i := 869) (by decide +kernel), by decide +kernel⟩, List.mem_filter.mpr ⟨List.mem_of_getElem? (i := 870) (by decide +kernel), by decide +kernel⟩, List.mem_filter.mpr ⟨List.mem_of_getElem? (i := 871) (by decide +kernel), by decide +kernel⟩⟩
set_option maxRecDepth 100000 in
theorem lk_X1_107 : LV RX1 107 jX1_lengthOf 1 := ⟨kbX1_lengthOf, rfl, List.mem_filter.mpr ⟨List.mem_of_getElem? (i := 873) (by decide +kernel), by decide +kernel⟩, List.mem_filter.mpr ⟨List.mem_of_getElem? (i := 874) (by decide +kernel), by decide +kernel⟩, List.mem_filter.mpr ⟨List.mem_of_getElem? (i := 875) (by decide +kernel), by decide +kernel⟩⟩
set_option maxRecDepth 100000 in
theorem lk_X1_110 : LV RX1 110 jX1_has 1 := ⟨kbX1_has, rfl, List.mem_filter.mpr ⟨List.mem_of_getElem? (i := 877) (by decide +kernel), by decide +kernel⟩, List.mem_filter.mpr ⟨List.mem_of_getElem? (i := 878) (by decide +kernel), by decide +kernel⟩, List.mem_filter.mpr ⟨List.mem_of_getElem? (i := 879) (by decide +kernel), by decide +kernel⟩⟩
set_option maxRecDepth 100000 in
theorem lk_X1_117 : LV RX1 117 jX1_isVertex 1 := ⟨kbX1_isVertex, rfl, List.mem_filter.mpr ⟨List.mem_of_getElem? (i := 881) (by decide +kernel), by decide +kernel⟩, List.mem_filter.mpr ⟨List.mem_of_getElem? (i := 883) (by decide +kernel), by decide +kernel⟩, List.mem_filter.mpr ⟨List.mem_of_getElem? (i := 24) (by decide +kernel), by decide +kernel⟩⟩
set_option maxRecDepth 100000 in
theorem lk_X9_186 : LV RX9 186 jX5_areClosed 2 := ⟨kbX5_areClosed, rfl, List.mem_filter.mpr ⟨List.mem_of_getElem? (i := 885) (by decide +kernel), by decide +kernel⟩, List.mem_filter.mpr ⟨List.mem_of_getElem? (i := 886) (by decide +kernel), by decide +kernel⟩, List.mem_filter.mpr ⟨List.mem_of_getElem? (i := 887) (by decide +kernel), by decide +kernel⟩⟩
set_option maxRecDepth 100000 in
theorem lk_L_82 : LV RL 82 jX9_vertex 3 := ⟨kbX9_vertex, rfl, List.mem_filter.mpr ⟨List.mem_of_getElem? (i := 889) (by decide +kernel), by decide +kernel⟩, List.mem_filter.mpr ⟨List.mem_of_getElem? (i := 890) (by decide +kernel), by decide +kernel⟩, List.mem_filter.mpr ⟨List.mem_of_getElem? (i := 891) (by decide +kernel), by decide +kernel⟩⟩
set_option maxRecDepth 100000 in
theorem lk_X9_190 : LV RX9 190 jX1_firstOf 1 := ⟨kbX1_firstOf, rfl, List.mem_filter.mpr ⟨List.mem_of_getElem? (i := 893) (by decide +kernel), by decide +kernel⟩, List.mem_filter.mpr ⟨List.mem_of_getElem? (i := 861) (by decide +kernel), by decide +kernel⟩, List.mem_filter.mpr ⟨List.mem_of_getElem? (i := 862) (by decide +kernel), by decide +kernel⟩⟩
set_option maxRecDepth 100000 in
theorem lk_X9_191 : LV RX9 191 jX1_vertexNumber 2 := ⟨kbX1_vertexNumber, rfl, List.mem_filter.mpr ⟨List.mem_of_getElem? (i := 894) (by decide +kernel), by decide +kernel⟩, List.mem_filter.mpr ⟨List.mem_of_getElem? (i := 895) (by decide +kernel), by decide +kernel⟩, List.mem_filter.mpr ⟨List.mem_of_getElem? (i := 896) (by decide +kernel), by decide +kernel⟩⟩
set_option maxRecDepth 100000 in
theorem lk_L_87 : LV RL 87 jX9_at 3 := ⟨kbX9_at, rfl, List.mem_filter.mpr ⟨List.mem_of_getElem? (i := 900) (by decide +kernel), by decide +kernel⟩, List.mem_filter.mpr ⟨List.mem_of_getElem? (i := 901) (by decide +kernel), by decide +kernel⟩, List.mem_filter.mpr ⟨List.mem_of_getElem? (i := 902) (by decide +kernel), by decide +kernel⟩⟩
set_option maxRecDepth 100000 in
theorem lk_X9_194 : LV RX9 194 jX1_hasSegments 1 := ⟨kbX1_hasSegments, rfl, List.mem_filter.mpr ⟨List.mem_of_getElem? (i := 904) (by decide +kernel), by decide +kernel⟩, List.mem_filter.mpr ⟨List.mem_of_getElem? (i := 905) (by decide +kernel), by decide +kernel⟩, List.mem_filter.mpr ⟨List.mem_of_getElem? (i := 906) (by decide +kernel), by decide +kernel⟩⟩
set_option maxRecDepth 100000 in
theorem lk_X1_114 : LV RX1 114 jX1_segmentsIn 2 := ⟨kbX1_segmentsIn, rfl, List.mem_filter.mpr ⟨List.mem_of_getElem? (i := 908) (by decide +kernel), by decide +kernel⟩, List.mem_filter.mpr ⟨List.mem_of_getElem? (i := 865) (by decide +kernel), by decide +kernel⟩, List.mem_filter.mpr ⟨List.mem_of_getElem? (i := 866) (by decide +kernel), by decide +kernel⟩⟩
set_option maxRecDepth 100000 in
theorem lk_X9_197 : LV RX9 197 jX1_lengthOf 1 := ⟨kbX1_lengthOf, rfl, List.mem_filter.mpr ⟨List.mem_of_getElem? (i := 909) (by decide +kernel), by decide +kernel⟩, List.mem_filter.mpr ⟨List.mem_of_getElem? (i := 874) (by decide +kernel), by decide +kernel⟩, List.mem_filter.mpr ⟨List.mem_of_getElem? (i := 875) (by decide +kernel), by decide +kernel⟩⟩
set_option maxRecDepth 100000 in
theorem lk_X9_200 : LV RX9 200 jX1_pointNumber 3 := ⟨kbX1_pointNumber, rfl, List.mem_filter.mpr ⟨List.mem_of_getElem? (i := 910) (by decide +kernel), by decide +kernel⟩, List.mem_filter.mpr ⟨List.mem_of_getElem? (i := 911) (by decide +kernel), by decide +kernel⟩, List.mem_filter.mpr ⟨List.mem_of_getElem? (i := 912) (by decide +kernel), by decide +kernel⟩⟩
set_option maxRecDepth 100000 in
theorem lk_X1_122 : LV RX1 122 jX1_segmentAt 2 := ⟨kbX1_segmentAt, rfl, List.mem_filter.mpr ⟨List.mem_of_getElem? (i := 914) (by decide +kernel), by decide +kernel⟩, List.mem_filter.mpr ⟨List.mem_of_getElem? (i := 915) (by decide +kernel), by decide +kernel⟩, List.mem_filter.mpr ⟨List.mem_of_getElem? (i := 916) (by decide +kernel), by decide +kernel⟩⟩
set_option maxRecDepth 100000 in
theorem lk_X1_125 : LV RX1 125 jX1_along 3 := ⟨kbX1_along, rfl, List.mem_filter.mpr ⟨List.mem_of_getElem? (i := 918) (by decide +kernel), by decide +kernel⟩, List.mem_filter.mpr ⟨List.mem_of_getElem? (i := 920) (by decide +kernel), by decide +kernel⟩, List.mem_filter.mpr ⟨List.mem_of_getElem? (i := 25) (by decide +kernel), by decide +kernel⟩⟩
set_option maxRecDepth 100000 in
theorem lk_X1_132 : LV RX1 132 jX1_difference 2 := ⟨kbX1_difference, rfl, List.mem_filter.mpr ⟨List.mem_of_getElem? (i := 922) (by decide +kernel), by decide +kernel⟩, List.mem_filter.mpr ⟨List.mem_of_getElem? (i := 924) (by decide +kernel), by decide +kernel⟩, List.mem_filter.mpr ⟨List.mem_of_getElem? (i := 26) (by decide +kernel), by decide +kernel⟩⟩
set_option maxRecDepth 100000 in
theorem lk_X1_129 : LT RX1 129 jX1_numberOf 2 := ⟨kbX1_numberOf, List.mem_filter.mpr ⟨List.mem_of_getElem? (i := 926) (by decide +kernel), by decide +kernel⟩, List.mem_filter.mpr ⟨List.mem_of_getElem? (i := 927) (by decide +kernel), by decide +kernel⟩⟩
set_option maxRecDepth 100000 in
theorem lk_L_91 : LV RL 91 jX9_nearest 3 := ⟨kbX9_nearest, rfl, List.mem_filter.mpr ⟨List.mem_of_getElem? (i := 929) (by decide +kernel), by decide +kernel⟩, List.mem_filter.mpr ⟨List.mem_of_getElem? (i := 930) (by decide +kernel), by decide +kernel⟩, List.mem_filter.mpr ⟨List.mem_of_getElem? (i := 931) (by decide +kernel), by decide +kernel⟩⟩
set_option maxRecDepth 100000 in
theorem lk_X9_204 : LV RX9 204 jX1_nearestNumber 3 := ⟨kbX1_nearestNumber, rfl, List.mem_filter.mpr ⟨List.mem_of_getElem? (i := 933) (by decide +kernel), by decide +kernel⟩, List.mem_filter.mpr ⟨List.mem_of_getElem? (i := 934) (by decide +kernel), by decide +kernel⟩, List.mem_filter.mpr ⟨List.mem_of_getElem? (i := 935) (by decide +kernel), by decide +kernel⟩⟩
set_option maxRecDepth 100000 in
theorem lk_X1_139 : LV RX1 139 jX1_squareTo 3 := ⟨kbX1_squareTo, rfl, List.mem_filter.mpr ⟨List.mem_of_getElem? (i := 938) (by decide +kernel), by decide +kernel⟩, List.mem_filter.mpr ⟨List.mem_of_getElem? (i := 940) (by decide +kernel), by decide +kernel⟩, List.mem_filter.mpr ⟨List.mem_of_getElem? (i := 27) (by decide +kernel), by decide +kernel⟩⟩
set_option maxRecDepth 100000 in
theorem lk_X1_143 : LV RX1 143 jX1_nearestOn 4 := ⟨kbX1_nearestOn, rfl, List.mem_filter.mpr ⟨List.mem_of_getElem? (i := 942) (by decide +kernel), by decide +kernel⟩, List.mem_filter.mpr ⟨List.mem_of_getElem? (i := 944) (by decide +kernel), by decide +kernel⟩, List.mem_filter.mpr ⟨List.mem_of_getElem? (i := 28) (by decide +kernel), by decide +kernel⟩⟩
set_option maxRecDepth 100000 in
theorem lk_X1_147 : LT RX1 147 jJ9_max_f86c9 2 := ⟨kbJ9_max_f86c9, List.mem_filter.mpr ⟨List.mem_of_getElem? (i := 946) (by decide +kernel), by decide +kernel⟩, List.mem_filter.mpr ⟨List.mem_of_getElem? (i := 947) (by decide +kernel), by decide +kernel⟩⟩
set_option maxRecDepth 100000 in
theorem lk_X1_153 : LT RX1 153 jJ9_min_f86c9 2 := ⟨kbJ9_min_f86c9, List.mem_filter.mpr ⟨List.mem_of_getElem? (i := 949) (by decide +kernel), by decide +kernel⟩, List.mem_filter.mpr ⟨List.mem_of_getElem? (i := 950) (by decide +kernel), by decide +kernel⟩⟩
set_option maxRecDepth 100000 in
theorem lk_L_95 : LV RL 95 jX9_winding 2 := ⟨kbX9_winding, rfl, List.mem_filter.mpr ⟨List.mem_of_getElem? (i := 952) (by decide +kernel), by decide +kernel⟩, List.mem_filter.mpr ⟨List.mem_of_getElem? (i := 953) (by decide +kernel), by decide +kernel⟩, List.mem_filter.mpr ⟨List.mem_of_getElem? (i := 954) (by decide +kernel), by decide +kernel⟩⟩
set_option maxRecDepth 100000 in
theorem lk_X9_207 : LV RX9 207 jX1_windingAround 2 := ⟨kbX1_windingAround, rfl, List.mem_filter.mpr ⟨List.mem_of_getElem? (i := 956) (by decide +kernel), by decide +kernel⟩, List.mem_filter.mpr ⟨List.mem_of_getElem? (i := 957) (by decide +kernel), by decide +kernel⟩, List.mem_filter.mpr ⟨List.mem_of_getElem? (i := 958) (by decide +kernel), by decide +kernel⟩⟩
set_option maxRecDepth 100000 in
theorem lk_X1_156 : LV RX1 156 jX1_vertexBefore 2 := ⟨kbX1_vertexBefore, rfl, List.mem_filter.mpr ⟨List.mem_of_getElem? (i := 960) (by decide +kernel), by decide +kernel⟩, List.mem_filter.mpr ⟨List.mem_of_getElem? (i := 962) (by decide +kernel), by decide +kernel⟩, List.mem_filter.mpr ⟨List.mem_of_getElem? (i := 29) (by decide +kernel), by decide +kernel⟩⟩
set_option maxRecDepth 100000 in
theorem lk_X1_159 : LV RX1 159 jX1_crossing 4 := ⟨kbX1_crossing, rfl, List.mem_filter.mpr ⟨List.mem_of_getElem? (i := 964) (by decide +kernel), by decide +kernel⟩, List.mem_filter.mpr ⟨List.mem_of_getElem? (i := 966) (by decide +kernel), by decide +kernel⟩, List.mem_filter.mpr ⟨List.mem_of_getElem? (i := 30) (by decide +kernel), by decide +kernel⟩⟩
set_option maxRecDepth 100000 in
theorem lk_L_99 : LV RL 99 jX9_area 1 := ⟨kbX9_area, rfl, List.mem_filter.mpr ⟨List.mem_of_getElem? (i := 968) (by decide +kernel), by decide +kernel⟩, List.mem_filter.mpr ⟨List.mem_of_getElem? (i := 969) (by decide +kernel), by decide +kernel⟩, List.mem_filter.mpr ⟨List.mem_of_getElem? (i := 970) (by decide +kernel), by decide +kernel⟩⟩
set_option maxRecDepth 100000 in
theorem lk_X9_212 : LV RX9 212 jX1_twiceTheArea 1 := ⟨kbX1_twiceTheArea, rfl, List.mem_filter.mpr ⟨List.mem_of_getElem? (i := 973) (by decide +kernel), by decide +kernel⟩, List.mem_filter.mpr ⟨List.mem_of_getElem? (i := 974) (by decide +kernel), by decide +kernel⟩, List.mem_filter.mpr ⟨List.mem_of_getElem? (i := 975) (by decide +kernel), by decide +kernel⟩⟩
set_option maxRecDepth 100000 in
theorem lk_X1_163 : LV RX1 163 jX1_turn 2 := ⟨kbX1_turn, rfl, List.mem_filter.mpr ⟨List.mem_of_getElem? (i := 977) (by decide +kernel), by decide +kernel⟩, List.mem_filter.mpr ⟨List.mem_of_getElem? (i := 979) (by decide +kernel), by decide +kernel⟩, List.mem_filter.mpr ⟨List.mem_of_getElem? (i := 31) (by decide +kernel), by decide +kernel⟩⟩
set_option maxRecDepth 100000 in
theorem lk_L_104 : LV RL 104 jX9_bound 2 := ⟨kbX9_bound, rfl, List.mem_filter.mpr ⟨List.mem_of_getElem? (i := 981) (by decide +kernel), by decide +kernel⟩, List.mem_filter.mpr ⟨List.mem_of_getElem? (i := 982) (by decide +kernel), by decide +kernel⟩, List.mem_filter.mpr ⟨List.mem_of_getElem? (i := 983) (by decide +kernel), by decide +kernel⟩⟩
set_option maxRecDepth 100000 in
theorem lk_X9_216 : LV RX9 216 jX1_boundOf 3 := ⟨kbX1_boundOf, rfl, List.mem_filter.mpr ⟨List.mem_of_getElem? (i := 985) (by decide +kernel), by decide +kernel⟩, List.mem_filter.mpr ⟨List.mem_of_getElem? (i := 986) (by decide +kernel), by decide +kernel⟩, List.mem_filter.mpr ⟨List.mem_of_getElem? (i := 987) (by decide +kernel), by decide +kernel⟩⟩
set_option maxRecDepth 100000 in
theorem lk_X1_166 : LT RX1 166 jJ9_min_7cf53 2 := ⟨kbJ9_min_7cf53, List.mem_filter.mpr ⟨List.mem_of_getElem? (i := 989) (by decide +kernel), by decide +kernel⟩, List.mem_filter.mpr ⟨List.mem_of_getElem? (i := 715) (by decide +kernel), by decide +kernel⟩⟩
set_option maxRecDepth 100000 in
theorem lk_X1_168 : LT RX1 168 jJ9_max_7cf53 2 := ⟨kbJ9_max_7cf53, List.mem_filter.mpr ⟨List.mem_of_getElem? (i := 990) (by decide +kernel), by decide +kernel⟩, List.mem_filter.mpr ⟨List.mem_of_getElem? (i := 712) (by decide +kernel), by decide +kernel⟩⟩
set_option maxRecDepth 100000 in
theorem lk_L_108 : LV RL 108 jX9_simplified 3 := ⟨kbX9_simplified, rfl, List.mem_filter.mpr ⟨List.mem_of_getElem? (i := 991) (by decide +kernel), by decide +kernel⟩, List.mem_filter.mpr ⟨List.mem_of_getElem? (i := 992) (by decide +kernel), by decide +kernel⟩, List.mem_filter.mpr ⟨List.mem_of_getElem? (i := 993) (by decide +kernel), by decide +kernel⟩⟩
set_option maxRecDepth 100000 in
theorem lk_X9_219 : LV RX9 219 jX7_simplify 3 := ⟨kbX7_simplify, rfl, List.mem_filter.mpr ⟨List.mem_of_getElem? (i := 995) (by decide +kernel), by decide +kernel⟩, List.mem_filter.mpr ⟨List.mem_of_getElem? (i := 996) (by decide +kernel), by decide +kernel⟩, List.mem_filter.mpr ⟨List.mem_of_getElem? (i := 997) (by decide +kernel), by decide +kernel⟩⟩
set_option maxRecDepth 100000 in
theorem lk_X7_22 : LV RX7 22 jX1_firstOf 1 := ⟨kbX1_firstOf, rfl, List.mem_filter.mpr ⟨List.mem_of_getElem? (i := 999) (by decide +kernel), by decide +kernel⟩, List.mem_filter.mpr ⟨List.mem_of_getElem? (i := 861) (by decide +kernel), by decide +kernel⟩, List.mem_filter.mpr ⟨List.mem_of_getElem? (i := 862) (by decide +kernel), by decide +kernel⟩⟩
set_option maxRecDepth 100000 in
theorem lk_X7_28 : LV RX7 28 jX1_verticesIn 2 := ⟨kbX1_verticesIn, rfl, List.mem_filter.mpr ⟨List.mem_of_getElem? (i := 1000) (by decide +kernel), by decide +kernel⟩, List.mem_filter.mpr ⟨List.mem_of_getElem? (i := 857) (by decide +kernel), by decide +kernel⟩, List.mem_filter.mpr ⟨List.mem_of_getElem? (i := 858) (by decide +kernel), by decide +kernel⟩⟩
set_option maxRecDepth 100000 in
theorem lk_X7_32 : LV RX7 32 jX7_nextKept 1 := ⟨kbX7_nextKept, rfl, List.mem_filter.mpr ⟨List.mem_of_getElem? (i := 1001) (by decide +kernel), by decide +kernel⟩, List.mem_filter.mpr ⟨List.mem_of_getElem? (i := 1003) (by decide +kernel), by decide +kernel⟩, List.mem_filter.mpr ⟨List.mem_of_getElem? (i := 32) (by decide +kernel), by decide +kernel⟩⟩
set_option maxRecDepth 100000 in
theorem lk_X7_35 : LV RX7 35 jX7_worstBetween 4 := ⟨kbX7_worstBetween, rfl, List.mem_filter.mpr ⟨List.mem_of_getElem? (i := 1005) (by decide +kernel), by decide +kernel⟩, List.mem_filter.mpr ⟨List.mem_of_getElem? (i := 1007) (by decide +kernel), by decide +kernel⟩, List.mem_filter.mpr ⟨List.mem_of_getElem? (i := 33) (by decide +kernel), by decide +kernel⟩⟩
