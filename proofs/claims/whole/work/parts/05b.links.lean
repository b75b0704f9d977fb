set_option maxRecDepth 100000 in
theorem kbX10_close : KB jX10_close 0 := ⟨List.mem_filter.mpr ⟨List.mem_of_getElem? (i := 1378) (by decide +kernel), by decide +kernel⟩, List.mem_filter.mpr ⟨List.mem_of_getElem? (i := 99) (by decide +kernel), by decide +kernel⟩, by decide +kernel⟩
abbrev jX10_removeLast : MD := (RX10, yX10_removeLast, cX10_removeLast, 1, some .int, { frames := 1, cells := 0, slots := 0, locals := 20 }, fun _ _ => True)
theorem plX10_removeLast : pln jX10_removeLast := ⟨by decide +kernel, rfl, rfl, rfl, fun _ _ => trivial⟩
set_option maxRecDepth 100000 in
theorem kbX10_removeLast : KB jX10_removeLast 0 := ⟨List.mem_filter.mpr ⟨List.mem_of_getElem? (i := 1382) (by decide +kernel), by decide +kernel⟩, List.mem_filter.mpr ⟨List.mem_of_getElem? (i := 99) (by decide +kernel), by decide +kernel⟩, by decide +kernel⟩
abbrev jX10_moveOf : MD := (RX10, yX10_moveOf, cX10_moveOf, 3, some .int, { frames := 1, cells := 0, slots := 0, locals := 21 }, fun _ _ => True)
theorem plX10_moveOf : pln jX10_moveOf := ⟨by decide +kernel, rfl, rfl, rfl, fun _ _ => trivial⟩
set_option maxRecDepth 100000 in
theorem kbX10_moveOf : KB jX10_moveOf 1 := ⟨List.mem_filter.mpr ⟨List.mem_of_getElem? (i := 1404) (by decide +kernel), by decide +kernel⟩, List.mem_filter.mpr ⟨List.mem_of_getElem? (i := 99) (by decide +kernel), by decide +kernel⟩, by decide +kernel⟩
abbrev jX10_contourOf : MD := (RX10, yX10_contourOf, cX10_contourOf, 4, some .int, { frames := 1, cells := 0, slots := 0, locals := 21 }, fun _ _ => True)
theorem plX10_contourOf : pln jX10_contourOf := ⟨by decide +kernel, rfl, rfl, rfl, fun _ _ => trivial⟩
set_option maxRecDepth 100000 in
theorem kbX10_contourOf : KB jX10_contourOf 1 := ⟨List.mem_filter.mpr ⟨List.mem_of_getElem? (i := 1391) (by decide +kernel), by decide +kernel⟩, List.mem_filter.mpr ⟨List.mem_of_getElem? (i := 99) (by decide +kernel), by decide +kernel⟩, by decide +kernel⟩
abbrev jX10_endX : MD := (RX10, yX10_endX, cX10_endX, 2, some .int, { frames := 2, cells := 0, slots := 0, locals := 43 }, fun _ _ => True)
theorem plX10_endX : pln jX10_endX := ⟨by decide +kernel, rfl, rfl, rfl, fun _ _ => trivial⟩
set_option maxRecDepth 100000 in
theorem kbX10_endX : KB jX10_endX 1 := ⟨List.mem_filter.mpr ⟨List.mem_of_getElem? (i := 1400) (by decide +kernel), by decide +kernel⟩, List.mem_filter.mpr ⟨List.mem_of_getElem? (i := 99) (by decide +kernel), by decide +kernel⟩, by decide +kernel⟩
abbrev jX10_endY : MD := (RX10, yX10_endY, cX10_endY, 2, some .int, { frames := 2, cells := 0, slots := 0, locals := 43 }, fun _ _ => True)
theorem plX10_endY : pln jX10_endY := ⟨by decide +kernel, rfl, rfl, rfl, fun _ _ => trivial⟩
set_option maxRecDepth 100000 in
theorem kbX10_endY : KB jX10_endY 1 := ⟨List.mem_filter.mpr ⟨List.mem_of_getElem? (i := 1408) (by decide +kernel), by decide +kernel⟩, List.mem_filter.mpr ⟨List.mem_of_getElem? (i := 99) (by decide +kernel), by decide +kernel⟩, by decide +kernel⟩
abbrev jX10_command : MD := (RX10, yX10_command, cX10_command, 5, some .int, { frames := 4, cells := 0, slots := 0, locals := 123 }, fun _ _ => True)
theorem plX10_command : pln jX10_command := ⟨by decide +kernel, rfl, rfl, rfl, fun _ _ => trivial⟩
set_option maxRecDepth 100000 in
theorem kbX10_command : KB jX10_command 2 := ⟨List.mem_filter.mpr ⟨List.mem_of_getElem? (i := 1386) (by decide +kernel), by decide +kernel⟩, List.mem_filter.mpr ⟨List.mem_of_getElem? (i := 99) (by decide +kernel), by decide +kernel⟩, by decide +kernel⟩
abbrev jX10_setTolerance : MD := (RX10, yX10_setTolerance, cX10_setTolerance, 3, some .int, { frames := 1, cells := 0, slots := 0, locals := 22 }, fun _ _ => True)
theorem plX10_setTolerance : pln jX10_setTolerance := ⟨by decide +kernel, rfl, rfl, rfl, fun _ _ => trivial⟩
set_option maxRecDepth 100000 in
theorem kbX10_setTolerance : KB jX10_setTolerance 1 := ⟨List.mem_filter.mpr ⟨List.mem_of_getElem? (i := 1443) (by decide +kernel), by decide +kernel⟩, List.mem_filter.mpr ⟨List.mem_of_getElem? (i := 99) (by decide +kernel), by decide +kernel⟩, by decide +kernel⟩
abbrev jX10_contours : MD := (RX10, yX10_contours, cX10_contours, 1, some .int, { frames := 2, cells := 0, slots := 0, locals := 44 }, fun _ _ => True)
theorem plX10_contours : pln jX10_contours := ⟨by decide +kernel, rfl, rfl, rfl, fun _ _ => trivial⟩
set_option maxRecDepth 100000 in
theorem kbX10_contours : KB jX10_contours 0 := ⟨List.mem_filter.mpr ⟨List.mem_of_getElem? (i := 1455) (by decide +kernel), by decide +kernel⟩, List.mem_filter.mpr ⟨List.mem_of_getElem? (i := 99) (by decide +kernel), by decide +kernel⟩, by decide +kernel⟩
abbrev jX10_isContour : MD := (RX10, yX10_isContour, cX10_isContour, 2, some .boolean, { frames := 3, cells := 0, slots := 0, locals := 64 }, fun _ _ => True)
theorem plX10_isContour : pln jX10_isContour := ⟨by decide +kernel, rfl, rfl, rfl, fun _ _ => trivial⟩
set_option maxRecDepth 100000 in
theorem kbX10_isContour : KB jX10_isContour 1 := ⟨List.mem_filter.mpr ⟨List.mem_of_getElem? (i := 1451) (by decide +kernel), by decide +kernel⟩, List.mem_filter.mpr ⟨List.mem_of_getElem? (i := 99) (by decide +kernel), by decide +kernel⟩, by decide +kernel⟩
abbrev jX10_firstOf : MD := (RX10, yX10_firstOf, cX10_firstOf, 4, some .int, { frames := 1, cells := 0, slots := 0, locals := 21 }, fun _ _ => True)
theorem plX10_firstOf : pln jX10_firstOf := ⟨by decide +kernel, rfl, rfl, rfl, fun _ _ => trivial⟩
set_option maxRecDepth 100000 in
theorem kbX10_firstOf : KB jX10_firstOf 1 := ⟨List.mem_filter.mpr ⟨List.mem_of_getElem? (i := 1459) (by decide +kernel), by decide +kernel⟩, List.mem_filter.mpr ⟨List.mem_of_getElem? (i := 99) (by decide +kernel), by decide +kernel⟩, by decide +kernel⟩
abbrev jX10_setTurned : MD := (RX10, yX10_setTurned, cX10_setTurned, 6, none, { frames := 0, cells := 0, slots := 0, locals := 0 }, fun _ _ => True)
theorem plX10_setTurned : pln jX10_setTurned := ⟨by decide +kernel, rfl, rfl, rfl, fun _ _ => trivial⟩
set_option maxRecDepth 100000 in
theorem kbX10_setTurned : KB jX10_setTurned 4 := ⟨List.mem_filter.mpr ⟨List.mem_of_getElem? (i := 1463) (by decide +kernel), by decide +kernel⟩, List.mem_filter.mpr ⟨List.mem_of_getElem? (i := 99) (by decide +kernel), by decide +kernel⟩, by decide +kernel⟩
abbrev jX10_reverse : MD := (RX10, yX10_reverse, cX10_reverse, 10, some .int, { frames := 4, cells := 0, slots := 0, locals := 85 }, fun _ _ => True)
theorem plX10_reverse : pln jX10_reverse := ⟨by decide +kernel, rfl, rfl, rfl, fun _ _ => trivial⟩
set_option maxRecDepth 100000 in
theorem kbX10_reverse : KB jX10_reverse 1 := ⟨List.mem_filter.mpr ⟨List.mem_of_getElem? (i := 1447) (by decide +kernel), by decide +kernel⟩, List.mem_filter.mpr ⟨List.mem_of_getElem? (i := 99) (by decide +kernel), by decide +kernel⟩, by decide +kernel⟩
abbrev jX10_transform : MD := (RX10, yX10_transform, cX10_transform, 16, some .int, { frames := 2, cells := 0, slots := 0, locals := 42 }, fun _ _ => True)
theorem plX10_transform : pln jX10_transform := ⟨by decide +kernel, rfl, rfl, rfl, fun _ _ => trivial⟩
set_option maxRecDepth 100000 in
theorem kbX10_transform : KB jX10_transform 6 := ⟨List.mem_filter.mpr ⟨List.mem_of_getElem? (i := 1467) (by decide +kernel), by decide +kernel⟩, List.mem_filter.mpr ⟨List.mem_of_getElem? (i := 99) (by decide +kernel), by decide +kernel⟩, by decide +kernel⟩
abbrev jX10_say : MD := (RX10, yX10_say, cX10_say, 2, some .int, { frames := 1, cells := 0, slots := 0, locals := 22 }, fun _ _ => True)
theorem plX10_say : pln jX10_say := ⟨by decide +kernel, rfl, rfl, rfl, fun _ _ => trivial⟩
set_option maxRecDepth 100000 in
theorem kbX10_say : KB jX10_say 1 := ⟨List.mem_filter.mpr ⟨List.mem_of_getElem? (i := 1471) (by decide +kernel), by decide +kernel⟩, List.mem_filter.mpr ⟨List.mem_of_getElem? (i := 99) (by decide +kernel), by decide +kernel⟩, by decide +kernel⟩
abbrev jX10_wipe : MD := (RX10, yX10_wipe, cX10_wipe, 2, some .int, { frames := 0, cells := 0, slots := 0, locals := 0 }, fun _ _ => True)
theorem plX10_wipe : pln jX10_wipe := ⟨by decide +kernel, rfl, rfl, rfl, fun _ _ => trivial⟩
set_option maxRecDepth 100000 in
theorem kbX10_wipe : KB jX10_wipe 0 := ⟨List.mem_filter.mpr ⟨List.mem_of_getElem? (i := 1475) (by decide +kernel), by decide +kernel⟩, List.mem_filter.mpr ⟨List.mem_of_getElem? (i := 99) (by decide +kernel), by decide +kernel⟩, by decide +kernel⟩
abbrev jX10_sign : MD := (RX10, yX10_sign, cX10_sign, 1, some .int, { frames := 0, cells := 0, slots := 0, locals := 0 }, fun _ _ => True)
theorem plX10_sign : pln jX10_sign := ⟨by decide +kernel, rfl, rfl, rfl, fun _ _ => trivial⟩
set_option maxRecDepth 100000 in
theorem kbX10_sign : KB jX10_sign 0 := ⟨List.mem_filter.mpr ⟨List.mem_of_getElem? (i := 1487) (by decide +kernel), by decide +kernel⟩, List.mem_filter.mpr ⟨List.mem_of_getElem? (i := 99) (by decide +kernel), by decide +kernel⟩, by decide +kernel⟩
abbrev jX10_readNumber : MD := (RX10, yX10_readNumber, cX10_readNumber, 3, some .int, { frames := 1, cells := 0, slots := 0, locals := 22 }, fun _ _ => True)
theorem plX10_readNumber : pln jX10_readNumber := ⟨by decide +kernel, rfl, rfl, rfl, fun _ _ => trivial⟩
set_option maxRecDepth 100000 in
theorem kbX10_readNumber : KB jX10_readNumber 0 := ⟨List.mem_filter.mpr ⟨List.mem_of_getElem? (i := 1499) (by decide +kernel), by decide +kernel⟩, List.mem_filter.mpr ⟨List.mem_of_getElem? (i := 99) (by decide +kernel), by decide +kernel⟩, by decide +kernel⟩
abbrev jX10_readComma : MD := (RX10, yX10_readComma, cX10_readComma, 1, none, { frames := 1, cells := 0, slots := 0, locals := 20 }, fun _ _ => True)
theorem plX10_readComma : pln jX10_readComma := ⟨by decide +kernel, rfl, rfl, rfl, fun _ _ => trivial⟩
set_option maxRecDepth 100000 in
theorem kbX10_readComma : KB jX10_readComma 0 := ⟨List.mem_filter.mpr ⟨List.mem_of_getElem? (i := 1503) (by decide +kernel), by decide +kernel⟩, List.mem_filter.mpr ⟨List.mem_of_getElem? (i := 99) (by decide +kernel), by decide +kernel⟩, by decide +kernel⟩
abbrev jX10_readPair : MD := (RX10, yX10_readPair, cX10_readPair, 5, none, { frames := 2, cells := 0, slots := 0, locals := 44 }, fun _ _ => True)
theorem plX10_readPair : pln jX10_readPair := ⟨by decide +kernel, rfl, rfl, rfl, fun _ _ => trivial⟩
set_option maxRecDepth 100000 in
theorem kbX10_readPair : KB jX10_readPair 2 := ⟨List.mem_filter.mpr ⟨List.mem_of_getElem? (i := 1495) (by decide +kernel), by decide +kernel⟩, List.mem_filter.mpr ⟨List.mem_of_getElem? (i := 99) (by decide +kernel), by decide +kernel⟩, by decide +kernel⟩
abbrev jX10_readCommand : MD := (RX10, yX10_readCommand, cX10_readCommand, 6, none, { frames := 3, cells := 0, slots := 0, locals := 68 }, fun _ _ => True)
theorem plX10_readCommand : pln jX10_readCommand := ⟨by decide +kernel, rfl, rfl, rfl, fun _ _ => trivial⟩
set_option maxRecDepth 100000 in
theorem kbX10_readCommand : KB jX10_readCommand 2 := ⟨List.mem_filter.mpr ⟨List.mem_of_getElem? (i := 1491) (by decide +kernel), by decide +kernel⟩, List.mem_filter.mpr ⟨List.mem_of_getElem? (i := 99) (by decide +kernel), by decide +kernel⟩, by decide +kernel⟩
abbrev jX10_readContour : MD := (RX10, yX10_readContour, cX10_readContour, 3, none, { frames := 4, cells := 0, slots := 0, locals := 93 }, fun _ _ => True)
theorem plX10_readContour : pln jX10_readContour := ⟨by decide +kernel, rfl, rfl, rfl, fun _ _ => trivial⟩
set_option maxRecDepth 100000 in
theorem kbX10_readContour : KB jX10_readContour 0 := ⟨List.mem_filter.mpr ⟨List.mem_of_getElem? (i := 1483) (by decide +kernel), by decide +kernel⟩, List.mem_filter.mpr ⟨List.mem_of_getElem? (i := 99) (by decide +kernel), by decide +kernel⟩, by decide +kernel⟩
abbrev jX10_kindAt : MD := (RX10, yX10_kindAt, cX10_kindAt, 1, some .int, { frames := 1, cells := 0, slots := 0, locals := 20 }, fun _ _ => True)
theorem plX10_kindAt : pln jX10_kindAt := ⟨by decide +kernel, rfl, rfl, rfl, fun _ _ => trivial⟩
set_option maxRecDepth 100000 in
theorem kbX10_kindAt : KB jX10_kindAt 0 := ⟨List.mem_filter.mpr ⟨List.mem_of_getElem? (i := 1507) (by decide +kernel), by decide +kernel⟩, List.mem_filter.mpr ⟨List.mem_of_getElem? (i := 99) (by decide +kernel), by decide +kernel⟩, by decide +kernel⟩
abbrev jX10_fault : MD := (RX10, yX10_fault, cX10_fault, 2, some .int, { frames := 5, cells := 0, slots := 0, locals := 115 }, fun _ _ => True)
theorem plX10_fault : pln jX10_fault := ⟨by decide +kernel, rfl, rfl, rfl, fun _ _ => trivial⟩
set_option maxRecDepth 100000 in
theorem kbX10_fault : KB jX10_fault 0 := ⟨List.mem_filter.mpr ⟨List.mem_of_getElem? (i := 1479) (by decide +kernel), by decide +kernel⟩, List.mem_filter.mpr ⟨List.mem_of_getElem? (i := 99) (by decide +kernel), by decide +kernel⟩, by decide +kernel⟩
abbrev jX10_load : MD := (RX10, yX10_load, cX10_load, 2, some .int, { frames := 6, cells := 0, slots := 0, locals := 136 }, fun _ _ => True)
theorem plX10_load : pln jX10_load := ⟨by decide +kernel, rfl, rfl, rfl, fun _ _ => trivial⟩
set_option maxRecDepth 100000 in
theorem kbX10_load : KB jX10_load 0 := ⟨List.mem_filter.mpr ⟨List.mem_of_getElem? (i := 1511) (by decide +kernel), by decide +kernel⟩, List.mem_filter.mpr ⟨List.mem_of_getElem? (i := 99) (by decide +kernel), by decide +kernel⟩, by decide +kernel⟩
abbrev jX10_spellSign : MD := (RX10, yX10_spellSign, cX10_spellSign, 2, none, { frames := 0, cells := 0, slots := 0, locals := 0 }, fun _ _ => True)
theorem plX10_spellSign : pln jX10_spellSign := ⟨by decide +kernel, rfl, rfl, rfl, fun _ _ => trivial⟩
set_option maxRecDepth 100000 in
theorem kbX10_spellSign : KB jX10_spellSign 1 := ⟨List.mem_filter.mpr ⟨List.mem_of_getElem? (i := 1521) (by decide +kernel), by decide +kernel⟩, List.mem_filter.mpr ⟨List.mem_of_getElem? (i := 99) (by decide +kernel), by decide +kernel⟩, by decide +kernel⟩
abbrev jX10_spellNumber : MD := (RX10, yX10_spellNumber, cX10_spellNumber, 4, none, { frames := 1, cells := 0, slots := 0, locals := 21 }, fun _ _ => True)
theorem plX10_spellNumber : pln jX10_spellNumber := ⟨by decide +kernel, rfl, rfl, rfl, fun _ _ => trivial⟩
set_option maxRecDepth 100000 in
theorem kbX10_spellNumber : KB jX10_spellNumber 1 := ⟨List.mem_filter.mpr ⟨List.mem_of_getElem? (i := 1529) (by decide +kernel), by decide +kernel⟩, List.mem_filter.mpr ⟨List.mem_of_getElem? (i := 99) (by decide +kernel), by decide +kernel⟩, by decide +kernel⟩
abbrev jX10_spellPair : MD := (RX10, yX10_spellPair, cX10_spellPair, 3, none, { frames := 2, cells := 0, slots := 0, locals := 44 }, fun _ _ => True)
theorem plX10_spellPair : pln jX10_spellPair := ⟨by decide +kernel, rfl, rfl, rfl, fun _ _ => trivial⟩
set_option maxRecDepth 100000 in
theorem kbX10_spellPair : KB jX10_spellPair 2 := ⟨List.mem_filter.mpr ⟨List.mem_of_getElem? (i := 1525) (by decide +kernel), by decide +kernel⟩, List.mem_filter.mpr ⟨List.mem_of_getElem? (i := 99) (by decide +kernel), by decide +kernel⟩, by decide +kernel⟩
abbrev jX10_spell : MD := (RX10, yX10_spell, cX10_spell, 5, some .int, { frames := 3, cells := 0, slots := 0, locals := 66 }, fun _ _ => True)
theorem plX10_spell : pln jX10_spell := ⟨by decide +kernel, rfl, rfl, rfl, fun _ _ => trivial⟩
set_option maxRecDepth 100000 in
theorem kbX10_spell : KB jX10_spell 1 := ⟨List.mem_filter.mpr ⟨List.mem_of_getElem? (i := 1517) (by decide +kernel), by decide +kernel⟩, List.mem_filter.mpr ⟨List.mem_of_getElem? (i := 99) (by decide +kernel), by decide +kernel⟩, by decide +kernel⟩
abbrev jX10_root : MD := (RX10, yX10_root, cX10_root, 8, some .int, { frames := 0, cells := 0, slots := 0, locals := 0 }, fun _ _ => True)
theorem plX10_root : pln jX10_root := ⟨by decide +kernel, rfl, rfl, rfl, fun _ _ => trivial⟩
set_option maxRecDepth 100000 in
theorem kbX10_root : KB jX10_root 1 := ⟨List.mem_filter.mpr ⟨List.mem_of_getElem? (i := 1416) (by decide +kernel), by decide +kernel⟩, List.mem_filter.mpr ⟨List.mem_of_getElem? (i := 99) (by decide +kernel), by decide +kernel⟩, by decide +kernel⟩
abbrev jX10_addVertex : MD := (RX10, yX10_addVertex, cX10_addVertex, 10, none, { frames := 1, cells := 0, slots := 0, locals := 27 }, fun _ _ => True)
theorem plX10_addVertex : pln jX10_addVertex := ⟨by decide +kernel, rfl, rfl, rfl, fun _ _ => trivial⟩
set_option maxRecDepth 100000 in
theorem kbX10_addVertex : KB jX10_addVertex 3 := ⟨List.mem_filter.mpr ⟨List.mem_of_getElem? (i := 1412) (by decide +kernel), by decide +kernel⟩, List.mem_filter.mpr ⟨List.mem_of_getElem? (i := 99) (by decide +kernel), by decide +kernel⟩, by decide +kernel⟩
abbrev jX10_mid : MD := (RX10, yX10_mid, cX10_mid, 2, some .int, { frames := 0, cells := 0, slots := 0, locals := 0 }, fun _ _ => True)
theorem plX10_mid : pln jX10_mid := ⟨by decide +kernel, rfl, rfl, rfl, fun _ _ => trivial⟩
set_option maxRecDepth 100000 in
theorem kbX10_mid : KB jX10_mid 2 := ⟨List.mem_filter.mpr ⟨List.mem_of_getElem? (i := 1435) (by decide +kernel), by decide +kernel⟩, List.mem_filter.mpr ⟨List.mem_of_getElem? (i := 99) (by decide +kernel), by decide +kernel⟩, by decide +kernel⟩
abbrev jX10_push : MD := (RX10, yX10_push, cX10_push, 11, none, { frames := 0, cells := 0, slots := 0, locals := 0 }, fun _ _ => True)
theorem plX10_push : pln jX10_push := ⟨by decide +kernel, rfl, rfl, rfl, fun _ _ => trivial⟩
set_option maxRecDepth 100000 in
theorem kbX10_push : KB jX10_push 9 := ⟨List.mem_filter.mpr ⟨List.mem_of_getElem? (i := 1422) (by decide +kernel), by decide +kernel⟩, List.mem_filter.mpr ⟨List.mem_of_getElem? (i := 99) (by decide +kernel), by decide +kernel⟩, by decide +kernel⟩
abbrev jX10_bend : MD := (RX10, yX10_bend, cX10_bend, 3, some .int, { frames := 1, cells := 0, slots := 0, locals := 20 }, fun _ _ => True)
theorem plX10_bend : pln jX10_bend := ⟨by decide +kernel, rfl, rfl, rfl, fun _ _ => trivial⟩
set_option maxRecDepth 100000 in
theorem kbX10_bend : KB jX10_bend 3 := ⟨List.mem_filter.mpr ⟨List.mem_of_getElem? (i := 1429) (by decide +kernel), by decide +kernel⟩, List.mem_filter.mpr ⟨List.mem_of_getElem? (i := 99) (by decide +kernel), by decide +kernel⟩, by decide +kernel⟩
abbrev jX10_flattenQuad : MD := (RX10, yX10_flattenQuad, cX10_flattenQuad, 17, none, { frames := 2, cells := 0, slots := 0, locals := 56 }, fun _ _ => True)
theorem plX10_flattenQuad : pln jX10_flattenQuad := ⟨by decide +kernel, rfl, rfl, rfl, fun _ _ => trivial⟩
set_option maxRecDepth 100000 in
theorem kbX10_flattenQuad : KB jX10_flattenQuad 1 := ⟨List.mem_filter.mpr ⟨List.mem_of_getElem? (i := 1426) (by decide +kernel), by decide +kernel⟩, List.mem_filter.mpr ⟨List.mem_of_getElem? (i := 99) (by decide +kernel), by decide +kernel⟩, by decide +kernel⟩
abbrev jX10_flattenCubic : MD := (RX10, yX10_flattenCubic, cX10_flattenCubic, 26, none, { frames := 2, cells := 0, slots := 0, locals := 56 }, fun _ _ => True)
theorem plX10_flattenCubic : pln jX10_flattenCubic := ⟨by decide +kernel, rfl, rfl, rfl, fun _ _ => trivial⟩
set_option maxRecDepth 100000 in
theorem kbX10_flattenCubic : KB jX10_flattenCubic 1 := ⟨List.mem_filter.mpr ⟨List.mem_of_getElem? (i := 1439) (by decide +kernel), by decide +kernel⟩, List.mem_filter.mpr ⟨List.mem_of_getElem? (i := 99) (by decide +kernel), by decide +kernel⟩, by decide +kernel⟩
abbrev jX10_flatten : MD := (RX10, yX10_flatten, cX10_flatten, 3, none, { frames := 3, cells := 0, slots := 0, locals := 101 }, fun _ _ => True)
theorem plX10_flatten : pln jX10_flatten := ⟨by decide +kernel, rfl, rfl, rfl, fun _ _ => trivial⟩
set_option maxRecDepth 100000 in
theorem kbX10_flatten : KB jX10_flatten 0 := ⟨List.mem_filter.mpr ⟨List.mem_of_getElem? (i := 1396) (by decide +kernel), by decide +kernel⟩, List.mem_filter.mpr ⟨List.mem_of_getElem? (i := 99) (by decide +kernel), by decide +kernel⟩, by decide +kernel⟩
abbrev jX10_verticesOf : MD := (RX10, yX10_verticesOf, cX10_verticesOf, 2, some .int, { frames := 0, cells := 0, slots := 0, locals := 0 }, fun _ _ => True)
theorem plX10_verticesOf : pln jX10_verticesOf := ⟨by decide +kernel, rfl, rfl, rfl, fun _ _ => trivial⟩
set_option maxRecDepth 100000 in
theorem kbX10_verticesOf : KB jX10_verticesOf 1 := ⟨List.mem_filter.mpr ⟨List.mem_of_getElem? (i := 1541) (by decide +kernel), by decide +kernel⟩, List.mem_filter.mpr ⟨List.mem_of_getElem? (i := 99) (by decide +kernel), by decide +kernel⟩, by decide +kernel⟩
abbrev jX10_lengthOfContour : MD := (RX10, yX10_lengthOfContour, cX10_lengthOfContour, 2, some .int, { frames := 0, cells := 0, slots := 0, locals := 0 }, fun _ _ => True)
theorem plX10_lengthOfContour : pln jX10_lengthOfContour := ⟨by decide +kernel, rfl, rfl, rfl, fun _ _ => trivial⟩
set_option maxRecDepth 100000 in
theorem kbX10_lengthOfContour : KB jX10_lengthOfContour 1 := ⟨List.mem_filter.mpr ⟨List.mem_of_getElem? (i := 1545) (by decide +kernel), by decide +kernel⟩, List.mem_filter.mpr ⟨List.mem_of_getElem? (i := 99) (by decide +kernel), by decide +kernel⟩, by decide +kernel⟩
abbrev jX10_isClosed : MD := (RX10, yX10_isClosed, cX10_isClosed, 2, some .boolean, { frames := 2, cells := 0, slots := 0, locals := 44 }, fun _ _ => True)
theorem plX10_isClosed : pln jX10_isClosed := ⟨by decide +kernel, rfl, rfl, rfl, fun _ _ => trivial⟩
set_option maxRecDepth 100000 in
theorem kbX10_isClosed : KB jX10_isClosed 1 := ⟨List.mem_filter.mpr ⟨List.mem_of_getElem? (i := 1549) (by decide +kernel), by decide +kernel⟩, List.mem_filter.mpr ⟨List.mem_of_getElem? (i := 99) (by decide +kernel), by decide +kernel⟩, by decide +kernel⟩
abbrev jX10_segmentAt : MD := (RX10, yX10_segmentAt, cX10_segmentAt, 3, some .int, { frames := 0, cells := 0, slots := 0, locals := 0 }, fun _ _ => True)
theorem plX10_segmentAt : pln jX10_segmentAt := ⟨by decide +kernel, rfl, rfl, rfl, fun _ _ => trivial⟩
set_option maxRecDepth 100000 in
theorem kbX10_segmentAt : KB jX10_segmentAt 2 := ⟨List.mem_filter.mpr ⟨List.mem_of_getElem? (i := 1569) (by decide +kernel), by decide +kernel⟩, List.mem_filter.mpr ⟨List.mem_of_getElem? (i := 99) (by decide +kernel), by decide +kernel⟩, by decide +kernel⟩
abbrev jX10_measured : MD := (RX10, yX10_measured, cX10_measured, 3, some .int, { frames := 3, cells := 0, slots := 0, locals := 65 }, fun _ _ => True)
theorem plX10_measured : pln jX10_measured := ⟨by decide +kernel, rfl, rfl, rfl, fun _ _ => trivial⟩
set_option maxRecDepth 100000 in
theorem kbX10_measured : KB jX10_measured 2 := ⟨List.mem_filter.mpr ⟨List.mem_of_getElem? (i := 1537) (by decide +kernel), by decide +kernel⟩, List.mem_filter.mpr ⟨List.mem_of_getElem? (i := 99) (by decide +kernel), by decide +kernel⟩, by decide +kernel⟩
abbrev jX10_measure : MD := (RX10, yX10_measure, cX10_measure, 5, some .int, { frames := 4, cells := 0, slots := 0, locals := 123 }, fun _ _ => True)
theorem plX10_measure : pln jX10_measure := ⟨by decide +kernel, rfl, rfl, rfl, fun _ _ => trivial⟩
set_option maxRecDepth 100000 in
theorem kbX10_measure : KB jX10_measure 2 := ⟨List.mem_filter.mpr ⟨List.mem_of_getElem? (i := 1533) (by decide +kernel), by decide +kernel⟩, List.mem_filter.mpr ⟨List.mem_of_getElem? (i := 99) (by decide +kernel), by decide +kernel⟩, by decide +kernel⟩
abbrev jX10_vertex : MD := (RX10, yX10_vertex, cX10_vertex, 5, some .int, { frames := 4, cells := 0, slots := 0, locals := 123 }, fun _ _ => True)
theorem plX10_vertex : pln jX10_vertex := ⟨by decide +kernel, rfl, rfl, rfl, fun _ _ => trivial⟩
set_option maxRecDepth 100000 in
theorem kbX10_vertex : KB jX10_vertex 3 := ⟨List.mem_filter.mpr ⟨List.mem_of_getElem? (i := 1553) (by decide +kernel), by decide +kernel⟩, List.mem_filter.mpr ⟨List.mem_of_getElem? (i := 99) (by decide +kernel), by decide +kernel⟩, by decide +kernel⟩
abbrev jX10_vertexFor : MD := (RX10, yX10_vertexFor, cX10_vertexFor, 4, some .int, { frames := 0, cells := 0, slots := 0, locals := 0 }, fun _ _ => True)
theorem plX10_vertexFor : pln jX10_vertexFor := ⟨by decide +kernel, rfl, rfl, rfl, fun _ _ => trivial⟩
set_option maxRecDepth 100000 in
theorem kbX10_vertexFor : KB jX10_vertexFor 2 := ⟨List.mem_filter.mpr ⟨List.mem_of_getElem? (i := 1565) (by decide +kernel), by decide +kernel⟩, List.mem_filter.mpr ⟨List.mem_of_getElem? (i := 99) (by decide +kernel), by decide +kernel⟩, by decide +kernel⟩
abbrev jX10_placeAt : MD := (RX10, yX10_placeAt, cX10_placeAt, 13, some .int, { frames := 1, cells := 0, slots := 0, locals := 23 }, fun _ _ => True)
theorem plX10_placeAt : pln jX10_placeAt := ⟨by decide +kernel, rfl, rfl, rfl, fun _ _ => trivial⟩
set_option maxRecDepth 100000 in
theorem kbX10_placeAt : KB jX10_placeAt 3 := ⟨List.mem_filter.mpr ⟨List.mem_of_getElem? (i := 1561) (by decide +kernel), by decide +kernel⟩, List.mem_filter.mpr ⟨List.mem_of_getElem? (i := 99) (by decide +kernel), by decide +kernel⟩, by decide +kernel⟩
abbrev jX10_at : MD := (RX10, yX10_at, cX10_at, 4, some .int, { frames := 4, cells := 0, slots := 0, locals := 123 }, fun _ _ => True)
theorem plX10_at : pln jX10_at := ⟨by decide +kernel, rfl, rfl, rfl, fun _ _ => trivial⟩
set_option maxRecDepth 100000 in
theorem kbX10_at : KB jX10_at 3 := ⟨List.mem_filter.mpr ⟨List.mem_of_getElem? (i := 1557) (by decide +kernel), by decide +kernel⟩, List.mem_filter.mpr ⟨List.mem_of_getElem? (i := 99) (by decide +kernel), by decide +kernel⟩, by decide +kernel⟩
abbrev jX10_nearest : MD := (RX10, yX10_nearest, cX10_nearest, 27, some .int, { frames := 4, cells := 0, slots := 0, locals := 123 }, fun _ _ => True)
theorem plX10_nearest : pln jX10_nearest := ⟨by decide +kernel, rfl, rfl, rfl, fun _ _ => trivial⟩
set_option maxRecDepth 100000 in
theorem kbX10_nearest : KB jX10_nearest 3 := ⟨List.mem_filter.mpr ⟨List.mem_of_getElem? (i := 1573) (by decide +kernel), by decide +kernel⟩, List.mem_filter.mpr ⟨List.mem_of_getElem? (i := 99) (by decide +kernel), by decide +kernel⟩, by decide +kernel⟩
abbrev jX10_turnsRound : MD := (RX10, yX10_turnsRound, cX10_turnsRound, 14, some .int, { frames := 0, cells := 0, slots := 0, locals := 0 }, fun _ _ => True)
theorem plX10_turnsRound : pln jX10_turnsRound := ⟨by decide +kernel, rfl, rfl, rfl, fun _ _ => trivial⟩
set_option maxRecDepth 100000 in
theorem kbX10_turnsRound : KB jX10_turnsRound 6 := ⟨List.mem_filter.mpr ⟨List.mem_of_getElem? (i := 1581) (by decide +kernel), by decide +kernel⟩, List.mem_filter.mpr ⟨List.mem_of_getElem? (i := 99) (by decide +kernel), by decide +kernel⟩, by decide +kernel⟩
abbrev jX10_winding : MD := (RX10, yX10_winding, cX10_winding, 7, some .int, { frames := 4, cells := 0, slots := 0, locals := 123 }, fun _ _ => True)
theorem plX10_winding : pln jX10_winding := ⟨by decide +kernel, rfl, rfl, rfl, fun _ _ => trivial⟩
set_option maxRecDepth 100000 in
theorem kbX10_winding : KB jX10_winding 2 := ⟨List.mem_filter.mpr ⟨List.mem_of_getElem? (i := 1578) (by decide +kernel), by decide +kernel⟩, List.mem_filter.mpr ⟨List.mem_of_getElem? (i := 99) (by decide +kernel), by decide +kernel⟩, by decide +kernel⟩
abbrev jX10_area : MD := (RX10, yX10_area, cX10_area, 6, some .long, { frames := 4, cells := 0, slots := 0, locals := 123 }, fun _ _ => True)
theorem plX10_area : pln jX10_area := ⟨by decide +kernel, rfl, rfl, rfl, fun _ _ => trivial⟩
set_option maxRecDepth 100000 in
theorem kbX10_area : KB jX10_area 1 := ⟨List.mem_filter.mpr ⟨List.mem_of_getElem? (i := 1585) (by decide +kernel), by decide +kernel⟩, List.mem_filter.mpr ⟨List.mem_of_getElem? (i := 99) (by decide +kernel), by decide +kernel⟩, by decide +kernel⟩
abbrev jX10_bound : MD := (RX10, yX10_bound, cX10_bound, 8, some .int, { frames := 4, cells := 0, slots := 0, locals := 123 }, fun _ _ => True)
theorem plX10_bound : pln jX10_bound := ⟨by decide +kernel, rfl, rfl, rfl, fun _ _ => trivial⟩
set_option maxRecDepth 100000 in
theorem kbX10_bound : KB jX10_bound 2 := ⟨List.mem_filter.mpr ⟨List.mem_of_getElem? (i := 1590) (by decide +kernel), by decide +kernel⟩, List.mem_filter.mpr ⟨List.mem_of_getElem? (i := 99) (by decide +kernel), by decide +kernel⟩, by decide +kernel⟩
abbrev jX10_farthest : MD := (RX10, yX10_farthest, cX10_farthest, 22, some .int, { frames := 0, cells := 0, slots := 0, locals := 0 }, fun _ _ => True)
theorem plX10_farthest : pln jX10_farthest := ⟨by decide +kernel, rfl, rfl, rfl, fun _ _ => trivial⟩
set_option maxRecDepth 100000 in
theorem kbX10_farthest : KB jX10_farthest 3 := ⟨List.mem_filter.mpr ⟨List.mem_of_getElem? (i := 1598) (by decide +kernel), by decide +kernel⟩, List.mem_filter.mpr ⟨List.mem_of_getElem? (i := 99) (by decide +kernel), by decide +kernel⟩, by decide +kernel⟩
abbrev jX10_simplified : MD := (RX10, yX10_simplified, cX10_simplified, 9, some .int, { frames := 4, cells := 0, slots := 0, locals := 123 }, fun _ _ => True)
theorem plX10_simplified : pln jX10_simplified := ⟨by decide +kernel, rfl, rfl, rfl, fun _ _ => trivial⟩
set_option maxRecDepth 100000 in
theorem kbX10_simplified : KB jX10_simplified 3 := ⟨List.mem_filter.mpr ⟨List.mem_of_getElem? (i := 1594) (by decide +kernel), by decide +kernel⟩, List.mem_filter.mpr ⟨List.mem_of_getElem? (i := 99) (by decide +kernel), by decide +kernel⟩, by decide +kernel⟩
abbrev jX10_addDash : MD := (RX10, yX10_addDash, cX10_addDash, 2, some .int, { frames := 1, cells := 0, slots := 0, locals := 22 }, fun _ _ => True)
theorem plX10_addDash : pln jX10_addDash := ⟨by decide +kernel, rfl, rfl, rfl, fun _ _ => trivial⟩
set_option maxRecDepth 100000 in
theorem kbX10_addDash : KB jX10_addDash 1 := ⟨List.mem_filter.mpr ⟨List.mem_of_getElem? (i := 1602) (by decide +kernel), by decide +kernel⟩, List.mem_filter.mpr ⟨List.mem_of_getElem? (i := 99) (by decide +kernel), by decide +kernel⟩, by decide +kernel⟩
abbrev jX10_clearDashes : MD := (RX10, yX10_clearDashes, cX10_clearDashes, 3, some .int, { frames := 1, cells := 0, slots := 0, locals := 22 }, fun _ _ => True)
theorem plX10_clearDashes : pln jX10_clearDashes := ⟨by decide +kernel, rfl, rfl, rfl, fun _ _ => trivial⟩
set_option maxRecDepth 100000 in
theorem kbX10_clearDashes : KB jX10_clearDashes 1 := ⟨List.mem_filter.mpr ⟨List.mem_of_getElem? (i := 1607) (by decide +kernel), by decide +kernel⟩, List.mem_filter.mpr ⟨List.mem_of_getElem? (i := 99) (by decide +kernel), by decide +kernel⟩, by decide +kernel⟩
abbrev jX10_layDashes : MD := (RX10, yX10_layDashes, cX10_layDashes, 8, some .int, { frames := 0, cells := 0, slots := 0, locals := 0 }, fun _ _ => True)
theorem plX10_layDashes : pln jX10_layDashes := ⟨by decide +kernel, rfl, rfl, rfl, fun _ _ => trivial⟩
set_option maxRecDepth 100000 in
theorem kbX10_layDashes : KB jX10_layDashes 1 := ⟨List.mem_filter.mpr ⟨List.mem_of_getElem? (i := 1615) (by decide +kernel), by decide +kernel⟩, List.mem_filter.mpr ⟨List.mem_of_getElem? (i := 99) (by decide +kernel), by decide +kernel⟩, by decide +kernel⟩
abbrev jX10_dash : MD := (RX10, yX10_dash, cX10_dash, 5, some .int, { frames := 4, cells := 0, slots := 0, locals := 123 }, fun _ _ => True)
theorem plX10_dash : pln jX10_dash := ⟨by decide +kernel, rfl, rfl, rfl, fun _ _ => trivial⟩
set_option maxRecDepth 100000 in
theorem kbX10_dash : KB jX10_dash 3 := ⟨List.mem_filter.mpr ⟨List.mem_of_getElem? (i := 1611) (by decide +kernel), by decide +kernel⟩, List.mem_filter.mpr ⟨List.mem_of_getElem? (i := 99) (by decide +kernel), by decide +kernel⟩, by decide +kernel⟩
abbrev jX10_isLetter : MD := (RX10, yX10_isLetter, cX10_isLetter, 1, some .boolean, { frames := 1, cells := 0, slots := 0, locals := 22 }, fun _ _ => True)
theorem plX10_isLetter : pln jX10_isLetter := ⟨by decide +kernel, rfl, rfl, rfl, fun _ _ => trivial⟩
set_option maxRecDepth 100000 in
theorem kbX10_isLetter : KB jX10_isLetter 1 := ⟨List.mem_filter.mpr ⟨List.mem_of_getElem? (i := 1622) (by decide +kernel), by decide +kernel⟩, List.mem_filter.mpr ⟨List.mem_of_getElem? (i := 99) (by decide +kernel), by decide +kernel⟩, by decide +kernel⟩
abbrev jX10_setWidth : MD := (RX10, yX10_setWidth, cX10_setWidth, 4, some .int, { frames := 2, cells := 0, slots := 0, locals := 42 }, fun _ _ => True)
theorem plX10_setWidth : pln jX10_setWidth := ⟨by decide +kernel, rfl, rfl, rfl, fun _ _ => trivial⟩
set_option maxRecDepth 100000 in
theorem kbX10_setWidth : KB jX10_setWidth 2 := ⟨List.mem_filter.mpr ⟨List.mem_of_getElem? (i := 1619) (by decide +kernel), by decide +kernel⟩, List.mem_filter.mpr ⟨List.mem_of_getElem? (i := 99) (by decide +kernel), by decide +kernel⟩, by decide +kernel⟩
abbrev jX10_setKerning : MD := (RX10, yX10_setKerning, cX10_setKerning, 6, some .int, { frames := 2, cells := 0, slots := 0, locals := 42 }, fun _ _ => True)
theorem plX10_setKerning : pln jX10_setKerning := ⟨by decide +kernel, rfl, rfl, rfl, fun _ _ => trivial⟩
set_option maxRecDepth 100000 in
theorem kbX10_setKerning : KB jX10_setKerning 3 := ⟨List.mem_filter.mpr ⟨List.mem_of_getElem? (i := 1626) (by decide +kernel), by decide +kernel⟩, List.mem_filter.mpr ⟨List.mem_of_getElem? (i := 99) (by decide +kernel), by decide +kernel⟩, by decide +kernel⟩
abbrev jX10_write : MD := (RX10, yX10_write, cX10_write, 2, some .int, { frames := 2, cells := 0, slots := 0, locals := 42 }, fun _ _ => True)
theorem plX10_write : pln jX10_write := ⟨by decide +kernel, rfl, rfl, rfl, fun _ _ => trivial⟩
set_option maxRecDepth 100000 in
theorem kbX10_write : KB jX10_write 1 := ⟨List.mem_filter.mpr ⟨List.mem_of_getElem? (i := 1630) (by decide +kernel), by decide +kernel⟩, List.mem_filter.mpr ⟨List.mem_of_getElem? (i := 99) (by decide +kernel), by decide +kernel⟩, by decide +kernel⟩
abbrev jX10_erase : MD := (RX10, yX10_erase, cX10_erase, 2, some .int, { frames := 0, cells := 0, slots := 0, locals := 0 }, fun _ _ => True)
theorem plX10_erase : pln jX10_erase := ⟨by decide +kernel, rfl, rfl, rfl, fun _ _ => trivial⟩
set_option maxRecDepth 100000 in
theorem kbX10_erase : KB jX10_erase 0 := ⟨List.mem_filter.mpr ⟨List.mem_of_getElem? (i := 1634) (by decide +kernel), by decide +kernel⟩, List.mem_filter.mpr ⟨List.mem_of_getElem? (i := 99) (by decide +kernel), by decide +kernel⟩, by decide +kernel⟩
abbrev jX10_arrange : MD := (RX10, yX10_arrange, cX10_arrange, 4, some .int, { frames := 1, cells := 0, slots := 0, locals := 22 }, fun _ _ => True)
theorem plX10_arrange : pln jX10_arrange := ⟨by decide +kernel, rfl, rfl, rfl, fun _ _ => trivial⟩
set_option maxRecDepth 100000 in
theorem kbX10_arrange : KB jX10_arrange 3 := ⟨List.mem_filter.mpr ⟨List.mem_of_getElem? (i := 1638) (by decide +kernel), by decide +kernel⟩, List.mem_filter.mpr ⟨List.mem_of_getElem? (i := 99) (by decide +kernel), by decide +kernel⟩, by decide +kernel⟩
abbrev jX10_widthOf : MD := (RX10, yX10_widthOf, cX10_widthOf, 2, some .int, { frames := 0, cells := 0, slots := 0, locals := 0 }, fun _ _ => True)
theorem plX10_widthOf : pln jX10_widthOf := ⟨by decide +kernel, rfl, rfl, rfl, fun _ _ => trivial⟩
set_option maxRecDepth 100000 in
theorem kbX10_widthOf : KB jX10_widthOf 1 := ⟨List.mem_filter.mpr ⟨List.mem_of_getElem? (i := 1658) (by decide +kernel), by decide +kernel⟩, List.mem_filter.mpr ⟨List.mem_of_getElem? (i := 99) (by decide +kernel), by decide +kernel⟩, by decide +kernel⟩
abbrev jX10_advance : MD := (RX10, yX10_advance, cX10_advance, 2, some .int, { frames := 1, cells := 0, slots := 0, locals := 21 }, fun _ _ => True)
theorem plX10_advance : pln jX10_advance := ⟨by decide +kernel, rfl, rfl, rfl, fun _ _ => trivial⟩
set_option maxRecDepth 100000 in
theorem kbX10_advance : KB jX10_advance 1 := ⟨List.mem_filter.mpr ⟨List.mem_of_getElem? (i := 1662) (by decide +kernel), by decide +kernel⟩, List.mem_filter.mpr ⟨List.mem_of_getElem? (i := 99) (by decide +kernel), by decide +kernel⟩, by decide +kernel⟩
abbrev jX10_hasSegments : MD := (RX10, yX10_hasSegments, cX10_hasSegments, 2, some .boolean, { frames := 1, cells := 0, slots := 0, locals := 21 }, fun _ _ => True)
theorem plX10_hasSegments : pln jX10_hasSegments := ⟨by decide +kernel, rfl, rfl, rfl, fun _ _ => trivial⟩
set_option maxRecDepth 100000 in
theorem kbX10_hasSegments : KB jX10_hasSegments 1 := ⟨List.mem_filter.mpr ⟨List.mem_of_getElem? (i := 1654) (by decide +kernel), by decide +kernel⟩, List.mem_filter.mpr ⟨List.mem_of_getElem? (i := 99) (by decide +kernel), by decide +kernel⟩, by decide +kernel⟩
abbrev jX10_layOne : MD := (RX10, yX10_layOne, cX10_layOne, 9, none, { frames := 3, cells := 0, slots := 0, locals := 65 }, fun _ _ => True)
theorem plX10_layOne : pln jX10_layOne := ⟨by decide +kernel, rfl, rfl, rfl, fun _ _ => trivial⟩
set_option maxRecDepth 100000 in
theorem kbX10_layOne : KB jX10_layOne 1 := ⟨List.mem_filter.mpr ⟨List.mem_of_getElem? (i := 1666) (by decide +kernel), by decide +kernel⟩, List.mem_filter.mpr ⟨List.mem_of_getElem? (i := 99) (by decide +kernel), by decide +kernel⟩, by decide +kernel⟩
abbrev jX10_layOn : MD := (RX10, yX10_layOn, cX10_layOn, 6, none, { frames := 2, cells := 0, slots := 0, locals := 42 }, fun _ _ => True)
theorem plX10_layOn : pln jX10_layOn := ⟨by decide +kernel, rfl, rfl, rfl, fun _ _ => trivial⟩
set_option maxRecDepth 100000 in
theorem kbX10_layOn : KB jX10_layOn 1 := ⟨List.mem_filter.mpr ⟨List.mem_of_getElem? (i := 1650) (by decide +kernel), by decide +kernel⟩, List.mem_filter.mpr ⟨List.mem_of_getElem? (i := 99) (by decide +kernel), by decide +kernel⟩, by decide +kernel⟩
abbrev jX10_layLetters : MD := (RX10, yX10_layLetters, cX10_layLetters, 2, none, { frames := 4, cells := 0, slots := 0, locals := 123 }, fun _ _ => True)
theorem plX10_layLetters : pln jX10_layLetters := ⟨by decide +kernel, rfl, rfl, rfl, fun _ _ => trivial⟩
set_option maxRecDepth 100000 in
theorem kbX10_layLetters : KB jX10_layLetters 1 := ⟨List.mem_filter.mpr ⟨List.mem_of_getElem? (i := 1646) (by decide +kernel), by decide +kernel⟩, List.mem_filter.mpr ⟨List.mem_of_getElem? (i := 99) (by decide +kernel), by decide +kernel⟩, by decide +kernel⟩
abbrev jX10_letter : MD := (RX10, yX10_letter, cX10_letter, 5, some .int, { frames := 5, cells := 0, slots := 0, locals := 144 }, fun _ _ => True)
theorem plX10_letter : pln jX10_letter := ⟨by decide +kernel, rfl, rfl, rfl, fun _ _ => trivial⟩
set_option maxRecDepth 100000 in
theorem kbX10_letter : KB jX10_letter 3 := ⟨List.mem_filter.mpr ⟨List.mem_of_getElem? (i := 1642) (by decide +kernel), by decide +kernel⟩, List.mem_filter.mpr ⟨List.mem_of_getElem? (i := 99) (by decide +kernel), by decide +kernel⟩, by decide +kernel⟩
abbrev jX10_turnsBack : MD := (RX10, yX10_turnsBack, cX10_turnsBack, 8, some .boolean, { frames := 2, cells := 0, slots := 0, locals := 55 }, fun _ _ => True)
theorem plX10_turnsBack : pln jX10_turnsBack := ⟨by decide +kernel, rfl, rfl, rfl, fun _ _ => trivial⟩
set_option maxRecDepth 100000 in
theorem kbX10_turnsBack : KB jX10_turnsBack 2 := ⟨List.mem_filter.mpr ⟨List.mem_of_getElem? (i := 1674) (by decide +kernel), by decide +kernel⟩, List.mem_filter.mpr ⟨List.mem_of_getElem? (i := 99) (by decide +kernel), by decide +kernel⟩, by decide +kernel⟩
abbrev jX10_placed : MD := (RX10, yX10_placed, cX10_placed, 7, some .int, { frames := 5, cells := 0, slots := 0, locals := 144 }, fun _ _ => True)
theorem plX10_placed : pln jX10_placed := ⟨by decide +kernel, rfl, rfl, rfl, fun _ _ => trivial⟩
set_option maxRecDepth 100000 in
theorem kbX10_placed : KB jX10_placed 2 := ⟨List.mem_filter.mpr ⟨List.mem_of_getElem? (i := 1670) (by decide +kernel), by decide +kernel⟩, List.mem_filter.mpr ⟨List.mem_of_getElem? (i := 99) (by decide +kernel), by decide +kernel⟩, by decide +kernel⟩
abbrev jX10_count : MD := (RX10, yX10_count, cX10_count, 2, some .int, { frames := 3, cells := 0, slots := 0, locals := 64 }, fun _ _ => True)
theorem plX10_count : pln jX10_count := ⟨by decide +kernel, rfl, rfl, rfl, fun _ _ => trivial⟩
set_option maxRecDepth 100000 in
theorem kbX10_count : KB jX10_count 1 := ⟨List.mem_filter.mpr ⟨List.mem_of_getElem? (i := 1678) (by decide +kernel), by decide +kernel⟩, List.mem_filter.mpr ⟨List.mem_of_getElem? (i := 99) (by decide +kernel), by decide +kernel⟩, by decide +kernel⟩
abbrev jX10_save : MD := (RX10, yX10_save, cX10_save, 3, some .int, { frames := 1, cells := 0, slots := 0, locals := 22 }, fun _ _ => True)
theorem plX10_save : pln jX10_save := ⟨by decide +kernel, rfl, rfl, rfl, fun _ _ => trivial⟩
set_option maxRecDepth 100000 in
theorem kbX10_save : KB jX10_save 1 := ⟨List.mem_filter.mpr ⟨List.mem_of_getElem? (i := 1682) (by decide +kernel), by decide +kernel⟩, List.mem_filter.mpr ⟨List.mem_of_getElem? (i := 99) (by decide +kernel), by decide +kernel⟩, by decide +kernel⟩
abbrev jX10_restore : MD := (RX10, yX10_restore, cX10_restore, 3, some .int, { frames := 1, cells := 0, slots := 0, locals := 22 }, fun _ _ => True)
theorem plX10_restore : pln jX10_restore := ⟨by decide +kernel, rfl, rfl, rfl, fun _ _ => trivial⟩
set_option maxRecDepth 100000 in
theorem kbX10_restore : KB jX10_restore 1 := ⟨List.mem_filter.mpr ⟨List.mem_of_getElem? (i := 1686) (by decide +kernel), by decide +kernel⟩, List.mem_filter.mpr ⟨List.mem_of_getElem? (i := 99) (by decide +kernel), by decide +kernel⟩, by decide +kernel⟩
abbrev jJ11_isValidCodePoint_9a6ad : MD := (RJ11, yJ11_isValidCodePoint_9a6ad, cJ11_isValidCodePoint_9a6ad, 2, some .boolean, { frames := 0, cells := 0, slots := 0, locals := 0 }, fun _ _ => True)
theorem plJ11_isValidCodePoint_9a6ad : pln jJ11_isValidCodePoint_9a6ad := ⟨by decide +kernel, rfl, rfl, rfl, fun _ _ => trivial⟩
set_option maxRecDepth 100000 in
theorem kbJ11_isValidCodePoint_9a6ad : KB jJ11_isValidCodePoint_9a6ad 1 := ⟨List.mem_filter.mpr ⟨List.mem_of_getElem? (i := 760) (by decide +kernel), by decide +kernel⟩, List.mem_filter.mpr ⟨List.mem_of_getElem? (i := 106) (by decide +kernel), by decide +kernel⟩, by decide +kernel⟩
abbrev jJ11_highSurrogate_5068e : MD := (RJ11, yJ11_highSurrogate_5068e, cJ11_highSurrogate_5068e, 1, some .char, { frames := 0, cells := 0, slots := 0, locals := 0 }, fun _ _ => True)
theorem plJ11_highSurrogate_5068e : pln jJ11_highSurrogate_5068e := ⟨by decide +kernel, rfl, rfl, rfl, fun _ _ => trivial⟩
set_option maxRecDepth 100000 in
theorem kbJ11_highSurrogate_5068e : KB jJ11_highSurrogate_5068e 1 := ⟨List.mem_filter.mpr ⟨List.mem_of_getElem? (i := 763) (by decide +kernel), by decide +kernel⟩, List.mem_filter.mpr ⟨List.mem_of_getElem? (i := 106) (by decide +kernel), by decide +kernel⟩, by decide +kernel⟩
abbrev jJ11_lowSurrogate_5068e : MD := (RJ11, yJ11_lowSurrogate_5068e, cJ11_lowSurrogate_5068e, 1, some .char, { frames := 0, cells := 0, slots := 0, locals := 0 }, fun _ _ => True)
theorem plJ11_lowSurrogate_5068e : pln jJ11_lowSurrogate_5068e := ⟨by decide +kernel, rfl, rfl, rfl, fun _ _ => trivial⟩
set_option maxRecDepth 100000 in
theorem kbJ11_lowSurrogate_5068e : KB jJ11_lowSurrogate_5068e 1 := ⟨List.mem_filter.mpr ⟨List.mem_of_getElem? (i := 767) (by decide +kernel), by decide +kernel⟩, List.mem_filter.mpr ⟨List.mem_of_getElem? (i := 106) (by decide +kernel), by decide +kernel⟩, by decide +kernel⟩
abbrev jJ9_floorMod_7cf53 : MD := (RJ9, yJ9_floorMod_7cf53, cJ9_floorMod_7cf53, 3, some .int, { frames := 0, cells := 0, slots := 0, locals := 0 }, fun _ _ => True)
set_option maxRecDepth 100000 in
theorem kbJ9_floorMod_7cf53 : KB jJ9_floorMod_7cf53 2 := ⟨List.mem_filter.mpr ⟨List.mem_of_getElem? (i := 1157) (by decide +kernel), by decide +kernel⟩, List.mem_filter.mpr ⟨List.mem_of_getElem? (i := 100) (by decide +kernel), by decide +kernel⟩, by decide +kernel⟩
abbrev jJ9_abs_0f7a4 : MD := (RJ9, yJ9_abs_0f7a4, cJ9_abs_0f7a4, 1, some .int, { frames := 0, cells := 0, slots := 0, locals := 0 }, fun _ _ => True)
set_option maxRecDepth 100000 in
theorem kbJ9_abs_0f7a4 : KB jJ9_abs_0f7a4 1 := ⟨List.mem_filter.mpr ⟨List.mem_of_getElem? (i := 544) (by decide +kernel), by decide +kernel⟩, List.mem_filter.mpr ⟨List.mem_of_getElem? (i := 100) (by decide +kernel), by decide +kernel⟩, by decide +kernel⟩
abbrev jJ9_max_7cf53 : MD := (RJ9, yJ9_max_7cf53, cJ9_max_7cf53, 2, some .int, { frames := 0, cells := 0, slots := 0, locals := 0 }, fun _ _ => True)
set_option maxRecDepth 100000 in
theorem kbJ9_max_7cf53 : KB jJ9_max_7cf53 2 := ⟨List.mem_filter.mpr ⟨List.mem_of_getElem? (i := 713) (by decide +kernel), by decide +kernel⟩, List.mem_filter.mpr ⟨List.mem_of_getElem? (i := 100) (by decide +kernel), by decide +kernel⟩, by decide +kernel⟩
abbrev jJ9_max_f86c9 : MD := (RJ9, yJ9_max_f86c9, cJ9_max_f86c9, 4, some .long, { frames := 0, cells := 0, slots := 0, locals := 0 }, fun _ _ => True)
set_option maxRecDepth 100000 in
theorem kbJ9_max_f86c9 : KB jJ9_max_f86c9 2 := ⟨List.mem_filter.mpr ⟨List.mem_of_getElem? (i := 948) (by decide +kernel), by decide +kernel⟩, List.mem_filter.mpr ⟨List.mem_of_getElem? (i := 100) (by decide +kernel), by decide +kernel⟩, by decide +kernel⟩
abbrev jJ9_min_7cf53 : MD := (RJ9, yJ9_min_7cf53, cJ9_min_7cf53, 2, some .int, { frames := 0, cells := 0, slots := 0, locals := 0 }, fun _ _ => True)
set_option maxRecDepth 100000 in
theorem kbJ9_min_7cf53 : KB jJ9_min_7cf53 2 := ⟨List.mem_filter.mpr ⟨List.mem_of_getElem? (i := 716) (by decide +kernel), by decide +kernel⟩, List.mem_filter.mpr ⟨List.mem_of_getElem? (i := 100) (by decide +kernel), by decide +kernel⟩, by decide +kernel⟩
abbrev jJ9_min_f86c9 : MD := (RJ9, yJ9_min_f86c9, cJ9_min_f86c9, 4, some .long, { frames := 0, cells := 0, slots := 0, locals := 0 }, fun _ _ => True)
set_option maxRecDepth 100000 in
theorem kbJ9_min_f86c9 : KB jJ9_min_f86c9 2 := ⟨List.mem_filter.mpr ⟨List.mem_of_getElem? (i := 951) (by decide +kernel), by decide +kernel⟩, List.mem_filter.mpr ⟨List.mem_of_getElem? (i := 100) (by decide +kernel), by decide +kernel⟩, by decide +kernel⟩
abbrev jJ0_length_8abf5 : MD := (RJ0, yJ0_length_8abf5, cJ0_length_8abf5, 1, some .int, { frames := 1, cells := 0, slots := 0, locals := 20 }, fun _ _ => True)
theorem plJ0_length_8abf5 : pln jJ0_length_8abf5 := ⟨by decide +kernel, rfl, rfl, rfl, fun _ _ => trivial⟩
set_option maxRecDepth 100000 in
theorem kbJ0_length_8abf5 : KB jJ0_length_8abf5 0 := ⟨List.mem_filter.mpr ⟨List.mem_of_getElem? (i := 700) (by decide +kernel), by decide +kernel⟩, List.mem_filter.mpr ⟨List.mem_of_getElem? (i := 102) (by decide +kernel), by decide +kernel⟩, by decide +kernel⟩
abbrev jJ0_charAt_5068e : MD := (RJ0, yJ0_charAt_5068e, cJ0_charAt_5068e, 2, some .char, { frames := 4, cells := 0, slots := 0, locals := 85 }, fun _ _ => True)
theorem plJ0_charAt_5068e : pln jJ0_charAt_5068e := ⟨by decide +kernel, rfl, rfl, rfl, fun _ _ => trivial⟩
set_option maxRecDepth 100000 in
theorem kbJ0_charAt_5068e : KB jJ0_charAt_5068e 1 := ⟨List.mem_filter.mpr ⟨List.mem_of_getElem? (i := 815) (by decide +kernel), by decide +kernel⟩, List.mem_filter.mpr ⟨List.mem_of_getElem? (i := 102) (by decide +kernel), by decide +kernel⟩, by decide +kernel⟩
abbrev jJ0_indexOf_0f7a4 : MD := (RJ0, yJ0_indexOf_0f7a4, cJ0_indexOf_0f7a4, 2, some .int, { frames := 6, cells := 0, slots := 0, locals := 138 }, fun _ _ => True)
theorem plJ0_indexOf_0f7a4 : pln jJ0_indexOf_0f7a4 := ⟨by decide +kernel, rfl, rfl, rfl, fun _ _ => trivial⟩
set_option maxRecDepth 100000 in
theorem kbJ0_indexOf_0f7a4 : KB jJ0_indexOf_0f7a4 1 := ⟨List.mem_filter.mpr ⟨List.mem_of_getElem? (i := 686) (by decide +kernel), by decide +kernel⟩, List.mem_filter.mpr ⟨List.mem_of_getElem? (i := 102) (by decide +kernel), by decide +kernel⟩, by decide +kernel⟩
abbrev jJ0_indexOf_7cf53 : MD := (RJ0, yJ0_indexOf_7cf53, cJ0_indexOf_7cf53, 3, some .int, { frames := 5, cells := 0, slots := 0, locals := 116 }, fun _ _ => True)
theorem plJ0_indexOf_7cf53 : pln jJ0_indexOf_7cf53 := ⟨by decide +kernel, rfl, rfl, rfl, fun _ _ => trivial⟩
set_option maxRecDepth 100000 in
theorem kbJ0_indexOf_7cf53 : KB jJ0_indexOf_7cf53 2 := ⟨List.mem_filter.mpr ⟨List.mem_of_getElem? (i := 690) (by decide +kernel), by decide +kernel⟩, List.mem_filter.mpr ⟨List.mem_of_getElem? (i := 102) (by decide +kernel), by decide +kernel⟩, by decide +kernel⟩
abbrev jJ0_coder_7d493 : MD := (RJ0, yJ0_coder_7d493, cJ0_coder_7d493, 1, some .byte, { frames := 0, cells := 0, slots := 0, locals := 0 }, fun _ _ => True)
theorem plJ0_coder_7d493 : pln jJ0_coder_7d493 := ⟨by decide +kernel, rfl, rfl, rfl, fun _ _ => trivial⟩
set_option maxRecDepth 100000 in
theorem kbJ0_coder_7d493 : KB jJ0_coder_7d493 0 := ⟨List.mem_filter.mpr ⟨List.mem_of_getElem? (i := 704) (by decide +kernel), by decide +kernel⟩, List.mem_filter.mpr ⟨List.mem_of_getElem? (i := 102) (by decide +kernel), by decide +kernel⟩, by decide +kernel⟩
abbrev jJ0_isLatin1_aae02 : MD := (RJ0, yJ0_isLatin1_aae02, cJ0_isLatin1_aae02, 1, some .boolean, { frames := 0, cells := 0, slots := 0, locals := 0 }, fun _ _ => True)
theorem plJ0_isLatin1_aae02 : pln jJ0_isLatin1_aae02 := ⟨by decide +kernel, rfl, rfl, rfl, fun _ _ => trivial⟩
set_option maxRecDepth 100000 in
theorem kbJ0_isLatin1_aae02 : KB jJ0_isLatin1_aae02 0 := ⟨List.mem_filter.mpr ⟨List.mem_of_getElem? (i := 694) (by decide +kernel), by decide +kernel⟩, List.mem_filter.mpr ⟨List.mem_of_getElem? (i := 102) (by decide +kernel), by decide +kernel⟩, by decide +kernel⟩
abbrev jJ0_checkIndex_df160 : MD := (RJ0, yJ0_checkIndex_df160, cJ0_checkIndex_df160, 2, none, { frames := 1, cells := 0, slots := 0, locals := 22 }, fun _ _ => True)
theorem plJ0_checkIndex_df160 : pln jJ0_checkIndex_df160 := ⟨by decide +kernel, rfl, rfl, rfl, fun _ _ => trivial⟩
set_option maxRecDepth 100000 in
theorem kbJ0_checkIndex_df160 : KB jJ0_checkIndex_df160 2 := ⟨List.mem_filter.mpr ⟨List.mem_of_getElem? (i := 821) (by decide +kernel), by decide +kernel⟩, List.mem_filter.mpr ⟨List.mem_of_getElem? (i := 102) (by decide +kernel), by decide +kernel⟩, by decide +kernel⟩
abbrev jJ0_checkBoundsBeginEnd_23922 : MD := (RJ0, yJ0_checkBoundsBeginEnd_23922, cJ0_checkBoundsBeginEnd_23922, 3, none, { frames := 1, cells := 0, slots := 0, locals := 23 }, fun _ _ => True)
theorem plJ0_checkBoundsBeginEnd_23922 : pln jJ0_checkBoundsBeginEnd_23922 := ⟨by decide +kernel, rfl, rfl, rfl, fun _ _ => trivial⟩
set_option maxRecDepth 100000 in
theorem kbJ0_checkBoundsBeginEnd_23922 : KB jJ0_checkBoundsBeginEnd_23922 3 := ⟨List.mem_filter.mpr ⟨List.mem_of_getElem? (i := 737) (by decide +kernel), by decide +kernel⟩, List.mem_filter.mpr ⟨List.mem_of_getElem? (i := 102) (by decide +kernel), by decide +kernel⟩, by decide +kernel⟩
abbrev jJ1_charAt_3b067 : MD := (RJ1, yJ1_charAt_3b067, cJ1_charAt_3b067, 2, some .char, { frames := 2, cells := 0, slots := 0, locals := 43 }, fun _ _ => True)
theorem plJ1_charAt_3b067 : pln jJ1_charAt_3b067 := ⟨by decide +kernel, rfl, rfl, rfl, fun _ _ => trivial⟩
set_option maxRecDepth 100000 in
theorem kbJ1_charAt_3b067 : KB jJ1_charAt_3b067 2 := ⟨List.mem_filter.mpr ⟨List.mem_of_getElem? (i := 818) (by decide +kernel), by decide +kernel⟩, List.mem_filter.mpr ⟨List.mem_of_getElem? (i := 103) (by decide +kernel), by decide +kernel⟩, by decide +kernel⟩
abbrev jJ1_canEncode_9a6ad : MD := (RJ1, yJ1_canEncode_9a6ad, cJ1_canEncode_9a6ad, 1, some .boolean, { frames := 0, cells := 0, slots := 0, locals := 0 }, fun _ _ => True)
theorem plJ1_canEncode_9a6ad : pln jJ1_canEncode_9a6ad := ⟨by decide +kernel, rfl, rfl, rfl, fun _ _ => trivial⟩
set_option maxRecDepth 100000 in
theorem kbJ1_canEncode_9a6ad : KB jJ1_canEncode_9a6ad 1 := ⟨List.mem_filter.mpr ⟨List.mem_of_getElem? (i := 710) (by decide +kernel), by decide +kernel⟩, List.mem_filter.mpr ⟨List.mem_of_getElem? (i := 103) (by decide +kernel), by decide +kernel⟩, by decide +kernel⟩
abbrev jJ1_indexOf_4cfef : MD := (RJ1, yJ1_indexOf_4cfef, cJ1_indexOf_4cfef, 4, some .int, { frames := 1, cells := 0, slots := 0, locals := 40 }, fun _ _ => True)
theorem plJ1_indexOf_4cfef : pln jJ1_indexOf_4cfef := ⟨by decide +kernel, rfl, rfl, rfl, fun _ _ => trivial⟩
set_option maxRecDepth 100000 in
theorem kbJ1_indexOf_4cfef : KB jJ1_indexOf_4cfef 4 := ⟨List.mem_filter.mpr ⟨List.mem_of_getElem? (i := 707) (by decide +kernel), by decide +kernel⟩, List.mem_filter.mpr ⟨List.mem_of_getElem? (i := 103) (by decide +kernel), by decide +kernel⟩, by decide +kernel⟩
abbrev jJ1_indexOfChar_4cfef : MD := (RJ1, yJ1_indexOfChar_4cfef, cJ1_indexOfChar_4cfef, 6, some .int, { frames := 0, cells := 0, slots := 0, locals := 0 }, fun _ _ => True)
theorem plJ1_indexOfChar_4cfef : pln jJ1_indexOfChar_4cfef := ⟨by decide +kernel, rfl, rfl, rfl, fun _ _ => trivial⟩
set_option maxRecDepth 100000 in
theorem kbJ1_indexOfChar_4cfef : KB jJ1_indexOfChar_4cfef 4 := ⟨List.mem_filter.mpr ⟨List.mem_of_getElem? (i := 719) (by decide +kernel), by decide +kernel⟩, List.mem_filter.mpr ⟨List.mem_of_getElem? (i := 103) (by decide +kernel), by decide +kernel⟩, by decide +kernel⟩
abbrev jJ2_getChar_3b067 : MD := (RJ2, yJ2_getChar_3b067, cJ2_getChar_3b067, 2, some .char, { frames := 1, cells := 0, slots := 0, locals := 20 }, fun _ _ => True)
theorem plJ2_getChar_3b067 : pln jJ2_getChar_3b067 := ⟨by decide +kernel, rfl, rfl, rfl, fun _ _ => trivial⟩
set_option maxRecDepth 100000 in
theorem kbJ2_getChar_3b067 : KB jJ2_getChar_3b067 2 := ⟨List.mem_filter.mpr ⟨List.mem_of_getElem? (i := 748) (by decide +kernel), by decide +kernel⟩, List.mem_filter.mpr ⟨List.mem_of_getElem? (i := 104) (by decide +kernel), by decide +kernel⟩, by decide +kernel⟩
abbrev jJ2_length_9d52b : MD := (RJ2, yJ2_length_9d52b, cJ2_length_9d52b, 1, some .int, { frames := 0, cells := 0, slots := 0, locals := 0 }, fun _ _ => True)
theorem plJ2_length_9d52b : pln jJ2_length_9d52b := ⟨by decide +kernel, rfl, rfl, rfl, fun _ _ => trivial⟩
set_option maxRecDepth 100000 in
theorem kbJ2_length_9d52b : KB jJ2_length_9d52b 1 := ⟨List.mem_filter.mpr ⟨List.mem_of_getElem? (i := 734) (by decide +kernel), by decide +kernel⟩, List.mem_filter.mpr ⟨List.mem_of_getElem? (i := 104) (by decide +kernel), by decide +kernel⟩, by decide +kernel⟩
abbrev jJ2_indexOf_4cfef : MD := (RJ2, yJ2_indexOf_4cfef, cJ2_indexOf_4cfef, 4, some .int, { frames := 4, cells := 0, slots := 0, locals := 93 }, fun _ _ => True)
theorem plJ2_indexOf_4cfef : pln jJ2_indexOf_4cfef := ⟨by decide +kernel, rfl, rfl, rfl, fun _ _ => trivial⟩
set_option maxRecDepth 100000 in
theorem kbJ2_indexOf_4cfef : KB jJ2_indexOf_4cfef 4 := ⟨List.mem_filter.mpr ⟨List.mem_of_getElem? (i := 722) (by decide +kernel), by decide +kernel⟩, List.mem_filter.mpr ⟨List.mem_of_getElem? (i := 104) (by decide +kernel), by decide +kernel⟩, by decide +kernel⟩
abbrev jJ2_indexOfChar_4cfef : MD := (RJ2, yJ2_indexOfChar_4cfef, cJ2_indexOfChar_4cfef, 4, some .int, { frames := 3, cells := 0, slots := 0, locals := 67 }, fun _ _ => True)
theorem plJ2_indexOfChar_4cfef : pln jJ2_indexOfChar_4cfef := ⟨by decide +kernel, rfl, rfl, rfl, fun _ _ => trivial⟩
set_option maxRecDepth 100000 in
theorem kbJ2_indexOfChar_4cfef : KB jJ2_indexOfChar_4cfef 4 := ⟨List.mem_filter.mpr ⟨List.mem_of_getElem? (i := 728) (by decide +kernel), by decide +kernel⟩, List.mem_filter.mpr ⟨List.mem_of_getElem? (i := 104) (by decide +kernel), by decide +kernel⟩, by decide +kernel⟩
abbrev jJ2_indexOfCharUnsafe_4cfef : MD := (RJ2, yJ2_indexOfCharUnsafe_4cfef, cJ2_indexOfCharUnsafe_4cfef, 5, some .int, { frames := 2, cells := 0, slots := 0, locals := 41 }, fun _ _ => True)
theorem plJ2_indexOfCharUnsafe_4cfef : pln jJ2_indexOfCharUnsafe_4cfef := ⟨by decide +kernel, rfl, rfl, rfl, fun _ _ => trivial⟩
set_option maxRecDepth 100000 in
theorem kbJ2_indexOfCharUnsafe_4cfef : KB jJ2_indexOfCharUnsafe_4cfef 4 := ⟨List.mem_filter.mpr ⟨List.mem_of_getElem? (i := 745) (by decide +kernel), by decide +kernel⟩, List.mem_filter.mpr ⟨List.mem_of_getElem? (i := 104) (by decide +kernel), by decide +kernel⟩, by decide +kernel⟩
abbrev jJ2_indexOfSupplementary_4cfef : MD := (RJ2, yJ2_indexOfSupplementary_4cfef, cJ2_indexOfSupplementary_4cfef, 7, some .int, { frames := 3, cells := 0, slots := 0, locals := 67 }, fun _ _ => True)
theorem plJ2_indexOfSupplementary_4cfef : pln jJ2_indexOfSupplementary_4cfef := ⟨by decide +kernel, rfl, rfl, rfl, fun _ _ => trivial⟩
set_option maxRecDepth 100000 in
theorem kbJ2_indexOfSupplementary_4cfef : KB jJ2_indexOfSupplementary_4cfef 4 := ⟨List.mem_filter.mpr ⟨List.mem_of_getElem? (i := 757) (by decide +kernel), by decide +kernel⟩, List.mem_filter.mpr ⟨List.mem_of_getElem? (i := 104) (by decide +kernel), by decide +kernel⟩, by decide +kernel⟩
abbrev jJ2_charAt_3b067 : MD := (RJ2, yJ2_charAt_3b067, cJ2_charAt_3b067, 2, some .char, { frames := 3, cells := 0, slots := 0, locals := 64 }, fun _ _ => True)
theorem plJ2_charAt_3b067 : pln jJ2_charAt_3b067 := ⟨by decide +kernel, rfl, rfl, rfl, fun _ _ => trivial⟩
set_option maxRecDepth 100000 in
theorem kbJ2_charAt_3b067 : KB jJ2_charAt_3b067 2 := ⟨List.mem_filter.mpr ⟨List.mem_of_getElem? (i := 827) (by decide +kernel), by decide +kernel⟩, List.mem_filter.mpr ⟨List.mem_of_getElem? (i := 104) (by decide +kernel), by decide +kernel⟩, by decide +kernel⟩
abbrev jJ2_checkIndex_2214a : MD := (RJ2, yJ2_checkIndex_2214a, cJ2_checkIndex_2214a, 2, none, { frames := 2, cells := 0, slots := 0, locals := 43 }, fun _ _ => True)
theorem plJ2_checkIndex_2214a : pln jJ2_checkIndex_2214a := ⟨by decide +kernel, rfl, rfl, rfl, fun _ _ => trivial⟩
set_option maxRecDepth 100000 in
theorem kbJ2_checkIndex_2214a : KB jJ2_checkIndex_2214a 2 := ⟨List.mem_filter.mpr ⟨List.mem_of_getElem? (i := 830) (by decide +kernel), by decide +kernel⟩, List.mem_filter.mpr ⟨List.mem_of_getElem? (i := 104) (by decide +kernel), by decide +kernel⟩, by decide +kernel⟩
abbrev jJ2_checkBoundsBeginEnd_d044e : MD := (RJ2, yJ2_checkBoundsBeginEnd_d044e, cJ2_checkBoundsBeginEnd_d044e, 3, none, { frames := 2, cells := 0, slots := 0, locals := 45 }, fun _ _ => True)
theorem plJ2_checkBoundsBeginEnd_d044e : pln jJ2_checkBoundsBeginEnd_d044e := ⟨by decide +kernel, rfl, rfl, rfl, fun _ _ => trivial⟩
set_option maxRecDepth 100000 in
theorem kbJ2_checkBoundsBeginEnd_d044e : KB jJ2_checkBoundsBeginEnd_d044e 3 := ⟨List.mem_filter.mpr ⟨List.mem_of_getElem? (i := 731) (by decide +kernel), by decide +kernel⟩, List.mem_filter.mpr ⟨List.mem_of_getElem? (i := 104) (by decide +kernel), by decide +kernel⟩, by decide +kernel⟩
abbrev jJ3_checkIndex_8e157 : MD := (RJ3, yJ3_checkIndex_8e157, cJ3_checkIndex_8e157, 3, some .int, { frames := 0, cells := 0, slots := 0, locals := 0 }, fun _ _ => True)
theorem plJ3_checkIndex_8e157 : pln jJ3_checkIndex_8e157 := ⟨by decide +kernel, rfl, rfl, rfl, fun _ _ => trivial⟩
set_option maxRecDepth 100000 in
theorem kbJ3_checkIndex_8e157 : KB jJ3_checkIndex_8e157 3 := ⟨List.mem_filter.mpr ⟨List.mem_of_getElem? (i := 824) (by decide +kernel), by decide +kernel⟩, List.mem_filter.mpr ⟨List.mem_of_getElem? (i := 105) (by decide +kernel), by decide +kernel⟩, by decide +kernel⟩
abbrev jJ3_checkFromToIndex_8c36e : MD := (RJ3, yJ3_checkFromToIndex_8c36e, cJ3_checkFromToIndex_8c36e, 4, some .int, { frames := 0, cells := 0, slots := 0, locals := 0 }, fun _ _ => True)
theorem plJ3_checkFromToIndex_8c36e : pln jJ3_checkFromToIndex_8c36e := ⟨by decide +kernel, rfl, rfl, rfl, fun _ _ => trivial⟩
set_option maxRecDepth 100000 in
theorem kbJ3_checkFromToIndex_8c36e : KB jJ3_checkFromToIndex_8c36e 4 := ⟨List.mem_filter.mpr ⟨List.mem_of_getElem? (i := 742) (by decide +kernel), by decide +kernel⟩, List.mem_filter.mpr ⟨List.mem_of_getElem? (i := 105) (by decide +kernel), by decide +kernel⟩, by decide +kernel⟩
set_option maxRecDepth 100000 in
theorem fl_X5_9 : FL RX5 9 5 0 := ⟨_, _, _, ck_5, by decide, List.mem_filter.mpr ⟨List.mem_of_getElem? (i := 121) (by decide +kernel), by decide +kernel⟩⟩
set_option maxRecDepth 100000 in
theorem fl_X5_15 : FL RX5 15 5 1 := ⟨_, _, _, ck_5, by decide, List.mem_filter.mpr ⟨List.mem_of_getElem? (i := 122) (by decide +kernel), by decide +kernel⟩⟩
set_option maxRecDepth 100000 in
theorem fl_X5_18 : FL RX5 18 5 2 := ⟨_, _, _, ck_5, by decide, List.mem_filter.mpr ⟨List.mem_of_getElem? (i := 123) (by decide +kernel), by decide +kernel⟩⟩
set_option maxRecDepth 100000 in
theorem fp_X5_18 : FP RX5 18 5 2 .int := ⟨_, _, _, ck_5, by decide, List.mem_filter.mpr ⟨List.mem_of_getElem? (i := 123) (by decide +kernel), by decide +kernel⟩, by decide +kernel, by decide +kernel⟩
set_option maxRecDepth 100000 in
theorem fl_X1_45 : FL RX1 45 5 2 := ⟨_, _, _, ck_5, by decide, List.mem_filter.mpr ⟨List.mem_of_getElem? (i := 124) (by decide +kernel), by decide +kernel⟩⟩
set_option maxRecDepth 100000 in
theorem fp_X1_45 : FP RX1 45 5 2 .int := ⟨_, _, _, ck_5, by decide, List.mem_filter.mpr ⟨List.mem_of_getElem? (i := 124) (by decide +kernel), by decide +kernel⟩, by decide +kernel, by decide +kernel⟩
set_option maxRecDepth 100000 in
theorem fl_X8_20 : FL RX8 20 5 2 := ⟨_, _, _, ck_5, by decide, List.mem_filter.mpr ⟨List.mem_of_getElem? (i := 125) (by decide +kernel), by decide +kernel⟩⟩
set_option maxRecDepth 100000 in
theorem fp_X8_20 : FP RX8 20 5 2 .int := ⟨_, _, _, ck_5, by decide, List.mem_filter.mpr ⟨List.mem_of_getElem? (i := 125) (by decide +kernel), by decide +kernel⟩, by decide +kernel, by decide +kernel⟩
set_option maxRecDepth 100000 in
theorem fl_X9_104 : FL RX9 104 5 2 := ⟨_, _, _, ck_5, by decide, List.mem_filter.mpr ⟨List.mem_of_getElem? (i := 126) (by decide +kernel), by decide +kernel⟩⟩
set_option maxRecDepth 100000 in
theorem fp_X9_104 : FP RX9 104 5 2 .int := ⟨_, _, _, ck_5, by decide, List.mem_filter.mpr ⟨List.mem_of_getElem? (i := 126) (by decide +kernel), by decide +kernel⟩, by decide +kernel, by decide +kernel⟩
set_option maxRecDepth 100000 in
theorem fl_X5_22 : FL RX5 22 5 3 := ⟨_, _, _, ck_5, by decide, List.mem_filter.mpr ⟨List.mem_of_getElem? (i := 127) (by decide +kernel), by decide +kernel⟩⟩
set_option maxRecDepth 100000 in
theorem fp_X5_22 : FP RX5 22 5 3 .int := ⟨_, _, _, ck_5, by decide, List.mem_filter.mpr ⟨List.mem_of_getElem? (i := 127) (by decide +kernel), by decide +kernel⟩, by decide +kernel, by decide +kernel⟩
set_option maxRecDepth 100000 in
theorem fl_X9_91 : FL RX9 91 5 3 := ⟨_, _, _, ck_5, by decide, List.mem_filter.mpr ⟨List.mem_of_getElem? (i := 128) (by decide +kernel), by decide +kernel⟩⟩
set_option maxRecDepth 100000 in
theorem fp_X9_91 : FP RX9 91 5 3 .int := ⟨_, _, _, ck_5, by decide, List.mem_filter.mpr ⟨List.mem_of_getElem? (i := 128) (by decide +kernel), by decide +kernel⟩, by decide +kernel, by decide +kernel⟩
set_option maxRecDepth 100000 in
theorem fl_X2_11 : FL RX2 11 2 0 := ⟨_, _, _, ck_2, by decide, List.mem_filter.mpr ⟨List.mem_of_getElem? (i := 153) (by decide +kernel), by decide +kernel⟩⟩
set_option maxRecDepth 100000 in
theorem fl_X2_16 : FL RX2 16 2 1 := ⟨_, _, _, ck_2, by decide, List.mem_filter.mpr ⟨List.mem_of_getElem? (i := 154) (by decide +kernel), by decide +kernel⟩⟩
set_option maxRecDepth 100000 in
theorem fl_X2_20 : FL RX2 20 2 2 := ⟨_, _, _, ck_2, by decide, List.mem_filter.mpr ⟨List.mem_of_getElem? (i := 155) (by decide +kernel), by decide +kernel⟩⟩
set_option maxRecDepth 100000 in
theorem fp_X2_20 : FP RX2 20 2 2 .int := ⟨_, _, _, ck_2, by decide, List.mem_filter.mpr ⟨List.mem_of_getElem? (i := 155) (by decide +kernel), by decide +kernel⟩, by decide +kernel, by decide +kernel⟩
set_option maxRecDepth 100000 in
theorem fl_X2_24 : FL RX2 24 2 3 := ⟨_, _, _, ck_2, by decide, List.mem_filter.mpr ⟨List.mem_of_getElem? (i := 156) (by decide +kernel), by decide +kernel⟩⟩
set_option maxRecDepth 100000 in
theorem fp_X2_24 : FP RX2 24 2 3 .int := ⟨_, _, _, ck_2, by decide, List.mem_filter.mpr ⟨List.mem_of_getElem? (i := 156) (by decide +kernel), by decide +kernel⟩, by decide +kernel, by decide +kernel⟩
set_option maxRecDepth 100000 in
theorem fl_X1_9 : FL RX1 9 1 0 := ⟨_, _, _, ck_1, by decide, List.mem_filter.mpr ⟨List.mem_of_getElem? (i := 167) (by decide +kernel), by decide +kernel⟩⟩
set_option maxRecDepth 100000 in
theorem fl_X1_15 : FL RX1 15 1 1 := ⟨_, _, _, ck_1, by decide, List.mem_filter.mpr ⟨List.mem_of_getElem? (i := 168) (by decide +kernel), by decide +kernel⟩⟩
set_option maxRecDepth 100000 in
theorem fl_X1_18 : FL RX1 18 1 2 := ⟨_, _, _, ck_1, by decide, List.mem_filter.mpr ⟨List.mem_of_getElem? (i := 169) (by decide +kernel), by decide +kernel⟩⟩
set_option maxRecDepth 100000 in
theorem fl_X1_21 : FL RX1 21 1 3 := ⟨_, _, _, ck_1, by decide, List.mem_filter.mpr ⟨List.mem_of_getElem? (i := 170) (by decide +kernel), by decide +kernel⟩⟩
set_option maxRecDepth 100000 in
theorem fl_X1_24 : FL RX1 24 1 4 := ⟨_, _, _, ck_1, by decide, List.mem_filter.mpr ⟨List.mem_of_getElem? (i := 171) (by decide +kernel), by decide +kernel⟩⟩
set_option maxRecDepth 100000 in
theorem fl_X1_27 : FL RX1 27 1 5 := ⟨_, _, _, ck_1, by decide, List.mem_filter.mpr ⟨List.mem_of_getElem? (i := 172) (by decide +kernel), by decide +kernel⟩⟩
set_option maxRecDepth 100000 in
theorem fl_X1_34 : FL RX1 34 1 6 := ⟨_, _, _, ck_1, by decide, List.mem_filter.mpr ⟨List.mem_of_getElem? (i := 173) (by decide +kernel), by decide +kernel⟩⟩
set_option maxRecDepth 100000 in
theorem fl_X1_38 : FL RX1 38 1 7 := ⟨_, _, _, ck_1, by decide, List.mem_filter.mpr ⟨List.mem_of_getElem? (i := 174) (by decide +kernel), by decide +kernel⟩⟩
set_option maxRecDepth 100000 in
theorem fp_X1_38 : FP RX1 38 1 7 .int := ⟨_, _, _, ck_1, by decide, List.mem_filter.mpr ⟨List.mem_of_getElem? (i := 174) (by decide +kernel), by decide +kernel⟩, by decide +kernel, by decide +kernel⟩
set_option maxRecDepth 100000 in
theorem fl_X1_42 : FL RX1 42 1 8 := ⟨_, _, _, ck_1, by decide, List.mem_filter.mpr ⟨List.mem_of_getElem? (i := 175) (by decide +kernel), by decide +kernel⟩⟩
set_option maxRecDepth 100000 in
theorem fp_X1_42 : FP RX1 42 1 8 .int := ⟨_, _, _, ck_1, by decide, List.mem_filter.mpr ⟨List.mem_of_getElem? (i := 175) (by decide +kernel), by decide +kernel⟩, by decide +kernel, by decide +kernel⟩
set_option maxRecDepth 100000 in
theorem fl_X3_100 : FL RX3 100 1 8 := ⟨_, _, _, ck_1, by decide, List.mem_filter.mpr ⟨List.mem_of_getElem? (i := 176) (by decide +kernel), by decide +kernel⟩⟩
set_option maxRecDepth 100000 in
theorem fp_X3_100 : FP RX3 100 1 8 .int := ⟨_, _, _, ck_1, by decide, List.mem_filter.mpr ⟨List.mem_of_getElem? (i := 176) (by decide +kernel), by decide +kernel⟩, by decide +kernel, by decide +kernel⟩
set_option maxRecDepth 100000 in
theorem fl_X7_9 : FL RX7 9 7 0 := ⟨_, _, _, ck_7, by decide, List.mem_filter.mpr ⟨List.mem_of_getElem? (i := 202) (by decide +kernel), by decide +kernel⟩⟩
set_option maxRecDepth 100000 in
theorem fl_X7_15 : FL RX7 15 7 1 := ⟨_, _, _, ck_7, by decide, List.mem_filter.mpr ⟨List.mem_of_getElem? (i := 203) (by decide +kernel), by decide +kernel⟩⟩
set_option maxRecDepth 100000 in
theorem fp_X7_15 : FP RX7 15 7 1 .int := ⟨_, _, _, ck_7, by decide, List.mem_filter.mpr ⟨List.mem_of_getElem? (i := 203) (by decide +kernel), by decide +kernel⟩, by decide +kernel, by decide +kernel⟩
set_option maxRecDepth 100000 in
theorem fl_X7_19 : FL RX7 19 7 2 := ⟨_, _, _, ck_7, by decide, List.mem_filter.mpr ⟨List.mem_of_getElem? (i := 204) (by decide +kernel), by decide +kernel⟩⟩
set_option maxRecDepth 100000 in
theorem fp_X7_19 : FP RX7 19 7 2 .int := ⟨_, _, _, ck_7, by decide, List.mem_filter.mpr ⟨List.mem_of_getElem? (i := 204) (by decide +kernel), by decide +kernel⟩, by decide +kernel, by decide +kernel⟩
set_option maxRecDepth 100000 in
theorem fl_X0_9 : FL RX0 9 0 0 := ⟨_, _, _, ck_0, by decide, List.mem_filter.mpr ⟨List.mem_of_getElem? (i := 218) (by decide +kernel), by decide +kernel⟩⟩
set_option maxRecDepth 100000 in
theorem fl_X0_15 : FL RX0 15 0 1 := ⟨_, _, _, ck_0, by decide, List.mem_filter.mpr ⟨List.mem_of_getElem? (i := 219) (by decide +kernel), by decide +kernel⟩⟩
set_option maxRecDepth 100000 in
theorem fl_X0_18 : FL RX0 18 0 2 := ⟨_, _, _, ck_0, by decide, List.mem_filter.mpr ⟨List.mem_of_getElem? (i := 220) (by decide +kernel), by decide +kernel⟩⟩
set_option maxRecDepth 100000 in
theorem fl_X0_21 : FL RX0 21 0 3 := ⟨_, _, _, ck_0, by decide, List.mem_filter.mpr ⟨List.mem_of_getElem? (i := 221) (by decide +kernel), by decide +kernel⟩⟩
set_option maxRecDepth 100000 in
theorem fp_X0_21 : FP RX0 21 0 3 .int := ⟨_, _, _, ck_0, by decide, List.mem_filter.mpr ⟨List.mem_of_getElem? (i := 221) (by decide +kernel), by decide +kernel⟩, by decide +kernel, by decide +kernel⟩
set_option maxRecDepth 100000 in
theorem fl_X0_25 : FL RX0 25 0 4 := ⟨_, _, _, ck_0, by decide, List.mem_filter.mpr ⟨List.mem_of_getElem? (i := 222) (by decide +kernel), by decide +kernel⟩⟩
set_option maxRecDepth 100000 in
theorem fp_X0_25 : FP RX0 25 0 4 .int := ⟨_, _, _, ck_0, by decide, List.mem_filter.mpr ⟨List.mem_of_getElem? (i := 222) (by decide +kernel), by decide +kernel⟩, by decide +kernel, by decide +kernel⟩
set_option maxRecDepth 100000 in
theorem fl_X9_230 : FL RX9 230 0 4 := ⟨_, _, _, ck_0, by decide, List.mem_filter.mpr ⟨List.mem_of_getElem? (i := 223) (by decide +kernel), by decide +kernel⟩⟩
set_option maxRecDepth 100000 in
theorem fp_X9_230 : FP RX9 230 0 4 .int := ⟨_, _, _, ck_0, by decide, List.mem_filter.mpr ⟨List.mem_of_getElem? (i := 223) (by decide +kernel), by decide +kernel⟩, by decide +kernel, by decide +kernel⟩
set_option maxRecDepth 100000 in
theorem fl_X0_28 : FL RX0 28 0 5 := ⟨_, _, _, ck_0, by decide, List.mem_filter.mpr ⟨List.mem_of_getElem? (i := 224) (by decide +kernel), by decide +kernel⟩⟩
set_option maxRecDepth 100000 in
theorem fp_X0_28 : FP RX0 28 0 5 .int := ⟨_, _, _, ck_0, by decide, List.mem_filter.mpr ⟨List.mem_of_getElem? (i := 224) (by decide +kernel), by decide +kernel⟩, by decide +kernel, by decide +kernel⟩
set_option maxRecDepth 100000 in
theorem fl_X9_234 : FL RX9 234 0 5 := ⟨_, _, _, ck_0, by decide, List.mem_filter.mpr ⟨List.mem_of_getElem? (i := 225) (by decide +kernel), by decide +kernel⟩⟩
set_option maxRecDepth 100000 in
theorem fp_X9_234 : FP RX9 234 0 5 .int := ⟨_, _, _, ck_0, by decide, List.mem_filter.mpr ⟨List.mem_of_getElem? (i := 225) (by decide +kernel), by decide +kernel⟩, by decide +kernel, by decide +kernel⟩
set_option maxRecDepth 100000 in
theorem fl_X3_9 : FL RX3 9 3 0 := ⟨_, _, _, ck_3, by decide, List.mem_filter.mpr ⟨List.mem_of_getElem? (i := 245) (by decide +kernel), by decide +kernel⟩⟩
set_option maxRecDepth 100000 in
theorem fl_X3_15 : FL RX3 15 3 1 := ⟨_, _, _, ck_3, by decide, List.mem_filter.mpr ⟨List.mem_of_getElem? (i := 246) (by decide +kernel), by decide +kernel⟩⟩
set_option maxRecDepth 100000 in
theorem fl_X3_18 : FL RX3 18 3 2 := ⟨_, _, _, ck_3, by decide, List.mem_filter.mpr ⟨List.mem_of_getElem? (i := 247) (by decide +kernel), by decide +kernel⟩⟩
set_option maxRecDepth 100000 in
theorem fl_X3_21 : FL RX3 21 3 3 := ⟨_, _, _, ck_3, by decide, List.mem_filter.mpr ⟨List.mem_of_getElem? (i := 248) (by decide +kernel), by decide +kernel⟩⟩
set_option maxRecDepth 100000 in
theorem fl_X3_24 : FL RX3 24 3 4 := ⟨_, _, _, ck_3, by decide, List.mem_filter.mpr ⟨List.mem_of_getElem? (i := 249) (by decide +kernel), by decide +kernel⟩⟩
set_option maxRecDepth 100000 in
theorem fl_X3_27 : FL RX3 27 3 5 := ⟨_, _, _, ck_3, by decide, List.mem_filter.mpr ⟨List.mem_of_getElem? (i := 250) (by decide +kernel), by decide +kernel⟩⟩
set_option maxRecDepth 100000 in
theorem fp_X3_27 : FP RX3 27 3 5 .int := ⟨_, _, _, ck_3, by decide, List.mem_filter.mpr ⟨List.mem_of_getElem? (i := 250) (by decide +kernel), by decide +kernel⟩, by decide +kernel, by decide +kernel⟩
set_option maxRecDepth 100000 in
theorem fl_X9_258 : FL RX9 258 3 5 := ⟨_, _, _, ck_3, by decide, List.mem_filter.mpr ⟨List.mem_of_getElem? (i := 251) (by decide +kernel), by decide +kernel⟩⟩
set_option maxRecDepth 100000 in
theorem fp_X9_258 : FP RX9 258 3 5 .int := ⟨_, _, _, ck_3, by decide, List.mem_filter.mpr ⟨List.mem_of_getElem? (i := 251) (by decide +kernel), by decide +kernel⟩, by decide +kernel, by decide +kernel⟩
set_option maxRecDepth 100000 in
theorem fl_X3_31 : FL RX3 31 3 6 := ⟨_, _, _, ck_3, by decide, List.mem_filter.mpr ⟨List.mem_of_getElem? (i := 252) (by decide +kernel), by decide +kernel⟩⟩
set_option maxRecDepth 100000 in
theorem fp_X3_31 : FP RX3 31 3 6 .int := ⟨_, _, _, ck_3, by decide, List.mem_filter.mpr ⟨List.mem_of_getElem? (i := 252) (by decide +kernel), by decide +kernel⟩, by decide +kernel, by decide +kernel⟩
set_option maxRecDepth 100000 in
theorem fl_X9_284 : FL RX9 284 3 6 := ⟨_, _, _, ck_3, by decide, List.mem_filter.mpr ⟨List.mem_of_getElem? (i := 253) (by decide +kernel), by decide +kernel⟩⟩
set_option maxRecDepth 100000 in
theorem fp_X9_284 : FP RX9 284 3 6 .int := ⟨_, _, _, ck_3, by decide, List.mem_filter.mpr ⟨List.mem_of_getElem? (i := 253) (by decide +kernel), by decide +kernel⟩, by decide +kernel, by decide +kernel⟩
set_option maxRecDepth 100000 in
theorem fl_X3_34 : FL RX3 34 3 7 := ⟨_, _, _, ck_3, by decide, List.mem_filter.mpr ⟨List.mem_of_getElem? (i := 254) (by decide +kernel), by decide +kernel⟩⟩
set_option maxRecDepth 100000 in
theorem fp_X3_34 : FP RX3 34 3 7 .int := ⟨_, _, _, ck_3, by decide, List.mem_filter.mpr ⟨List.mem_of_getElem? (i := 254) (by decide +kernel), by decide +kernel⟩, by decide +kernel, by decide +kernel⟩
set_option maxRecDepth 100000 in
theorem fl_X9_260 : FL RX9 260 3 7 := ⟨_, _, _, ck_3, by decide, List.mem_filter.mpr ⟨List.mem_of_getElem? (i := 255) (by decide +kernel), by decide +kernel⟩⟩
set_option maxRecDepth 100000 in
theorem fp_X9_260 : FP RX9 260 3 7 .int := ⟨_, _, _, ck_3, by decide, List.mem_filter.mpr ⟨List.mem_of_getElem? (i := 255) (by decide +kernel), by decide +kernel⟩, by decide +kernel, by decide +kernel⟩
set_option maxRecDepth 100000 in
theorem fl_X3_37 : FL RX3 37 3 8 := ⟨_, _, _, ck_3, by decide, List.mem_filter.mpr ⟨List.mem_of_getElem? (i := 256) (by decide +kernel), by decide +kernel⟩⟩
set_option maxRecDepth 100000 in
theorem fp_X3_37 : FP RX3 37 3 8 .int := ⟨_, _, _, ck_3, by decide, List.mem_filter.mpr ⟨List.mem_of_getElem? (i := 256) (by decide +kernel), by decide +kernel⟩, by decide +kernel, by decide +kernel⟩
set_option maxRecDepth 100000 in
theorem fl_X9_263 : FL RX9 263 3 8 := ⟨_, _, _, ck_3, by decide, List.mem_filter.mpr ⟨List.mem_of_getElem? (i := 257) (by decide +kernel), by decide +kernel⟩⟩
set_option maxRecDepth 100000 in
theorem fp_X9_263 : FP RX9 263 3 8 .int := ⟨_, _, _, ck_3, by decide, List.mem_filter.mpr ⟨List.mem_of_getElem? (i := 257) (by decide +kernel), by decide +kernel⟩, by decide +kernel, by decide +kernel⟩
set_option maxRecDepth 100000 in
theorem fl_X3_40 : FL RX3 40 3 9 := ⟨_, _, _, ck_3, by decide, List.mem_filter.mpr ⟨List.mem_of_getElem? (i := 258) (by decide +kernel), by decide +kernel⟩⟩
set_option maxRecDepth 100000 in
theorem fp_X3_40 : FP RX3 40 3 9 .int := ⟨_, _, _, ck_3, by decide, List.mem_filter.mpr ⟨List.mem_of_getElem? (i := 258) (by decide +kernel), by decide +kernel⟩, by decide +kernel, by decide +kernel⟩
set_option maxRecDepth 100000 in
theorem fl_X9_266 : FL RX9 266 3 9 := ⟨_, _, _, ck_3, by decide, List.mem_filter.mpr ⟨List.mem_of_getElem? (i := 259) (by decide +kernel), by decide +kernel⟩⟩
set_option maxRecDepth 100000 in
theorem fp_X9_266 : FP RX9 266 3 9 .int := ⟨_, _, _, ck_3, by decide, List.mem_filter.mpr ⟨List.mem_of_getElem? (i := 259) (by decide +kernel), by decide +kernel⟩, by decide +kernel, by decide +kernel⟩
set_option maxRecDepth 100000 in
theorem fl_X6_9 : FL RX6 9 6 0 := ⟨_, _, _, ck_6, by decide, List.mem_filter.mpr ⟨List.mem_of_getElem? (i := 301) (by decide +kernel), by decide +kernel⟩⟩
set_option maxRecDepth 100000 in
theorem fl_X6_18 : FL RX6 18 6 1 := ⟨_, _, _, ck_6, by decide, List.mem_filter.mpr ⟨List.mem_of_getElem? (i := 302) (by decide +kernel), by decide +kernel⟩⟩
set_option maxRecDepth 100000 in
theorem fp_X6_18 : FP RX6 18 6 1 .int := ⟨_, _, _, ck_6, by decide, List.mem_filter.mpr ⟨List.mem_of_getElem? (i := 302) (by decide +kernel), by decide +kernel⟩, by decide +kernel, by decide +kernel⟩
set_option maxRecDepth 100000 in
theorem fl_X6_22 : FL RX6 22 6 2 := ⟨_, _, _, ck_6, by decide, List.mem_filter.mpr ⟨List.mem_of_getElem? (i := 303) (by decide +kernel), by decide +kernel⟩⟩
set_option maxRecDepth 100000 in
theorem fp_X6_22 : FP RX6 22 6 2 .boolean := ⟨_, _, _, ck_6, by decide, List.mem_filter.mpr ⟨List.mem_of_getElem? (i := 303) (by decide +kernel), by decide +kernel⟩, by decide +kernel, by decide +kernel⟩
set_option maxRecDepth 100000 in
theorem fl_X6_26 : FL RX6 26 6 3 := ⟨_, _, _, ck_6, by decide, List.mem_filter.mpr ⟨List.mem_of_getElem? (i := 304) (by decide +kernel), by decide +kernel⟩⟩
set_option maxRecDepth 100000 in
theorem fp_X6_26 : FP RX6 26 6 3 .int := ⟨_, _, _, ck_6, by decide, List.mem_filter.mpr ⟨List.mem_of_getElem? (i := 304) (by decide +kernel), by decide +kernel⟩, by decide +kernel, by decide +kernel⟩
set_option maxRecDepth 100000 in
theorem fl_X6_29 : FL RX6 29 6 4 := ⟨_, _, _, ck_6, by decide, List.mem_filter.mpr ⟨List.mem_of_getElem? (i := 305) (by decide +kernel), by decide +kernel⟩⟩
set_option maxRecDepth 100000 in
theorem fp_X6_29 : FP RX6 29 6 4 .int := ⟨_, _, _, ck_6, by decide, List.mem_filter.mpr ⟨List.mem_of_getElem? (i := 305) (by decide +kernel), by decide +kernel⟩, by decide +kernel, by decide +kernel⟩
set_option maxRecDepth 100000 in
theorem fl_X6_50 : FL RX6 50 6 5 := ⟨_, _, _, ck_6, by decide, List.mem_filter.mpr ⟨List.mem_of_getElem? (i := 306) (by decide +kernel), by decide +kernel⟩⟩
set_option maxRecDepth 100000 in
theorem fp_X6_50 : FP RX6 50 6 5 .int := ⟨_, _, _, ck_6, by decide, List.mem_filter.mpr ⟨List.mem_of_getElem? (i := 306) (by decide +kernel), by decide +kernel⟩, by decide +kernel, by decide +kernel⟩
set_option maxRecDepth 100000 in
theorem fl_X6_53 : FL RX6 53 6 6 := ⟨_, _, _, ck_6, by decide, List.mem_filter.mpr ⟨List.mem_of_getElem? (i := 307) (by decide +kernel), by decide +kernel⟩⟩
set_option maxRecDepth 100000 in
theorem fp_X6_53 : FP RX6 53 6 6 .int := ⟨_, _, _, ck_6, by decide, List.mem_filter.mpr ⟨List.mem_of_getElem? (i := 307) (by decide +kernel), by decide +kernel⟩, by decide +kernel, by decide +kernel⟩
set_option maxRecDepth 100000 in
theorem fl_X6_56 : FL RX6 56 6 7 := ⟨_, _, _, ck_6, by decide, List.mem_filter.mpr ⟨List.mem_of_getElem? (i := 308) (by decide +kernel), by decide +kernel⟩⟩
set_option maxRecDepth 100000 in
theorem fp_X6_56 : FP RX6 56 6 7 .boolean := ⟨_, _, _, ck_6, by decide, List.mem_filter.mpr ⟨List.mem_of_getElem? (i := 308) (by decide +kernel), by decide +kernel⟩, by decide +kernel, by decide +kernel⟩
set_option maxRecDepth 100000 in
theorem fl_X6_32 : FL RX6 32 6 8 := ⟨_, _, _, ck_6, by decide, List.mem_filter.mpr ⟨List.mem_of_getElem? (i := 309) (by decide +kernel), by decide +kernel⟩⟩
set_option maxRecDepth 100000 in
theorem fp_X6_32 : FP RX6 32 6 8 .int := ⟨_, _, _, ck_6, by decide, List.mem_filter.mpr ⟨List.mem_of_getElem? (i := 309) (by decide +kernel), by decide +kernel⟩, by decide +kernel, by decide +kernel⟩
set_option maxRecDepth 100000 in
theorem fl_X6_35 : FL RX6 35 6 9 := ⟨_, _, _, ck_6, by decide, List.mem_filter.mpr ⟨List.mem_of_getElem? (i := 310) (by decide +kernel), by decide +kernel⟩⟩
set_option maxRecDepth 100000 in
theorem fp_X6_35 : FP RX6 35 6 9 .int := ⟨_, _, _, ck_6, by decide, List.mem_filter.mpr ⟨List.mem_of_getElem? (i := 310) (by decide +kernel), by decide +kernel⟩, by decide +kernel, by decide +kernel⟩
set_option maxRecDepth 100000 in
theorem fl_X6_38 : FL RX6 38 6 10 := ⟨_, _, _, ck_6, by decide, List.mem_filter.mpr ⟨List.mem_of_getElem? (i := 311) (by decide +kernel), by decide +kernel⟩⟩
set_option maxRecDepth 100000 in
theorem fp_X6_38 : FP RX6 38 6 10 .int := ⟨_, _, _, ck_6, by decide, List.mem_filter.mpr ⟨List.mem_of_getElem? (i := 311) (by decide +kernel), by decide +kernel⟩, by decide +kernel, by decide +kernel⟩
set_option maxRecDepth 100000 in
theorem fl_X6_41 : FL RX6 41 6 11 := ⟨_, _, _, ck_6, by decide, List.mem_filter.mpr ⟨List.mem_of_getElem? (i := 312) (by decide +kernel), by decide +kernel⟩⟩
set_option maxRecDepth 100000 in
theorem fp_X6_41 : FP RX6 41 6 11 .int := ⟨_, _, _, ck_6, by decide, List.mem_filter.mpr ⟨List.mem_of_getElem? (i := 312) (by decide +kernel), by decide +kernel⟩, by decide +kernel, by decide +kernel⟩
set_option maxRecDepth 100000 in
theorem fl_X6_44 : FL RX6 44 6 12 := ⟨_, _, _, ck_6, by decide, List.mem_filter.mpr ⟨List.mem_of_getElem? (i := 313) (by decide +kernel), by decide +kernel⟩⟩
set_option maxRecDepth 100000 in
theorem fp_X6_44 : FP RX6 44 6 12 .int := ⟨_, _, _, ck_6, by decide, List.mem_filter.mpr ⟨List.mem_of_getElem? (i := 313) (by decide +kernel), by decide +kernel⟩, by decide +kernel, by decide +kernel⟩
set_option maxRecDepth 100000 in
theorem fl_X4_47 : FL RX4 47 6 12 := ⟨_, _, _, ck_6, by decide, List.mem_filter.mpr ⟨List.mem_of_getElem? (i := 314) (by decide +kernel), by decide +kernel⟩⟩
set_option maxRecDepth 100000 in
theorem fp_X4_47 : FP RX4 47 6 12 .int := ⟨_, _, _, ck_6, by decide, List.mem_filter.mpr ⟨List.mem_of_getElem? (i := 314) (by decide +kernel), by decide +kernel⟩, by decide +kernel, by decide +kernel⟩
set_option maxRecDepth 100000 in
theorem fl_X4_9 : FL RX4 9 4 0 := ⟨_, _, _, ck_4, by decide, List.mem_filter.mpr ⟨List.mem_of_getElem? (i := 343) (by decide +kernel), by decide +kernel⟩⟩
set_option maxRecDepth 100000 in
theorem fl_X4_18 : FL RX4 18 4 1 := ⟨_, _, _, ck_4, by decide, List.mem_filter.mpr ⟨List.mem_of_getElem? (i := 344) (by decide +kernel), by decide +kernel⟩⟩
set_option maxRecDepth 100000 in
theorem fl_X4_22 : FL RX4 22 4 2 := ⟨_, _, _, ck_4, by decide, List.mem_filter.mpr ⟨List.mem_of_getElem? (i := 345) (by decide +kernel), by decide +kernel⟩⟩
set_option maxRecDepth 100000 in
theorem fp_X4_22 : FP RX4 22 4 2 .int := ⟨_, _, _, ck_4, by decide, List.mem_filter.mpr ⟨List.mem_of_getElem? (i := 345) (by decide +kernel), by decide +kernel⟩, by decide +kernel, by decide +kernel⟩
set_option maxRecDepth 100000 in
theorem fl_X9_155 : FL RX9 155 4 2 := ⟨_, _, _, ck_4, by decide, List.mem_filter.mpr ⟨List.mem_of_getElem? (i := 346) (by decide +kernel), by decide +kernel⟩⟩
set_option maxRecDepth 100000 in
theorem fp_X9_155 : FP RX9 155 4 2 .int := ⟨_, _, _, ck_4, by decide, List.mem_filter.mpr ⟨List.mem_of_getElem? (i := 346) (by decide +kernel), by decide +kernel⟩, by decide +kernel, by decide +kernel⟩
set_option maxRecDepth 100000 in
theorem fl_X8_9 : FL RX8 9 8 0 := ⟨_, _, _, ck_8, by decide, List.mem_filter.mpr ⟨List.mem_of_getElem? (i := 360) (by decide +kernel), by decide +kernel⟩⟩
set_option maxRecDepth 100000 in
theorem fl_X8_15 : FL RX8 15 8 1 := ⟨_, _, _, ck_8, by decide, List.mem_filter.mpr ⟨List.mem_of_getElem? (i := 361) (by decide +kernel), by decide +kernel⟩⟩
set_option maxRecDepth 100000 in
theorem fp_X8_15 : FP RX8 15 8 1 .int := ⟨_, _, _, ck_8, by decide, List.mem_filter.mpr ⟨List.mem_of_getElem? (i := 361) (by decide +kernel), by decide +kernel⟩, by decide +kernel, by decide +kernel⟩
set_option maxRecDepth 100000 in
theorem fl_X9_173 : FL RX9 173 8 1 := ⟨_, _, _, ck_8, by decide, List.mem_filter.mpr ⟨List.mem_of_getElem? (i := 362) (by decide +kernel), by decide +kernel⟩⟩
set_option maxRecDepth 100000 in
theorem fp_X9_173 : FP RX9 173 8 1 .int := ⟨_, _, _, ck_8, by decide, List.mem_filter.mpr ⟨List.mem_of_getElem? (i := 362) (by decide +kernel), by decide +kernel⟩, by decide +kernel, by decide +kernel⟩
set_option maxRecDepth 100000 in
theorem fl_X9_12 : FL RX9 12 9 0 := ⟨_, _, _, ck_9, by decide, List.mem_filter.mpr ⟨List.mem_of_getElem? (i := 368) (by decide +kernel), by decide +kernel⟩⟩
set_option maxRecDepth 100000 in
theorem fl_X9_16 : FL RX9 16 9 1 := ⟨_, _, _, ck_9, by decide, List.mem_filter.mpr ⟨List.mem_of_getElem? (i := 369) (by decide +kernel), by decide +kernel⟩⟩
set_option maxRecDepth 100000 in
theorem fl_X9_19 : FL RX9 19 9 2 := ⟨_, _, _, ck_9, by decide, List.mem_filter.mpr ⟨List.mem_of_getElem? (i := 370) (by decide +kernel), by decide +kernel⟩⟩
set_option maxRecDepth 100000 in
theorem fl_X9_22 : FL RX9 22 9 3 := ⟨_, _, _, ck_9, by decide, List.mem_filter.mpr ⟨List.mem_of_getElem? (i := 371) (by decide +kernel), by decide +kernel⟩⟩
set_option maxRecDepth 100000 in
theorem fl_X9_25 : FL RX9 25 9 4 := ⟨_, _, _, ck_9, by decide, List.mem_filter.mpr ⟨List.mem_of_getElem? (i := 372) (by decide +kernel), by decide +kernel⟩⟩
set_option maxRecDepth 100000 in
theorem fl_X9_32 : FL RX9 32 9 5 := ⟨_, _, _, ck_9, by decide, List.mem_filter.mpr ⟨List.mem_of_getElem? (i := 373) (by decide +kernel), by decide +kernel⟩⟩
set_option maxRecDepth 100000 in
theorem fl_X9_39 : FL RX9 39 9 6 := ⟨_, _, _, ck_9, by decide, List.mem_filter.mpr ⟨List.mem_of_getElem? (i := 374) (by decide +kernel), by decide +kernel⟩⟩
set_option maxRecDepth 100000 in
theorem fl_X9_46 : FL RX9 46 9 7 := ⟨_, _, _, ck_9, by decide, List.mem_filter.mpr ⟨List.mem_of_getElem? (i := 375) (by decide +kernel), by decide +kernel⟩⟩
set_option maxRecDepth 100000 in
theorem fl_X9_53 : FL RX9 53 9 8 := ⟨_, _, _, ck_9, by decide, List.mem_filter.mpr ⟨List.mem_of_getElem? (i := 376) (by decide +kernel), by decide +kernel⟩⟩
set_option maxRecDepth 100000 in
theorem fl_X9_60 : FL RX9 60 9 9 := ⟨_, _, _, ck_9, by decide, List.mem_filter.mpr ⟨List.mem_of_getElem? (i := 377) (by decide +kernel), by decide +kernel⟩⟩
set_option maxRecDepth 100000 in
theorem fl_X9_67 : FL RX9 67 9 10 := ⟨_, _, _, ck_9, by decide, List.mem_filter.mpr ⟨List.mem_of_getElem? (i := 378) (by decide +kernel), by decide +kernel⟩⟩
set_option maxRecDepth 100000 in
theorem fl_X9_71 : FL RX9 71 9 11 := ⟨_, _, _, ck_9, by decide, List.mem_filter.mpr ⟨List.mem_of_getElem? (i := 379) (by decide +kernel), by decide +kernel⟩⟩
set_option maxRecDepth 100000 in
theorem fp_X9_71 : FP RX9 71 9 11 .int := ⟨_, _, _, ck_9, by decide, List.mem_filter.mpr ⟨List.mem_of_getElem? (i := 379) (by decide +kernel), by decide +kernel⟩, by decide +kernel, by decide +kernel⟩
set_option maxRecDepth 100000 in
theorem fl_X9_75 : FL RX9 75 9 12 := ⟨_, _, _, ck_9, by decide, List.mem_filter.mpr ⟨List.mem_of_getElem? (i := 380) (by decide +kernel), by decide +kernel⟩⟩
set_option maxRecDepth 100000 in
theorem fp_X9_75 : FP RX9 75 9 12 .boolean := ⟨_, _, _, ck_9, by decide, List.mem_filter.mpr ⟨List.mem_of_getElem? (i := 380) (by decide +kernel), by decide +kernel⟩, by decide +kernel, by decide +kernel⟩
set_option maxRecDepth 100000 in
theorem ct_X9_83 : Cond.constant RX9 83 (-1000002) ∈ wA := List.mem_filter.mpr ⟨List.mem_of_getElem? (i := 418) (by decide +kernel), by decide +kernel⟩
set_option maxRecDepth 100000 in
theorem ct_X9_156 : Cond.constant RX9 156 (-1000004) ∈ wA := List.mem_filter.mpr ⟨List.mem_of_getElem? (i := 423) (by decide +kernel), by decide +kernel⟩
set_option maxRecDepth 100000 in
theorem ct_X9_107 : Cond.constant RX9 107 (-1000005) ∈ wA := List.mem_filter.mpr ⟨List.mem_of_getElem? (i := 444) (by decide +kernel), by decide +kernel⟩
set_option maxRecDepth 100000 in
theorem ct_X9_111 : Cond.constant RX9 111 (-1000001) ∈ wA := List.mem_filter.mpr ⟨List.mem_of_getElem? (i := 495) (by decide +kernel), by decide +kernel⟩
set_option maxRecDepth 100000 in
theorem ct_X1_99 : Cond.constantLong RX1 99 (256) ∈ wA := List.mem_filter.mpr ⟨List.mem_of_getElem? (i := 564) (by decide +kernel), by decide +kernel⟩
set_option maxRecDepth 100000 in
theorem ct_X5_49 : Cond.constant RX5 49 (-1000006) ∈ wA := List.mem_filter.mpr ⟨List.mem_of_getElem? (i := 577) (by decide +kernel), by decide +kernel⟩
set_option maxRecDepth 100000 in
theorem ct_J2_227 : Cond.constant RJ2 227 (65536) ∈ wA := List.mem_filter.mpr ⟨List.mem_of_getElem? (i := 725) (by decide +kernel), by decide +kernel⟩
set_option maxRecDepth 100000 in
theorem ct_J11_110 : Cond.constant RJ11 110 (55232) ∈ wA := List.mem_filter.mpr ⟨List.mem_of_getElem? (i := 764) (by decide +kernel), by decide +kernel⟩
set_option maxRecDepth 100000 in
theorem ct_J11_76 : Cond.constant RJ11 76 (56320) ∈ wA := List.mem_filter.mpr ⟨List.mem_of_getElem? (i := 768) (by decide +kernel), by decide +kernel⟩
set_option maxRecDepth 100000 in
theorem ct_X4_46 : Cond.constant RX4 46 (-1000006) ∈ wA := List.mem_filter.mpr ⟨List.mem_of_getElem? (i := 790) (by decide +kernel), by decide +kernel⟩
set_option maxRecDepth 100000 in
theorem ct_X9_164 : Cond.constant RX9 164 (-1000006) ∈ wA := List.mem_filter.mpr ⟨List.mem_of_getElem? (i := 796) (by decide +kernel), by decide +kernel⟩
set_option maxRecDepth 100000 in
theorem ct_X9_165 : Cond.constant RX9 165 (-1000003) ∈ wA := List.mem_filter.mpr ⟨List.mem_of_getElem? (i := 797) (by decide +kernel), by decide +kernel⟩
set_option maxRecDepth 100000 in
theorem ct_X8_19 : Cond.constant RX8 19 (-1000006) ∈ wA := List.mem_filter.mpr ⟨List.mem_of_getElem? (i := 851) (by decide +kernel), by decide +kernel⟩
set_option maxRecDepth 100000 in
theorem ct_X1_120 : Cond.constant RX1 120 (-1000001) ∈ wA := List.mem_filter.mpr ⟨List.mem_of_getElem? (i := 898) (by decide +kernel), by decide +kernel⟩
set_option maxRecDepth 100000 in
theorem ct_X1_121 : Cond.constant RX1 121 (-1000002) ∈ wA := List.mem_filter.mpr ⟨List.mem_of_getElem? (i := 899) (by decide +kernel), by decide +kernel⟩
set_option maxRecDepth 100000 in
theorem ct_X1_138 : Cond.constant RX1 138 (2147483647) ∈ wA := List.mem_filter.mpr ⟨List.mem_of_getElem? (i := 937) (by decide +kernel), by decide +kernel⟩
set_option maxRecDepth 100000 in
theorem ct_X9_210 : Cond.constantLong RX9 210 (-1000000000000000000) ∈ wA := List.mem_filter.mpr ⟨List.mem_of_getElem? (i := 972) (by decide +kernel), by decide +kernel⟩
set_option maxRecDepth 100000 in
theorem ct_X7_47 : Cond.constant RX7 47 (-1000006) ∈ wA := List.mem_filter.mpr ⟨List.mem_of_getElem? (i := 1025) (by decide +kernel), by decide +kernel⟩
set_option maxRecDepth 100000 in
theorem ct_X9_229 : Cond.constant RX9 229 (100000) ∈ wA := List.mem_filter.mpr ⟨List.mem_of_getElem? (i := 1030) (by decide +kernel), by decide +kernel⟩
set_option maxRecDepth 100000 in
theorem ct_X0_51 : Cond.constant RX0 51 (-1000006) ∈ wA := List.mem_filter.mpr ⟨List.mem_of_getElem? (i := 1065) (by decide +kernel), by decide +kernel⟩
set_option maxRecDepth 100000 in
theorem ct_X3_47 : Cond.constant RX3 47 (-1000001) ∈ wA := List.mem_filter.mpr ⟨List.mem_of_getElem? (i := 1082) (by decide +kernel), by decide +kernel⟩
set_option maxRecDepth 100000 in
theorem ct_X3_106 : Cond.constant RX3 106 (-1000006) ∈ wA := List.mem_filter.mpr ⟨List.mem_of_getElem? (i := 1167) (by decide +kernel), by decide +kernel⟩
set_option maxRecDepth 100000 in
theorem fl_X10_9 : FL RX10 9 10 0 := ⟨_, _, _, ck_10, by decide, List.mem_filter.mpr ⟨List.mem_of_getElem? (i := 1208) (by decide +kernel), by decide +kernel⟩⟩
set_option maxRecDepth 100000 in
theorem fl_X10_13 : FL RX10 13 10 1 := ⟨_, _, _, ck_10, by decide, List.mem_filter.mpr ⟨List.mem_of_getElem? (i := 1209) (by decide +kernel), by decide +kernel⟩⟩
set_option maxRecDepth 100000 in
theorem fl_X10_16 : FL RX10 16 10 2 := ⟨_, _, _, ck_10, by decide, List.mem_filter.mpr ⟨List.mem_of_getElem? (i := 1210) (by decide +kernel), by decide +kernel⟩⟩
set_option maxRecDepth 100000 in
theorem fl_X10_20 : FL RX10 20 10 3 := ⟨_, _, _, ck_10, by decide, List.mem_filter.mpr ⟨List.mem_of_getElem? (i := 1211) (by decide +kernel), by decide +kernel⟩⟩
set_option maxRecDepth 100000 in
theorem fl_X10_133 : FL RX10 133 10 4 := ⟨_, _, _, ck_10, by decide, List.mem_filter.mpr ⟨List.mem_of_getElem? (i := 1212) (by decide +kernel), by decide +kernel⟩⟩
set_option maxRecDepth 100000 in
theorem fp_X10_133 : FP RX10 133 10 4 .int := ⟨_, _, _, ck_10, by decide, List.mem_filter.mpr ⟨List.mem_of_getElem? (i := 1212) (by decide +kernel), by decide +kernel⟩, by decide +kernel, by decide +kernel⟩
set_option maxRecDepth 100000 in
theorem fl_X10_23 : FL RX10 23 10 5 := ⟨_, _, _, ck_10, by decide, List.mem_filter.mpr ⟨List.mem_of_getElem? (i := 1213) (by decide +kernel), by decide +kernel⟩⟩
set_option maxRecDepth 100000 in
theorem fl_X10_278 : FL RX10 278 10 6 := ⟨_, _, _, ck_10, by decide, List.mem_filter.mpr ⟨List.mem_of_getElem? (i := 1214) (by decide +kernel), by decide +kernel⟩⟩
set_option maxRecDepth 100000 in
theorem fp_X10_278 : FP RX10 278 10 6 .int := ⟨_, _, _, ck_10, by decide, List.mem_filter.mpr ⟨List.mem_of_getElem? (i := 1214) (by decide +kernel), by decide +kernel⟩, by decide +kernel, by decide +kernel⟩
set_option maxRecDepth 100000 in
theorem fl_X10_281 : FL RX10 281 10 7 := ⟨_, _, _, ck_10, by decide, List.mem_filter.mpr ⟨List.mem_of_getElem? (i := 1215) (by decide +kernel), by decide +kernel⟩⟩
set_option maxRecDepth 100000 in
theorem fp_X10_281 : FP RX10 281 10 7 .int := ⟨_, _, _, ck_10, by decide, List.mem_filter.mpr ⟨List.mem_of_getElem? (i := 1215) (by decide +kernel), by decide +kernel⟩, by decide +kernel, by decide +kernel⟩
set_option maxRecDepth 100000 in
theorem fl_X10_26 : FL RX10 26 10 8 := ⟨_, _, _, ck_10, by decide, List.mem_filter.mpr ⟨List.mem_of_getElem? (i := 1216) (by decide +kernel), by decide +kernel⟩⟩
set_option maxRecDepth 100000 in
theorem fl_X10_29 : FL RX10 29 10 9 := ⟨_, _, _, ck_10, by decide, List.mem_filter.mpr ⟨List.mem_of_getElem? (i := 1217) (by decide +kernel), by decide +kernel⟩⟩
set_option maxRecDepth 100000 in
theorem fl_X10_290 : FL RX10 290 10 10 := ⟨_, _, _, ck_10, by decide, List.mem_filter.mpr ⟨List.mem_of_getElem? (i := 1218) (by decide +kernel), by decide +kernel⟩⟩
set_option maxRecDepth 100000 in
theorem fp_X10_290 : FP RX10 290 10 10 .int := ⟨_, _, _, ck_10, by decide, List.mem_filter.mpr ⟨List.mem_of_getElem? (i := 1218) (by decide +kernel), by decide +kernel⟩, by decide +kernel, by decide +kernel⟩
set_option maxRecDepth 100000 in
theorem fl_X10_32 : FL RX10 32 10 11 := ⟨_, _, _, ck_10, by decide, List.mem_filter.mpr ⟨List.mem_of_getElem? (i := 1219) (by decide +kernel), by decide +kernel⟩⟩
set_option maxRecDepth 100000 in
theorem fl_X10_293 : FL RX10 293 10 12 := ⟨_, _, _, ck_10, by decide, List.mem_filter.mpr ⟨List.mem_of_getElem? (i := 1220) (by decide +kernel), by decide +kernel⟩⟩
set_option maxRecDepth 100000 in
theorem fp_X10_293 : FP RX10 293 10 12 .int := ⟨_, _, _, ck_10, by decide, List.mem_filter.mpr ⟨List.mem_of_getElem? (i := 1220) (by decide +kernel), by decide +kernel⟩, by decide +kernel, by decide +kernel⟩
set_option maxRecDepth 100000 in
theorem fl_X10_296 : FL RX10 296 10 13 := ⟨_, _, _, ck_10, by decide, List.mem_filter.mpr ⟨List.mem_of_getElem? (i := 1221) (by decide +kernel), by decide +kernel⟩⟩
set_option maxRecDepth 100000 in
theorem fp_X10_296 : FP RX10 296 10 13 .int := ⟨_, _, _, ck_10, by decide, List.mem_filter.mpr ⟨List.mem_of_getElem? (i := 1221) (by decide +kernel), by decide +kernel⟩, by decide +kernel, by decide +kernel⟩
set_option maxRecDepth 100000 in
theorem fl_X10_299 : FL RX10 299 10 14 := ⟨_, _, _, ck_10, by decide, List.mem_filter.mpr ⟨List.mem_of_getElem? (i := 1222) (by decide +kernel), by decide +kernel⟩⟩
set_option maxRecDepth 100000 in
theorem fp_X10_299 : FP RX10 299 10 14 .int := ⟨_, _, _, ck_10, by decide, List.mem_filter.mpr ⟨List.mem_of_getElem? (i := 1222) (by decide +kernel), by decide +kernel⟩, by decide +kernel, by decide +kernel⟩
set_option maxRecDepth 100000 in
theorem fl_X10_302 : FL RX10 302 10 15 := ⟨_, _, _, ck_10, by decide, List.mem_filter.mpr ⟨List.mem_of_getElem? (i := 1223) (by decide +kernel), by decide +kernel⟩⟩
set_option maxRecDepth 100000 in
theorem fp_X10_302 : FP RX10 302 10 15 .int := ⟨_, _, _, ck_10, by decide, List.mem_filter.mpr ⟨List.mem_of_getElem? (i := 1223) (by decide +kernel), by decide +kernel⟩, by decide +kernel, by decide +kernel⟩
set_option maxRecDepth 100000 in
theorem fl_X10_35 : FL RX10 35 10 16 := ⟨_, _, _, ck_10, by decide, List.mem_filter.mpr ⟨List.mem_of_getElem? (i := 1224) (by decide +kernel), by decide +kernel⟩⟩
set_option maxRecDepth 100000 in
theorem fl_X10_38 : FL RX10 38 10 17 := ⟨_, _, _, ck_10, by decide, List.mem_filter.mpr ⟨List.mem_of_getElem? (i := 1225) (by decide +kernel), by decide +kernel⟩⟩
set_option maxRecDepth 100000 in
theorem fl_X10_137 : FL RX10 137 10 18 := ⟨_, _, _, ck_10, by decide, List.mem_filter.mpr ⟨List.mem_of_getElem? (i := 1226) (by decide +kernel), by decide +kernel⟩⟩
set_option maxRecDepth 100000 in
theorem fp_X10_137 : FP RX10 137 10 18 .int := ⟨_, _, _, ck_10, by decide, List.mem_filter.mpr ⟨List.mem_of_getElem? (i := 1226) (by decide +kernel), by decide +kernel⟩, by decide +kernel, by decide +kernel⟩
set_option maxRecDepth 100000 in
theorem fl_X10_143 : FL RX10 143 10 19 := ⟨_, _, _, ck_10, by decide, List.mem_filter.mpr ⟨List.mem_of_getElem? (i := 1227) (by decide +kernel), by decide +kernel⟩⟩
set_option maxRecDepth 100000 in
theorem fp_X10_143 : FP RX10 143 10 19 .boolean := ⟨_, _, _, ck_10, by decide, List.mem_filter.mpr ⟨List.mem_of_getElem? (i := 1227) (by decide +kernel), by decide +kernel⟩, by decide +kernel, by decide +kernel⟩
set_option maxRecDepth 100000 in
theorem fl_X10_41 : FL RX10 41 10 20 := ⟨_, _, _, ck_10, by decide, List.mem_filter.mpr ⟨List.mem_of_getElem? (i := 1228) (by decide +kernel), by decide +kernel⟩⟩
set_option maxRecDepth 100000 in
theorem fl_X10_162 : FL RX10 162 10 21 := ⟨_, _, _, ck_10, by decide, List.mem_filter.mpr ⟨List.mem_of_getElem? (i := 1229) (by decide +kernel), by decide +kernel⟩⟩
set_option maxRecDepth 100000 in
theorem fp_X10_162 : FP RX10 162 10 21 .int := ⟨_, _, _, ck_10, by decide, List.mem_filter.mpr ⟨List.mem_of_getElem? (i := 1229) (by decide +kernel), by decide +kernel⟩, by decide +kernel, by decide +kernel⟩
set_option maxRecDepth 100000 in
theorem fl_X10_159 : FL RX10 159 10 22 := ⟨_, _, _, ck_10, by decide, List.mem_filter.mpr ⟨List.mem_of_getElem? (i := 1230) (by decide +kernel), by decide +kernel⟩⟩
set_option maxRecDepth 100000 in
theorem fp_X10_159 : FP RX10 159 10 22 .boolean := ⟨_, _, _, ck_10, by decide, List.mem_filter.mpr ⟨List.mem_of_getElem? (i := 1230) (by decide +kernel), by decide +kernel⟩, by decide +kernel, by decide +kernel⟩
set_option maxRecDepth 100000 in
theorem fl_X10_153 : FL RX10 153 10 23 := ⟨_, _, _, ck_10, by decide, List.mem_filter.mpr ⟨List.mem_of_getElem? (i := 1231) (by decide +kernel), by decide +kernel⟩⟩
set_option maxRecDepth 100000 in
theorem fp_X10_153 : FP RX10 153 10 23 .int := ⟨_, _, _, ck_10, by decide, List.mem_filter.mpr ⟨List.mem_of_getElem? (i := 1231) (by decide +kernel), by decide +kernel⟩, by decide +kernel, by decide +kernel⟩
set_option maxRecDepth 100000 in
theorem fl_X10_156 : FL RX10 156 10 24 := ⟨_, _, _, ck_10, by decide, List.mem_filter.mpr ⟨List.mem_of_getElem? (i := 1232) (by decide +kernel), by decide +kernel⟩⟩
set_option maxRecDepth 100000 in
theorem fp_X10_156 : FP RX10 156 10 24 .int := ⟨_, _, _, ck_10, by decide, List.mem_filter.mpr ⟨List.mem_of_getElem? (i := 1232) (by decide +kernel), by decide +kernel⟩, by decide +kernel, by decide +kernel⟩
set_option maxRecDepth 100000 in
theorem fl_X10_172 : FL RX10 172 10 25 := ⟨_, _, _, ck_10, by decide, List.mem_filter.mpr ⟨List.mem_of_getElem? (i := 1233) (by decide +kernel), by decide +kernel⟩⟩
set_option maxRecDepth 100000 in
theorem fp_X10_172 : FP RX10 172 10 25 .int := ⟨_, _, _, ck_10, by decide, List.mem_filter.mpr ⟨List.mem_of_getElem? (i := 1233) (by decide +kernel), by decide +kernel⟩, by decide +kernel, by decide +kernel⟩
set_option maxRecDepth 100000 in
theorem fl_X10_175 : FL RX10 175 10 26 := ⟨_, _, _, ck_10, by decide, List.mem_filter.mpr ⟨List.mem_of_getElem? (i := 1234) (by decide +kernel), by decide +kernel⟩⟩
set_option maxRecDepth 100000 in
theorem fp_X10_175 : FP RX10 175 10 26 .int := ⟨_, _, _, ck_10, by decide, List.mem_filter.mpr ⟨List.mem_of_getElem? (i := 1234) (by decide +kernel), by decide +kernel⟩, by decide +kernel, by decide +kernel⟩
set_option maxRecDepth 100000 in
theorem fl_X10_44 : FL RX10 44 10 27 := ⟨_, _, _, ck_10, by decide, List.mem_filter.mpr ⟨List.mem_of_getElem? (i := 1235) (by decide +kernel), by decide +kernel⟩⟩
set_option maxRecDepth 100000 in
theorem fl_X10_188 : FL RX10 188 10 28 := ⟨_, _, _, ck_10, by decide, List.mem_filter.mpr ⟨List.mem_of_getElem? (i := 1236) (by decide +kernel), by decide +kernel⟩⟩
set_option maxRecDepth 100000 in
theorem fp_X10_188 : FP RX10 188 10 28 .int := ⟨_, _, _, ck_10, by decide, List.mem_filter.mpr ⟨List.mem_of_getElem? (i := 1236) (by decide +kernel), by decide +kernel⟩, by decide +kernel, by decide +kernel⟩
set_option maxRecDepth 100000 in
theorem fl_X10_47 : FL RX10 47 10 29 := ⟨_, _, _, ck_10, by decide, List.mem_filter.mpr ⟨List.mem_of_getElem? (i := 1237) (by decide +kernel), by decide +kernel⟩⟩
set_option maxRecDepth 100000 in
theorem fl_X10_50 : FL RX10 50 10 30 := ⟨_, _, _, ck_10, by decide, List.mem_filter.mpr ⟨List.mem_of_getElem? (i := 1238) (by decide +kernel), by decide +kernel⟩⟩
set_option maxRecDepth 100000 in
theorem fl_X10_53 : FL RX10 53 10 31 := ⟨_, _, _, ck_10, by decide, List.mem_filter.mpr ⟨List.mem_of_getElem? (i := 1239) (by decide +kernel), by decide +kernel⟩⟩
set_option maxRecDepth 100000 in
theorem fl_X10_208 : FL RX10 208 10 32 := ⟨_, _, _, ck_10, by decide, List.mem_filter.mpr ⟨List.mem_of_getElem? (i := 1240) (by decide +kernel), by decide +kernel⟩⟩
set_option maxRecDepth 100000 in
theorem fp_X10_208 : FP RX10 208 10 32 .int := ⟨_, _, _, ck_10, by decide, List.mem_filter.mpr ⟨List.mem_of_getElem? (i := 1240) (by decide +kernel), by decide +kernel⟩, by decide +kernel, by decide +kernel⟩
set_option maxRecDepth 100000 in
theorem fl_X10_56 : FL RX10 56 10 33 := ⟨_, _, _, ck_10, by decide, List.mem_filter.mpr ⟨List.mem_of_getElem? (i := 1241) (by decide +kernel), by decide +kernel⟩⟩
set_option maxRecDepth 100000 in
theorem fl_X10_211 : FL RX10 211 10 34 := ⟨_, _, _, ck_10, by decide, List.mem_filter.mpr ⟨List.mem_of_getElem? (i := 1242) (by decide +kernel), by decide +kernel⟩⟩
set_option maxRecDepth 100000 in
theorem fp_X10_211 : FP RX10 211 10 34 .int := ⟨_, _, _, ck_10, by decide, List.mem_filter.mpr ⟨List.mem_of_getElem? (i := 1242) (by decide +kernel), by decide +kernel⟩, by decide +kernel, by decide +kernel⟩
set_option maxRecDepth 100000 in
theorem fl_X10_59 : FL RX10 59 10 35 := ⟨_, _, _, ck_10, by decide, List.mem_filter.mpr ⟨List.mem_of_getElem? (i := 1243) (by decide +kernel), by decide +kernel⟩⟩
set_option maxRecDepth 100000 in
theorem fl_X10_62 : FL RX10 62 10 36 := ⟨_, _, _, ck_10, by decide, List.mem_filter.mpr ⟨List.mem_of_getElem? (i := 1244) (by decide +kernel), by decide +kernel⟩⟩
set_option maxRecDepth 100000 in
theorem fl_X10_65 : FL RX10 65 10 37 := ⟨_, _, _, ck_10, by decide, List.mem_filter.mpr ⟨List.mem_of_getElem? (i := 1245) (by decide +kernel), by decide +kernel⟩⟩
set_option maxRecDepth 100000 in
theorem fl_X10_220 : FL RX10 220 10 38 := ⟨_, _, _, ck_10, by decide, List.mem_filter.mpr ⟨List.mem_of_getElem? (i := 1246) (by decide +kernel), by decide +kernel⟩⟩
set_option maxRecDepth 100000 in
theorem fp_X10_220 : FP RX10 220 10 38 .int := ⟨_, _, _, ck_10, by decide, List.mem_filter.mpr ⟨List.mem_of_getElem? (i := 1246) (by decide +kernel), by decide +kernel⟩, by decide +kernel, by decide +kernel⟩
set_option maxRecDepth 100000 in
theorem fl_X10_68 : FL RX10 68 10 39 := ⟨_, _, _, ck_10, by decide, List.mem_filter.mpr ⟨List.mem_of_getElem? (i := 1247) (by decide +kernel), by decide +kernel⟩⟩
set_option maxRecDepth 100000 in
theorem fl_X10_71 : FL RX10 71 10 40 := ⟨_, _, _, ck_10, by decide, List.mem_filter.mpr ⟨List.mem_of_getElem? (i := 1248) (by decide +kernel), by decide +kernel⟩⟩
set_option maxRecDepth 100000 in
theorem fl_X10_74 : FL RX10 74 10 41 := ⟨_, _, _, ck_10, by decide, List.mem_filter.mpr ⟨List.mem_of_getElem? (i := 1249) (by decide +kernel), by decide +kernel⟩⟩
set_option maxRecDepth 100000 in
theorem fl_X10_77 : FL RX10 77 10 42 := ⟨_, _, _, ck_10, by decide, List.mem_filter.mpr ⟨List.mem_of_getElem? (i := 1250) (by decide +kernel), by decide +kernel⟩⟩
set_option maxRecDepth 100000 in
theorem ct_X10_88 : Cond.constant RX10 88 (-1000002) ∈ wA := List.mem_filter.mpr ⟨List.mem_of_getElem? (i := 1352) (by decide +kernel), by decide +kernel⟩
set_option maxRecDepth 100000 in
theorem ct_X10_97 : Cond.constant RX10 97 (-1000005) ∈ wA := List.mem_filter.mpr ⟨List.mem_of_getElem? (i := 1361) (by decide +kernel), by decide +kernel⟩
set_option maxRecDepth 100000 in
theorem ct_X10_98 : Cond.constant RX10 98 (-1000004) ∈ wA := List.mem_filter.mpr ⟨List.mem_of_getElem? (i := 1362) (by decide +kernel), by decide +kernel⟩
set_option maxRecDepth 100000 in
theorem ct_X10_107 : Cond.constant RX10 107 (-1000001) ∈ wA := List.mem_filter.mpr ⟨List.mem_of_getElem? (i := 1387) (by decide +kernel), by decide +kernel⟩
set_option maxRecDepth 100000 in
theorem ct_X10_103 : Cond.constant RX10 103 (-1000006) ∈ wA := List.mem_filter.mpr ⟨List.mem_of_getElem? (i := 1392) (by decide +kernel), by decide +kernel⟩
set_option maxRecDepth 100000 in
theorem ct_X10_214 : Cond.constantLong RX10 214 (256) ∈ wA := List.mem_filter.mpr ⟨List.mem_of_getElem? (i := 1413) (by decide +kernel), by decide +kernel⟩
set_option maxRecDepth 100000 in
theorem ct_X10_204 : Cond.constantLong RX10 204 (200000) ∈ wA := List.mem_filter.mpr ⟨List.mem_of_getElem? (i := 1417) (by decide +kernel), by decide +kernel⟩
set_option maxRecDepth 100000 in
theorem ct_X10_206 : Cond.constantLong RX10 206 (2) ∈ wA := List.mem_filter.mpr ⟨List.mem_of_getElem? (i := 1418) (by decide +kernel), by decide +kernel⟩
set_option maxRecDepth 100000 in
theorem ct_X10_187 : Cond.constant RX10 187 (-1000003) ∈ wA := List.mem_filter.mpr ⟨List.mem_of_getElem? (i := 1513) (by decide +kernel), by decide +kernel⟩
set_option maxRecDepth 100000 in
theorem ct_X10_266 : Cond.constantLong RX10 266 (-1) ∈ wA := List.mem_filter.mpr ⟨List.mem_of_getElem? (i := 1574) (by decide +kernel), by decide +kernel⟩
set_option maxRecDepth 100000 in
theorem ct_X10_272 : Cond.constantLong RX10 272 (-1000000000000000000) ∈ wA := List.mem_filter.mpr ⟨List.mem_of_getElem? (i := 1586) (by decide +kernel), by decide +kernel⟩
set_option maxRecDepth 100000 in
theorem ct_X10_277 : Cond.constant RX10 277 (100000) ∈ wA := List.mem_filter.mpr ⟨List.mem_of_getElem? (i := 1603) (by decide +kernel), by decide +kernel⟩
