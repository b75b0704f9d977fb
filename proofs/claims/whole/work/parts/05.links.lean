set_option maxRecDepth 100000 in
theorem ck_0 : CK 0 RX0 TX0 6 := ⟨rfl, List.all_eq_true.mp (show (u_ws RX0 TX0 6).all (fun w => decide (w ∈ lw_tbl) && goodWord w) = true by decide +kernel) |> fun h w hw => List.mem_filter.mpr (by have := h w hw; simp only [Bool.and_eq_true, decide_eq_true_eq] at this; exact this), ⟨tyX0, tyX0_ok⟩, nmX0⟩
set_option maxRecDepth 100000 in
theorem ck_1 : CK 1 RX1 TX1 9 := ⟨rfl, List.all_eq_true.mp (show (u_ws RX1 TX1 9).all (fun w => decide (w ∈ lw_tbl) && goodWord w) = true by decide +kernel) |> fun h w hw => List.mem_filter.mpr (by have := h w hw; simp only [Bool.and_eq_true, decide_eq_true_eq] at this; exact this), ⟨tyX1, tyX1_ok⟩, nmX1⟩
set_option maxRecDepth 100000 in
theorem ck_2 : CK 2 RX2 TX2 4 := ⟨rfl, List.all_eq_true.mp (show (u_ws RX2 TX2 4).all (fun w => decide (w ∈ lw_tbl) && goodWord w) = true by decide +kernel) |> fun h w hw => List.mem_filter.mpr (by have := h w hw; simp only [Bool.and_eq_true, decide_eq_true_eq] at this; exact this), ⟨tyX2, tyX2_ok⟩, nmX2⟩
set_option maxRecDepth 100000 in
theorem ck_3 : CK 3 RX3 TX3 10 := ⟨rfl, List.all_eq_true.mp (show (u_ws RX3 TX3 10).all (fun w => decide (w ∈ lw_tbl) && goodWord w) = true by decide +kernel) |> fun h w hw => List.mem_filter.mpr (by have := h w hw; simp only [Bool.and_eq_true, decide_eq_true_eq] at this; exact this), ⟨tyX3, tyX3_ok⟩, nmX3⟩
set_option maxRecDepth 100000 in
theorem ck_4 : CK 4 RX4 TX4 3 := ⟨rfl, List.all_eq_true.mp (show (u_ws RX4 TX4 3).all (fun w => decide (w ∈ lw_tbl) && goodWord w) = true by decide +kernel) |> fun h w hw => List.mem_filter.mpr (by have := h w hw; simp only [Bool.and_eq_true, decide_eq_true_eq] at this; exact this), ⟨tyX4, tyX4_ok⟩, nmX4⟩
set_option maxRecDepth 100000 in
theorem ck_5 : CK 5 RX5 TX5 4 := ⟨rfl, List.all_eq_true.mp (show (u_ws RX5 TX5 4).all (fun w => decide (w ∈ lw_tbl) && goodWord w) = true by decide +kernel) |> fun h w hw => List.mem_filter.mpr (by have := h w hw; simp only [Bool.and_eq_true, decide_eq_true_eq] at this; exact this), ⟨tyX5, tyX5_ok⟩, nmX5⟩
set_option maxRecDepth 100000 in
theorem ck_6 : CK 6 RX6 TX6 13 := ⟨rfl, List.all_eq_true.mp (show (u_ws RX6 TX6 13).all (fun w => decide (w ∈ lw_tbl) && goodWord w) = true by decide +kernel) |> fun h w hw => List.mem_filter.mpr (by have := h w hw; simp only [Bool.and_eq_true, decide_eq_true_eq] at this; exact this), ⟨tyX6, tyX6_ok⟩, nmX6⟩
set_option maxRecDepth 100000 in
theorem ck_7 : CK 7 RX7 TX7 3 := ⟨rfl, List.all_eq_true.mp (show (u_ws RX7 TX7 3).all (fun w => decide (w ∈ lw_tbl) && goodWord w) = true by decide +kernel) |> fun h w hw => List.mem_filter.mpr (by have := h w hw; simp only [Bool.and_eq_true, decide_eq_true_eq] at this; exact this), ⟨tyX7, tyX7_ok⟩, nmX7⟩
set_option maxRecDepth 100000 in
theorem ck_8 : CK 8 RX8 TX8 2 := ⟨rfl, List.all_eq_true.mp (show (u_ws RX8 TX8 2).all (fun w => decide (w ∈ lw_tbl) && goodWord w) = true by decide +kernel) |> fun h w hw => List.mem_filter.mpr (by have := h w hw; simp only [Bool.and_eq_true, decide_eq_true_eq] at this; exact this), ⟨tyX8, tyX8_ok⟩, nmX8⟩
set_option maxRecDepth 100000 in
theorem ck_9 : CK 9 RX9 TX9 13 := ⟨rfl, List.all_eq_true.mp (show (u_ws RX9 TX9 13).all (fun w => decide (w ∈ lw_tbl) && goodWord w) = true by decide +kernel) |> fun h w hw => List.mem_filter.mpr (by have := h w hw; simp only [Bool.and_eq_true, decide_eq_true_eq] at this; exact this), ⟨tyX9, tyX9_ok⟩, nmX9⟩
set_option maxRecDepth 100000 in
theorem ck_10 : CK 10 RX10 TX10 43 := ⟨rfl, List.all_eq_true.mp (show (u_ws RX10 TX10 43).all (fun w => decide (w ∈ lw_tbl) && goodWord w) = true by decide +kernel) |> fun h w hw => List.mem_filter.mpr (by have := h w hw; simp only [Bool.and_eq_true, decide_eq_true_eq] at this; exact this), ⟨tyX10, tyX10_ok⟩, nmX10⟩
abbrev jX0_init : MD := (RX0, yX0_init, cX0_init, 1, none, { frames := 0, cells := 0, slots := 0, locals := 0 }, fun _ _ => True)
theorem plX0_init : pln jX0_init := ⟨by decide +kernel, rfl, rfl, rfl, fun _ _ => trivial⟩
set_option maxRecDepth 100000 in
theorem kbX0_init : KB jX0_init 0 := ⟨List.mem_filter.mpr ⟨List.mem_of_getElem? (i := 212) (by decide +kernel), by decide +kernel⟩, List.mem_filter.mpr ⟨List.mem_of_getElem? (i := 91) (by decide +kernel), by decide +kernel⟩, by decide +kernel⟩
abbrev jX0_append : MD := (RX0, yX0_append, cX0_append, 2, none, { frames := 0, cells := 0, slots := 0, locals := 0 }, fun _ _ => True)
theorem plX0_append : pln jX0_append := ⟨by decide +kernel, rfl, rfl, rfl, fun _ _ => trivial⟩
set_option maxRecDepth 100000 in
theorem kbX0_append : KB jX0_append 1 := ⟨List.mem_filter.mpr ⟨List.mem_of_getElem? (i := 1022) (by decide +kernel), by decide +kernel⟩, List.mem_filter.mpr ⟨List.mem_of_getElem? (i := 91) (by decide +kernel), by decide +kernel⟩, by decide +kernel⟩
abbrev jX0_layAlong : MD := (RX0, yX0_layAlong, cX0_layAlong, 5, some .int, { frames := 2, cells := 0, slots := 0, locals := 65 }, fun _ _ => True)
theorem plX0_layAlong : pln jX0_layAlong := ⟨by decide +kernel, rfl, rfl, rfl, fun _ _ => trivial⟩
set_option maxRecDepth 100000 in
theorem kbX0_layAlong : KB jX0_layAlong 1 := ⟨List.mem_filter.mpr ⟨List.mem_of_getElem? (i := 1034) (by decide +kernel), by decide +kernel⟩, List.mem_filter.mpr ⟨List.mem_of_getElem? (i := 91) (by decide +kernel), by decide +kernel⟩, by decide +kernel⟩
abbrev jX0_layPattern : MD := (RX0, yX0_layPattern, cX0_layPattern, 6, none, { frames := 1, cells := 0, slots := 0, locals := 40 }, fun _ _ => True)
theorem plX0_layPattern : pln jX0_layPattern := ⟨by decide +kernel, rfl, rfl, rfl, fun _ _ => trivial⟩
set_option maxRecDepth 100000 in
theorem kbX0_layPattern : KB jX0_layPattern 2 := ⟨List.mem_filter.mpr ⟨List.mem_of_getElem? (i := 1038) (by decide +kernel), by decide +kernel⟩, List.mem_filter.mpr ⟨List.mem_of_getElem? (i := 91) (by decide +kernel), by decide +kernel⟩, by decide +kernel⟩
abbrev jX0_keep : MD := (RX0, yX0_keep, cX0_keep, 3, none, { frames := 0, cells := 0, slots := 0, locals := 0 }, fun _ _ => True)
theorem plX0_keep : pln jX0_keep := ⟨by decide +kernel, rfl, rfl, rfl, fun _ _ => trivial⟩
set_option maxRecDepth 100000 in
theorem kbX0_keep : KB jX0_keep 2 := ⟨List.mem_filter.mpr ⟨List.mem_of_getElem? (i := 1044) (by decide +kernel), by decide +kernel⟩, List.mem_filter.mpr ⟨List.mem_of_getElem? (i := 91) (by decide +kernel), by decide +kernel⟩, by decide +kernel⟩
abbrev jX0_has : MD := (RX0, yX0_has, cX0_has, 2, some .boolean, { frames := 0, cells := 0, slots := 0, locals := 0 }, fun _ _ => True)
theorem plX0_has : pln jX0_has := ⟨by decide +kernel, rfl, rfl, rfl, fun _ _ => trivial⟩
set_option maxRecDepth 100000 in
theorem kbX0_has : KB jX0_has 1 := ⟨List.mem_filter.mpr ⟨List.mem_of_getElem? (i := 1052) (by decide +kernel), by decide +kernel⟩, List.mem_filter.mpr ⟨List.mem_of_getElem? (i := 91) (by decide +kernel), by decide +kernel⟩, by decide +kernel⟩
abbrev jX0_beginOf : MD := (RX0, yX0_beginOf, cX0_beginOf, 2, some .int, { frames := 1, cells := 0, slots := 0, locals := 21 }, fun _ _ => True)
theorem plX0_beginOf : pln jX0_beginOf := ⟨by decide +kernel, rfl, rfl, rfl, fun _ _ => trivial⟩
set_option maxRecDepth 100000 in
theorem kbX0_beginOf : KB jX0_beginOf 1 := ⟨List.mem_filter.mpr ⟨List.mem_of_getElem? (i := 1048) (by decide +kernel), by decide +kernel⟩, List.mem_filter.mpr ⟨List.mem_of_getElem? (i := 91) (by decide +kernel), by decide +kernel⟩, by decide +kernel⟩
abbrev jX0_endOf : MD := (RX0, yX0_endOf, cX0_endOf, 2, some .int, { frames := 1, cells := 0, slots := 0, locals := 21 }, fun _ _ => True)
theorem plX0_endOf : pln jX0_endOf := ⟨by decide +kernel, rfl, rfl, rfl, fun _ _ => trivial⟩
set_option maxRecDepth 100000 in
theorem kbX0_endOf : KB jX0_endOf 1 := ⟨List.mem_filter.mpr ⟨List.mem_of_getElem? (i := 1057) (by decide +kernel), by decide +kernel⟩, List.mem_filter.mpr ⟨List.mem_of_getElem? (i := 91) (by decide +kernel), by decide +kernel⟩, by decide +kernel⟩
abbrev jX1_init : MD := (RX1, yX1_init, cX1_init, 1, none, { frames := 1, cells := 0, slots := 0, locals := 20 }, fun _ _ => True)
theorem plX1_init : pln jX1_init := ⟨by decide +kernel, rfl, rfl, rfl, fun _ _ => trivial⟩
set_option maxRecDepth 100000 in
theorem kbX1_init : KB jX1_init 0 := ⟨List.mem_filter.mpr ⟨List.mem_of_getElem? (i := 140) (by decide +kernel), by decide +kernel⟩, List.mem_filter.mpr ⟨List.mem_of_getElem? (i := 88) (by decide +kernel), by decide +kernel⟩, by decide +kernel⟩
abbrev jX1_flatten : MD := (RX1, yX1_flatten, cX1_flatten, 5, none, { frames := 4, cells := 0, slots := 0, locals := 114 }, fun _ _ => True)
theorem plX1_flatten : pln jX1_flatten := ⟨by decide +kernel, rfl, rfl, rfl, fun _ _ => trivial⟩
set_option maxRecDepth 100000 in
theorem kbX1_flatten : KB jX1_flatten 2 := ⟨List.mem_filter.mpr ⟨List.mem_of_getElem? (i := 504) (by decide +kernel), by decide +kernel⟩, List.mem_filter.mpr ⟨List.mem_of_getElem? (i := 88) (by decide +kernel), by decide +kernel⟩, by decide +kernel⟩
abbrev jX1_beginContour : MD := (RX1, yX1_beginContour, cX1_beginContour, 4, none, { frames := 1, cells := 0, slots := 0, locals := 24 }, fun _ _ => True)
theorem plX1_beginContour : pln jX1_beginContour := ⟨by decide +kernel, rfl, rfl, rfl, fun _ _ => trivial⟩
set_option maxRecDepth 100000 in
theorem kbX1_beginContour : KB jX1_beginContour 3 := ⟨List.mem_filter.mpr ⟨List.mem_of_getElem? (i := 511) (by decide +kernel), by decide +kernel⟩, List.mem_filter.mpr ⟨List.mem_of_getElem? (i := 88) (by decide +kernel), by decide +kernel⟩, by decide +kernel⟩
abbrev jX1_addCurve : MD := (RX1, yX1_addCurve, cX1_addCurve, 5, none, { frames := 3, cells := 0, slots := 0, locals := 90 }, fun _ _ => True)
theorem plX1_addCurve : pln jX1_addCurve := ⟨by decide +kernel, rfl, rfl, rfl, fun _ _ => trivial⟩
set_option maxRecDepth 100000 in
theorem kbX1_addCurve : KB jX1_addCurve 3 := ⟨List.mem_filter.mpr ⟨List.mem_of_getElem? (i := 519) (by decide +kernel), by decide +kernel⟩, List.mem_filter.mpr ⟨List.mem_of_getElem? (i := 88) (by decide +kernel), by decide +kernel⟩, by decide +kernel⟩
abbrev jX1_addVertex : MD := (RX1, yX1_addVertex, cX1_addVertex, 6, none, { frames := 1, cells := 0, slots := 0, locals := 28 }, fun _ _ => True)
theorem plX1_addVertex : pln jX1_addVertex := ⟨by decide +kernel, rfl, rfl, rfl, fun _ _ => trivial⟩
set_option maxRecDepth 100000 in
theorem kbX1_addVertex : KB jX1_addVertex 3 := ⟨List.mem_filter.mpr ⟨List.mem_of_getElem? (i := 556) (by decide +kernel), by decide +kernel⟩, List.mem_filter.mpr ⟨List.mem_of_getElem? (i := 88) (by decide +kernel), by decide +kernel⟩, by decide +kernel⟩
abbrev jX1_append : MD := (RX1, yX1_append, cX1_append, 5, none, { frames := 0, cells := 0, slots := 0, locals := 0 }, fun _ _ => True)
theorem plX1_append : pln jX1_append := ⟨by decide +kernel, rfl, rfl, rfl, fun _ _ => trivial⟩
set_option maxRecDepth 100000 in
theorem kbX1_append : KB jX1_append 4 := ⟨List.mem_filter.mpr ⟨List.mem_of_getElem? (i := 515) (by decide +kernel), by decide +kernel⟩, List.mem_filter.mpr ⟨List.mem_of_getElem? (i := 88) (by decide +kernel), by decide +kernel⟩, by decide +kernel⟩
abbrev jX1_segmentLength : MD := (RX1, yX1_segmentLength, cX1_segmentLength, 9, some .int, { frames := 0, cells := 0, slots := 0, locals := 0 }, fun _ _ => True)
theorem plX1_segmentLength : pln jX1_segmentLength := ⟨by decide +kernel, rfl, rfl, rfl, fun _ _ => trivial⟩
set_option maxRecDepth 100000 in
theorem kbX1_segmentLength : KB jX1_segmentLength 2 := ⟨List.mem_filter.mpr ⟨List.mem_of_getElem? (i := 559) (by decide +kernel), by decide +kernel⟩, List.mem_filter.mpr ⟨List.mem_of_getElem? (i := 88) (by decide +kernel), by decide +kernel⟩, by decide +kernel⟩
abbrev jX1_firstOf : MD := (RX1, yX1_firstOf, cX1_firstOf, 2, some .int, { frames := 0, cells := 0, slots := 0, locals := 0 }, fun _ _ => True)
theorem plX1_firstOf : pln jX1_firstOf := ⟨by decide +kernel, rfl, rfl, rfl, fun _ _ => trivial⟩
set_option maxRecDepth 100000 in
theorem kbX1_firstOf : KB jX1_firstOf 1 := ⟨List.mem_filter.mpr ⟨List.mem_of_getElem? (i := 859) (by decide +kernel), by decide +kernel⟩, List.mem_filter.mpr ⟨List.mem_of_getElem? (i := 88) (by decide +kernel), by decide +kernel⟩, by decide +kernel⟩
abbrev jX1_verticesIn : MD := (RX1, yX1_verticesIn, cX1_verticesIn, 3, some .int, { frames := 1, cells := 0, slots := 0, locals := 21 }, fun _ _ => True)
theorem plX1_verticesIn : pln jX1_verticesIn := ⟨by decide +kernel, rfl, rfl, rfl, fun _ _ => trivial⟩
set_option maxRecDepth 100000 in
theorem kbX1_verticesIn : KB jX1_verticesIn 2 := ⟨List.mem_filter.mpr ⟨List.mem_of_getElem? (i := 855) (by decide +kernel), by decide +kernel⟩, List.mem_filter.mpr ⟨List.mem_of_getElem? (i := 88) (by decide +kernel), by decide +kernel⟩, by decide +kernel⟩
abbrev jX1_segmentsIn : MD := (RX1, yX1_segmentsIn, cX1_segmentsIn, 3, some .int, { frames := 2, cells := 0, slots := 0, locals := 43 }, fun _ _ => True)
theorem plX1_segmentsIn : pln jX1_segmentsIn := ⟨by decide +kernel, rfl, rfl, rfl, fun _ _ => trivial⟩
set_option maxRecDepth 100000 in
theorem kbX1_segmentsIn : KB jX1_segmentsIn 2 := ⟨List.mem_filter.mpr ⟨List.mem_of_getElem? (i := 863) (by decide +kernel), by decide +kernel⟩, List.mem_filter.mpr ⟨List.mem_of_getElem? (i := 88) (by decide +kernel), by decide +kernel⟩, by decide +kernel⟩
abbrev jX1_lengthIn : MD := (RX1, yX1_lengthIn, cX1_lengthIn, 5, some .int, { frames := 2, cells := 0, slots := 0, locals := 42 }, fun _ _ => True)
theorem plX1_lengthIn : pln jX1_lengthIn := ⟨by decide +kernel, rfl, rfl, rfl, fun _ _ => trivial⟩
set_option maxRecDepth 100000 in
theorem kbX1_lengthIn : KB jX1_lengthIn 2 := ⟨List.mem_filter.mpr ⟨List.mem_of_getElem? (i := 868) (by decide +kernel), by decide +kernel⟩, List.mem_filter.mpr ⟨List.mem_of_getElem? (i := 88) (by decide +kernel), by decide +kernel⟩, by decide +kernel⟩
abbrev jX1_has : MD := (RX1, yX1_has, cX1_has, 2, some .boolean, { frames := 0, cells := 0, slots := 0, locals := 0 }, fun _ _ => True)
theorem plX1_has : pln jX1_has := ⟨by decide +kernel, rfl, rfl, rfl, fun _ _ => trivial⟩
set_option maxRecDepth 100000 in
theorem kbX1_has : KB jX1_has 1 := ⟨List.mem_filter.mpr ⟨List.mem_of_getElem? (i := 876) (by decide +kernel), by decide +kernel⟩, List.mem_filter.mpr ⟨List.mem_of_getElem? (i := 88) (by decide +kernel), by decide +kernel⟩, by decide +kernel⟩
abbrev jX1_hasSegments : MD := (RX1, yX1_hasSegments, cX1_hasSegments, 2, some .boolean, { frames := 3, cells := 0, slots := 0, locals := 65 }, fun _ _ => True)
theorem plX1_hasSegments : pln jX1_hasSegments := ⟨by decide +kernel, rfl, rfl, rfl, fun _ _ => trivial⟩
set_option maxRecDepth 100000 in
theorem kbX1_hasSegments : KB jX1_hasSegments 1 := ⟨List.mem_filter.mpr ⟨List.mem_of_getElem? (i := 899) (by decide +kernel), by decide +kernel⟩, List.mem_filter.mpr ⟨List.mem_of_getElem? (i := 88) (by decide +kernel), by decide +kernel⟩, by decide +kernel⟩
abbrev jX1_isClosed : MD := (RX1, yX1_isClosed, cX1_isClosed, 2, some .boolean, { frames := 1, cells := 0, slots := 0, locals := 21 }, fun _ _ => True)
theorem plX1_isClosed : pln jX1_isClosed := ⟨by decide +kernel, rfl, rfl, rfl, fun _ _ => trivial⟩
set_option maxRecDepth 100000 in
theorem kbX1_isClosed : KB jX1_isClosed 1 := ⟨List.mem_filter.mpr ⟨List.mem_of_getElem? (i := 1134) (by decide +kernel), by decide +kernel⟩, List.mem_filter.mpr ⟨List.mem_of_getElem? (i := 88) (by decide +kernel), by decide +kernel⟩, by decide +kernel⟩
abbrev jX1_lengthOf : MD := (RX1, yX1_lengthOf, cX1_lengthOf, 2, some .int, { frames := 1, cells := 0, slots := 0, locals := 21 }, fun _ _ => True)
theorem plX1_lengthOf : pln jX1_lengthOf := ⟨by decide +kernel, rfl, rfl, rfl, fun _ _ => trivial⟩
set_option maxRecDepth 100000 in
theorem kbX1_lengthOf : KB jX1_lengthOf 1 := ⟨List.mem_filter.mpr ⟨List.mem_of_getElem? (i := 872) (by decide +kernel), by decide +kernel⟩, List.mem_filter.mpr ⟨List.mem_of_getElem? (i := 88) (by decide +kernel), by decide +kernel⟩, by decide +kernel⟩
abbrev jX1_lengthMadeBy : MD := (RX1, yX1_lengthMadeBy, cX1_lengthMadeBy, 4, some .int, { frames := 0, cells := 0, slots := 0, locals := 0 }, fun _ _ => True)
theorem plX1_lengthMadeBy : pln jX1_lengthMadeBy := ⟨by decide +kernel, rfl, rfl, rfl, fun _ _ => trivial⟩
set_option maxRecDepth 100000 in
theorem kbX1_lengthMadeBy : KB jX1_lengthMadeBy 1 := ⟨List.mem_filter.mpr ⟨List.mem_of_getElem? (i := 568) (by decide +kernel), by decide +kernel⟩, List.mem_filter.mpr ⟨List.mem_of_getElem? (i := 88) (by decide +kernel), by decide +kernel⟩, by decide +kernel⟩
abbrev jX1_vertexNumber : MD := (RX1, yX1_vertexNumber, cX1_vertexNumber, 3, some .int, { frames := 0, cells := 0, slots := 0, locals := 0 }, fun _ _ => True)
theorem plX1_vertexNumber : pln jX1_vertexNumber := ⟨by decide +kernel, rfl, rfl, rfl, fun _ _ => trivial⟩
set_option maxRecDepth 100000 in
theorem kbX1_vertexNumber : KB jX1_vertexNumber 2 := ⟨List.mem_filter.mpr ⟨List.mem_of_getElem? (i := 889) (by decide +kernel), by decide +kernel⟩, List.mem_filter.mpr ⟨List.mem_of_getElem? (i := 88) (by decide +kernel), by decide +kernel⟩, by decide +kernel⟩
abbrev jX1_segmentAt : MD := (RX1, yX1_segmentAt, cX1_segmentAt, 5, some .int, { frames := 1, cells := 0, slots := 0, locals := 21 }, fun _ _ => True)
theorem plX1_segmentAt : pln jX1_segmentAt := ⟨by decide +kernel, rfl, rfl, rfl, fun _ _ => trivial⟩
set_option maxRecDepth 100000 in
theorem kbX1_segmentAt : KB jX1_segmentAt 2 := ⟨List.mem_filter.mpr ⟨List.mem_of_getElem? (i := 909) (by decide +kernel), by decide +kernel⟩, List.mem_filter.mpr ⟨List.mem_of_getElem? (i := 88) (by decide +kernel), by decide +kernel⟩, by decide +kernel⟩
abbrev jX1_pointNumber : MD := (RX1, yX1_pointNumber, cX1_pointNumber, 5, some .int, { frames := 2, cells := 0, slots := 0, locals := 48 }, fun _ _ => True)
theorem plX1_pointNumber : pln jX1_pointNumber := ⟨by decide +kernel, rfl, rfl, rfl, fun _ _ => trivial⟩
set_option maxRecDepth 100000 in
theorem kbX1_pointNumber : KB jX1_pointNumber 3 := ⟨List.mem_filter.mpr ⟨List.mem_of_getElem? (i := 905) (by decide +kernel), by decide +kernel⟩, List.mem_filter.mpr ⟨List.mem_of_getElem? (i := 88) (by decide +kernel), by decide +kernel⟩, by decide +kernel⟩
abbrev jX1_numberOf : MD := (RX1, yX1_numberOf, cX1_numberOf, 2, some .int, { frames := 0, cells := 0, slots := 0, locals := 0 }, fun _ _ => True)
theorem plX1_numberOf : pln jX1_numberOf := ⟨by decide +kernel, rfl, rfl, rfl, fun _ _ => trivial⟩
set_option maxRecDepth 100000 in
theorem kbX1_numberOf : KB jX1_numberOf 2 := ⟨List.mem_filter.mpr ⟨List.mem_of_getElem? (i := 920) (by decide +kernel), by decide +kernel⟩, List.mem_filter.mpr ⟨List.mem_of_getElem? (i := 88) (by decide +kernel), by decide +kernel⟩, by decide +kernel⟩
abbrev jX1_difference : MD := (RX1, yX1_difference, cX1_difference, 3, some .int, { frames := 0, cells := 0, slots := 0, locals := 0 }, fun _ _ => True)
theorem plX1_difference : pln jX1_difference := ⟨by decide +kernel, rfl, rfl, rfl, fun _ _ => trivial⟩
set_option maxRecDepth 100000 in
theorem kbX1_difference : KB jX1_difference 2 := ⟨List.mem_filter.mpr ⟨List.mem_of_getElem? (i := 917) (by decide +kernel), by decide +kernel⟩, List.mem_filter.mpr ⟨List.mem_of_getElem? (i := 88) (by decide +kernel), by decide +kernel⟩, by decide +kernel⟩
abbrev jX1_along : MD := (RX1, yX1_along, cX1_along, 7, some .int, { frames := 1, cells := 0, slots := 0, locals := 22 }, fun _ _ => True)
theorem plX1_along : pln jX1_along := ⟨by decide +kernel, rfl, rfl, rfl, fun _ _ => trivial⟩
set_option maxRecDepth 100000 in
theorem kbX1_along : KB jX1_along 3 := ⟨List.mem_filter.mpr ⟨List.mem_of_getElem? (i := 913) (by decide +kernel), by decide +kernel⟩, List.mem_filter.mpr ⟨List.mem_of_getElem? (i := 88) (by decide +kernel), by decide +kernel⟩, by decide +kernel⟩
abbrev jX1_isBackward : MD := (RX1, yX1_isBackward, cX1_isBackward, 4, some .boolean, { frames := 1, cells := 0, slots := 0, locals := 22 }, fun _ _ => True)
theorem plX1_isBackward : pln jX1_isBackward := ⟨by decide +kernel, rfl, rfl, rfl, fun _ _ => trivial⟩
set_option maxRecDepth 100000 in
theorem kbX1_isBackward : KB jX1_isBackward 2 := ⟨List.mem_filter.mpr ⟨List.mem_of_getElem? (i := 1169) (by decide +kernel), by decide +kernel⟩, List.mem_filter.mpr ⟨List.mem_of_getElem? (i := 88) (by decide +kernel), by decide +kernel⟩, by decide +kernel⟩
abbrev jX1_nearestNumber : MD := (RX1, yX1_nearestNumber, cX1_nearestNumber, 10, some .int, { frames := 3, cells := 0, slots := 0, locals := 97 }, fun _ _ => True)
theorem plX1_nearestNumber : pln jX1_nearestNumber := ⟨by decide +kernel, rfl, rfl, rfl, fun _ _ => trivial⟩
set_option maxRecDepth 100000 in
theorem kbX1_nearestNumber : KB jX1_nearestNumber 3 := ⟨List.mem_filter.mpr ⟨List.mem_of_getElem? (i := 928) (by decide +kernel), by decide +kernel⟩, List.mem_filter.mpr ⟨List.mem_of_getElem? (i := 88) (by decide +kernel), by decide +kernel⟩, by decide +kernel⟩
abbrev jX1_squareTo : MD := (RX1, yX1_squareTo, cX1_squareTo, 6, some .int, { frames := 2, cells := 0, slots := 0, locals := 72 }, fun _ _ => True)
theorem plX1_squareTo : pln jX1_squareTo := ⟨by decide +kernel, rfl, rfl, rfl, fun _ _ => trivial⟩
set_option maxRecDepth 100000 in
theorem kbX1_squareTo : KB jX1_squareTo 3 := ⟨List.mem_filter.mpr ⟨List.mem_of_getElem? (i := 933) (by decide +kernel), by decide +kernel⟩, List.mem_filter.mpr ⟨List.mem_of_getElem? (i := 88) (by decide +kernel), by decide +kernel⟩, by decide +kernel⟩
abbrev jX1_nearestOn : MD := (RX1, yX1_nearestOn, cX1_nearestOn, 13, some .int, { frames := 1, cells := 0, slots := 0, locals := 40 }, fun _ _ => True)
theorem plX1_nearestOn : pln jX1_nearestOn := ⟨by decide +kernel, rfl, rfl, rfl, fun _ _ => trivial⟩
set_option maxRecDepth 100000 in
theorem kbX1_nearestOn : KB jX1_nearestOn 4 := ⟨List.mem_filter.mpr ⟨List.mem_of_getElem? (i := 937) (by decide +kernel), by decide +kernel⟩, List.mem_filter.mpr ⟨List.mem_of_getElem? (i := 88) (by decide +kernel), by decide +kernel⟩, by decide +kernel⟩
abbrev jX1_vertexBefore : MD := (RX1, yX1_vertexBefore, cX1_vertexBefore, 3, some .int, { frames := 0, cells := 0, slots := 0, locals := 0 }, fun _ _ => True)
theorem plX1_vertexBefore : pln jX1_vertexBefore := ⟨by decide +kernel, rfl, rfl, rfl, fun _ _ => trivial⟩
set_option maxRecDepth 100000 in
theorem kbX1_vertexBefore : KB jX1_vertexBefore 2 := ⟨List.mem_filter.mpr ⟨List.mem_of_getElem? (i := 955) (by decide +kernel), by decide +kernel⟩, List.mem_filter.mpr ⟨List.mem_of_getElem? (i := 88) (by decide +kernel), by decide +kernel⟩, by decide +kernel⟩
abbrev jX1_windingAround : MD := (RX1, yX1_windingAround, cX1_windingAround, 6, some .int, { frames := 1, cells := 0, slots := 0, locals := 27 }, fun _ _ => True)
theorem plX1_windingAround : pln jX1_windingAround := ⟨by decide +kernel, rfl, rfl, rfl, fun _ _ => trivial⟩
set_option maxRecDepth 100000 in
theorem kbX1_windingAround : KB jX1_windingAround 2 := ⟨List.mem_filter.mpr ⟨List.mem_of_getElem? (i := 951) (by decide +kernel), by decide +kernel⟩, List.mem_filter.mpr ⟨List.mem_of_getElem? (i := 88) (by decide +kernel), by decide +kernel⟩, by decide +kernel⟩
abbrev jX1_crossing : MD := (RX1, yX1_crossing, cX1_crossing, 8, some .int, { frames := 0, cells := 0, slots := 0, locals := 0 }, fun _ _ => True)
theorem plX1_crossing : pln jX1_crossing := ⟨by decide +kernel, rfl, rfl, rfl, fun _ _ => trivial⟩
set_option maxRecDepth 100000 in
theorem kbX1_crossing : KB jX1_crossing 4 := ⟨List.mem_filter.mpr ⟨List.mem_of_getElem? (i := 959) (by decide +kernel), by decide +kernel⟩, List.mem_filter.mpr ⟨List.mem_of_getElem? (i := 88) (by decide +kernel), by decide +kernel⟩, by decide +kernel⟩
abbrev jX1_twiceTheArea : MD := (RX1, yX1_twiceTheArea, cX1_twiceTheArea, 6, some .long, { frames := 1, cells := 0, slots := 0, locals := 22 }, fun _ _ => True)
theorem plX1_twiceTheArea : pln jX1_twiceTheArea := ⟨by decide +kernel, rfl, rfl, rfl, fun _ _ => trivial⟩
set_option maxRecDepth 100000 in
theorem kbX1_twiceTheArea : KB jX1_twiceTheArea 1 := ⟨List.mem_filter.mpr ⟨List.mem_of_getElem? (i := 968) (by decide +kernel), by decide +kernel⟩, List.mem_filter.mpr ⟨List.mem_of_getElem? (i := 88) (by decide +kernel), by decide +kernel⟩, by decide +kernel⟩
abbrev jX1_deviationScale : MD := (RX1, yX1_deviationScale, cX1_deviationScale, 7, some .long, { frames := 0, cells := 0, slots := 0, locals := 0 }, fun _ _ => True)
theorem plX1_deviationScale : pln jX1_deviationScale := ⟨by decide +kernel, rfl, rfl, rfl, fun _ _ => trivial⟩
set_option maxRecDepth 100000 in
theorem kbX1_deviationScale : KB jX1_deviationScale 2 := ⟨List.mem_filter.mpr ⟨List.mem_of_getElem? (i := 1000) (by decide +kernel), by decide +kernel⟩, List.mem_filter.mpr ⟨List.mem_of_getElem? (i := 88) (by decide +kernel), by decide +kernel⟩, by decide +kernel⟩
abbrev jX1_deviation : MD := (RX1, yX1_deviation, cX1_deviation, 14, some .long, { frames := 0, cells := 0, slots := 0, locals := 0 }, fun _ _ => True)
theorem plX1_deviation : pln jX1_deviation := ⟨by decide +kernel, rfl, rfl, rfl, fun _ _ => trivial⟩
set_option maxRecDepth 100000 in
theorem kbX1_deviation : KB jX1_deviation 3 := ⟨List.mem_filter.mpr ⟨List.mem_of_getElem? (i := 1004) (by decide +kernel), by decide +kernel⟩, List.mem_filter.mpr ⟨List.mem_of_getElem? (i := 88) (by decide +kernel), by decide +kernel⟩, by decide +kernel⟩
abbrev jX1_boundOf : MD := (RX1, yX1_boundOf, cX1_boundOf, 7, some .int, { frames := 1, cells := 0, slots := 0, locals := 40 }, fun _ _ => True)
theorem plX1_boundOf : pln jX1_boundOf := ⟨by decide +kernel, rfl, rfl, rfl, fun _ _ => trivial⟩
set_option maxRecDepth 100000 in
theorem kbX1_boundOf : KB jX1_boundOf 3 := ⟨List.mem_filter.mpr ⟨List.mem_of_getElem? (i := 976) (by decide +kernel), by decide +kernel⟩, List.mem_filter.mpr ⟨List.mem_of_getElem? (i := 88) (by decide +kernel), by decide +kernel⟩, by decide +kernel⟩
abbrev jX2_init : MD := (RX2, yX2_init, cX2_init, 1, none, { frames := 0, cells := 0, slots := 0, locals := 0 }, fun _ _ => True)
theorem plX2_init : pln jX2_init := ⟨by decide +kernel, rfl, rfl, rfl, fun _ _ => trivial⟩
set_option maxRecDepth 100000 in
theorem kbX2_init : KB jX2_init 0 := ⟨List.mem_filter.mpr ⟨List.mem_of_getElem? (i := 146) (by decide +kernel), by decide +kernel⟩, List.mem_filter.mpr ⟨List.mem_of_getElem? (i := 89) (by decide +kernel), by decide +kernel⟩, by decide +kernel⟩
abbrev jX2_begin : MD := (RX2, yX2_begin, cX2_begin, 7, none, { frames := 2, cells := 0, slots := 0, locals := 42 }, fun _ _ => True)
theorem plX2_begin : pln jX2_begin := ⟨by decide +kernel, rfl, rfl, rfl, fun _ _ => trivial⟩
set_option maxRecDepth 100000 in
theorem kbX2_begin : KB jX2_begin 4 := ⟨List.mem_filter.mpr ⟨List.mem_of_getElem? (i := 523) (by decide +kernel), by decide +kernel⟩, List.mem_filter.mpr ⟨List.mem_of_getElem? (i := 89) (by decide +kernel), by decide +kernel⟩, by decide +kernel⟩
abbrev jX2_hasMore : MD := (RX2, yX2_hasMore, cX2_hasMore, 1, some .boolean, { frames := 0, cells := 0, slots := 0, locals := 0 }, fun _ _ => True)
theorem plX2_hasMore : pln jX2_hasMore := ⟨by decide +kernel, rfl, rfl, rfl, fun _ _ => trivial⟩
set_option maxRecDepth 100000 in
theorem kbX2_hasMore : KB jX2_hasMore 0 := ⟨List.mem_filter.mpr ⟨List.mem_of_getElem? (i := 529) (by decide +kernel), by decide +kernel⟩, List.mem_filter.mpr ⟨List.mem_of_getElem? (i := 89) (by decide +kernel), by decide +kernel⟩, by decide +kernel⟩
abbrev jX2_halveNext : MD := (RX2, yX2_halveNext, cX2_halveNext, 5, none, { frames := 2, cells := 0, slots := 0, locals := 66 }, fun _ _ => True)
theorem plX2_halveNext : pln jX2_halveNext := ⟨by decide +kernel, rfl, rfl, rfl, fun _ _ => trivial⟩
set_option maxRecDepth 100000 in
theorem kbX2_halveNext : KB jX2_halveNext 1 := ⟨List.mem_filter.mpr ⟨List.mem_of_getElem? (i := 533) (by decide +kernel), by decide +kernel⟩, List.mem_filter.mpr ⟨List.mem_of_getElem? (i := 89) (by decide +kernel), by decide +kernel⟩, by decide +kernel⟩
abbrev jX2_nextX : MD := (RX2, yX2_nextX, cX2_nextX, 1, some .int, { frames := 0, cells := 0, slots := 0, locals := 0 }, fun _ _ => True)
theorem plX2_nextX : pln jX2_nextX := ⟨by decide +kernel, rfl, rfl, rfl, fun _ _ => trivial⟩
set_option maxRecDepth 100000 in
theorem kbX2_nextX : KB jX2_nextX 0 := ⟨List.mem_filter.mpr ⟨List.mem_of_getElem? (i := 548) (by decide +kernel), by decide +kernel⟩, List.mem_filter.mpr ⟨List.mem_of_getElem? (i := 89) (by decide +kernel), by decide +kernel⟩, by decide +kernel⟩
abbrev jX2_nextY : MD := (RX2, yX2_nextY, cX2_nextY, 1, some .int, { frames := 0, cells := 0, slots := 0, locals := 0 }, fun _ _ => True)
theorem plX2_nextY : pln jX2_nextY := ⟨by decide +kernel, rfl, rfl, rfl, fun _ _ => trivial⟩
set_option maxRecDepth 100000 in
theorem kbX2_nextY : KB jX2_nextY 0 := ⟨List.mem_filter.mpr ⟨List.mem_of_getElem? (i := 552) (by decide +kernel), by decide +kernel⟩, List.mem_filter.mpr ⟨List.mem_of_getElem? (i := 89) (by decide +kernel), by decide +kernel⟩, by decide +kernel⟩
abbrev jX2_dropNext : MD := (RX2, yX2_dropNext, cX2_dropNext, 1, none, { frames := 0, cells := 0, slots := 0, locals := 0 }, fun _ _ => True)
theorem plX2_dropNext : pln jX2_dropNext := ⟨by decide +kernel, rfl, rfl, rfl, fun _ _ => trivial⟩
set_option maxRecDepth 100000 in
theorem kbX2_dropNext : KB jX2_dropNext 0 := ⟨List.mem_filter.mpr ⟨List.mem_of_getElem? (i := 564) (by decide +kernel), by decide +kernel⟩, List.mem_filter.mpr ⟨List.mem_of_getElem? (i := 89) (by decide +kernel), by decide +kernel⟩, by decide +kernel⟩
abbrev jX2_isFlat : MD := (RX2, yX2_isFlat, cX2_isFlat, 7, some .boolean, { frames := 1, cells := 0, slots := 0, locals := 40 }, fun _ _ => True)
theorem plX2_isFlat : pln jX2_isFlat := ⟨by decide +kernel, rfl, rfl, rfl, fun _ _ => trivial⟩
set_option maxRecDepth 100000 in
theorem kbX2_isFlat : KB jX2_isFlat 2 := ⟨List.mem_filter.mpr ⟨List.mem_of_getElem? (i := 537) (by decide +kernel), by decide +kernel⟩, List.mem_filter.mpr ⟨List.mem_of_getElem? (i := 89) (by decide +kernel), by decide +kernel⟩, by decide +kernel⟩
abbrev jX2_halve : MD := (RX2, yX2_halve, cX2_halve, 5, none, { frames := 0, cells := 0, slots := 0, locals := 0 }, fun _ _ => True)
theorem plX2_halve : pln jX2_halve := ⟨by decide +kernel, rfl, rfl, rfl, fun _ _ => trivial⟩
set_option maxRecDepth 100000 in
theorem kbX2_halve : KB jX2_halve 2 := ⟨List.mem_filter.mpr ⟨List.mem_of_getElem? (i := 544) (by decide +kernel), by decide +kernel⟩, List.mem_filter.mpr ⟨List.mem_of_getElem? (i := 89) (by decide +kernel), by decide +kernel⟩, by decide +kernel⟩
abbrev jX3_init : MD := (RX3, yX3_init, cX3_init, 2, none, { frames := 0, cells := 0, slots := 0, locals := 0 }, fun _ _ => True)
theorem plX3_init : pln jX3_init := ⟨by decide +kernel, rfl, rfl, rfl, fun _ _ => trivial⟩
set_option maxRecDepth 100000 in
theorem kbX3_init : KB jX3_init 0 := ⟨List.mem_filter.mpr ⟨List.mem_of_getElem? (i := 239) (by decide +kernel), by decide +kernel⟩, List.mem_filter.mpr ⟨List.mem_of_getElem? (i := 92) (by decide +kernel), by decide +kernel⟩, by decide +kernel⟩
abbrev jX3_append : MD := (RX3, yX3_append, cX3_append, 2, none, { frames := 1, cells := 0, slots := 0, locals := 20 }, fun _ _ => True)
theorem plX3_append : pln jX3_append := ⟨by decide +kernel, rfl, rfl, rfl, fun _ _ => trivial⟩
set_option maxRecDepth 100000 in
theorem kbX3_append : KB jX3_append 1 := ⟨List.mem_filter.mpr ⟨List.mem_of_getElem? (i := 1095) (by decide +kernel), by decide +kernel⟩, List.mem_filter.mpr ⟨List.mem_of_getElem? (i := 92) (by decide +kernel), by decide +kernel⟩, by decide +kernel⟩
abbrev jX3_changeWidth : MD := (RX3, yX3_changeWidth, cX3_changeWidth, 4, some .int, { frames := 1, cells := 0, slots := 0, locals := 20 }, fun _ _ => True)
theorem plX3_changeWidth : pln jX3_changeWidth := ⟨by decide +kernel, rfl, rfl, rfl, fun _ _ => trivial⟩
set_option maxRecDepth 100000 in
theorem kbX3_changeWidth : KB jX3_changeWidth 2 := ⟨List.mem_filter.mpr ⟨List.mem_of_getElem? (i := 1068) (by decide +kernel), by decide +kernel⟩, List.mem_filter.mpr ⟨List.mem_of_getElem? (i := 92) (by decide +kernel), by decide +kernel⟩, by decide +kernel⟩
abbrev jX3_kerningOf : MD := (RX3, yX3_kerningOf, cX3_kerningOf, 3, some .int, { frames := 1, cells := 0, slots := 0, locals := 20 }, fun _ _ => True)
theorem plX3_kerningOf : pln jX3_kerningOf := ⟨by decide +kernel, rfl, rfl, rfl, fun _ _ => trivial⟩
set_option maxRecDepth 100000 in
theorem kbX3_kerningOf : KB jX3_kerningOf 2 := ⟨List.mem_filter.mpr ⟨List.mem_of_getElem? (i := 1082) (by decide +kernel), by decide +kernel⟩, List.mem_filter.mpr ⟨List.mem_of_getElem? (i := 92) (by decide +kernel), by decide +kernel⟩, by decide +kernel⟩
abbrev jX3_pairsBeside : MD := (RX3, yX3_pairsBeside, cX3_pairsBeside, 3, some .int, { frames := 2, cells := 0, slots := 0, locals := 42 }, fun _ _ => True)
theorem plX3_pairsBeside : pln jX3_pairsBeside := ⟨by decide +kernel, rfl, rfl, rfl, fun _ _ => trivial⟩
set_option maxRecDepth 100000 in
theorem kbX3_pairsBeside : KB jX3_pairsBeside 2 := ⟨List.mem_filter.mpr ⟨List.mem_of_getElem? (i := 1078) (by decide +kernel), by decide +kernel⟩, List.mem_filter.mpr ⟨List.mem_of_getElem? (i := 92) (by decide +kernel), by decide +kernel⟩, by decide +kernel⟩
abbrev jX3_changeKerning : MD := (RX3, yX3_changeKerning, cX3_changeKerning, 4, some .int, { frames := 3, cells := 0, slots := 0, locals := 64 }, fun _ _ => True)
theorem plX3_changeKerning : pln jX3_changeKerning := ⟨by decide +kernel, rfl, rfl, rfl, fun _ _ => trivial⟩
set_option maxRecDepth 100000 in
theorem kbX3_changeKerning : KB jX3_changeKerning 3 := ⟨List.mem_filter.mpr ⟨List.mem_of_getElem? (i := 1086) (by decide +kernel), by decide +kernel⟩, List.mem_filter.mpr ⟨List.mem_of_getElem? (i := 92) (by decide +kernel), by decide +kernel⟩, by decide +kernel⟩
abbrev jX3_widthAt : MD := (RX3, yX3_widthAt, cX3_widthAt, 2, some .int, { frames := 0, cells := 0, slots := 0, locals := 0 }, fun _ _ => True)
theorem plX3_widthAt : pln jX3_widthAt := ⟨by decide +kernel, rfl, rfl, rfl, fun _ _ => trivial⟩
set_option maxRecDepth 100000 in
theorem kbX3_widthAt : KB jX3_widthAt 1 := ⟨List.mem_filter.mpr ⟨List.mem_of_getElem? (i := 1119) (by decide +kernel), by decide +kernel⟩, List.mem_filter.mpr ⟨List.mem_of_getElem? (i := 92) (by decide +kernel), by decide +kernel⟩, by decide +kernel⟩
abbrev jX3_stepAfter : MD := (RX3, yX3_stepAfter, cX3_stepAfter, 3, some .int, { frames := 2, cells := 0, slots := 0, locals := 42 }, fun _ _ => True)
theorem plX3_stepAfter : pln jX3_stepAfter := ⟨by decide +kernel, rfl, rfl, rfl, fun _ _ => trivial⟩
set_option maxRecDepth 100000 in
theorem kbX3_stepAfter : KB jX3_stepAfter 1 := ⟨List.mem_filter.mpr ⟨List.mem_of_getElem? (i := 1126) (by decide +kernel), by decide +kernel⟩, List.mem_filter.mpr ⟨List.mem_of_getElem? (i := 92) (by decide +kernel), by decide +kernel⟩, by decide +kernel⟩
abbrev jX3_layOn : MD := (RX3, yX3_layOn, cX3_layOn, 3, none, { frames := 5, cells := 0, slots := 0, locals := 116 }, fun _ _ => True)
theorem plX3_layOn : pln jX3_layOn := ⟨by decide +kernel, rfl, rfl, rfl, fun _ _ => trivial⟩
set_option maxRecDepth 100000 in
theorem kbX3_layOn : KB jX3_layOn 2 := ⟨List.mem_filter.mpr ⟨List.mem_of_getElem? (i := 1111) (by decide +kernel), by decide +kernel⟩, List.mem_filter.mpr ⟨List.mem_of_getElem? (i := 92) (by decide +kernel), by decide +kernel⟩, by decide +kernel⟩
abbrev jX3_layOnOne : MD := (RX3, yX3_layOnOne, cX3_layOnOne, 11, none, { frames := 4, cells := 0, slots := 0, locals := 86 }, fun _ _ => True)
theorem plX3_layOnOne : pln jX3_layOnOne := ⟨by decide +kernel, rfl, rfl, rfl, fun _ _ => trivial⟩
set_option maxRecDepth 100000 in
theorem kbX3_layOnOne : KB jX3_layOnOne 2 := ⟨List.mem_filter.mpr ⟨List.mem_of_getElem? (i := 1130) (by decide +kernel), by decide +kernel⟩, List.mem_filter.mpr ⟨List.mem_of_getElem? (i := 92) (by decide +kernel), by decide +kernel⟩, by decide +kernel⟩
abbrev jX3_endOfAll : MD := (RX3, yX3_endOfAll, cX3_endOfAll, 3, some .int, { frames := 3, cells := 0, slots := 0, locals := 64 }, fun _ _ => True)
theorem plX3_endOfAll : pln jX3_endOfAll := ⟨by decide +kernel, rfl, rfl, rfl, fun _ _ => trivial⟩
set_option maxRecDepth 100000 in
theorem kbX3_endOfAll : KB jX3_endOfAll 0 := ⟨List.mem_filter.mpr ⟨List.mem_of_getElem? (i := 1138) (by decide +kernel), by decide +kernel⟩, List.mem_filter.mpr ⟨List.mem_of_getElem? (i := 92) (by decide +kernel), by decide +kernel⟩, by decide +kernel⟩
abbrev jX3_squeeze : MD := (RX3, yX3_squeeze, cX3_squeeze, 5, some .int, { frames := 0, cells := 0, slots := 0, locals := 0 }, fun _ _ => True)
theorem plX3_squeeze : pln jX3_squeeze := ⟨by decide +kernel, rfl, rfl, rfl, fun _ _ => trivial⟩
set_option maxRecDepth 100000 in
theorem kbX3_squeeze : KB jX3_squeeze 3 := ⟨List.mem_filter.mpr ⟨List.mem_of_getElem? (i := 1145) (by decide +kernel), by decide +kernel⟩, List.mem_filter.mpr ⟨List.mem_of_getElem? (i := 92) (by decide +kernel), by decide +kernel⟩, by decide +kernel⟩
abbrev jX3_layMovingOn : MD := (RX3, yX3_layMovingOn, cX3_layMovingOn, 8, none, { frames := 4, cells := 0, slots := 0, locals := 86 }, fun _ _ => True)
theorem plX3_layMovingOn : pln jX3_layMovingOn := ⟨by decide +kernel, rfl, rfl, rfl, fun _ _ => trivial⟩
set_option maxRecDepth 100000 in
theorem kbX3_layMovingOn : KB jX3_layMovingOn 2 := ⟨List.mem_filter.mpr ⟨List.mem_of_getElem? (i := 1115) (by decide +kernel), by decide +kernel⟩, List.mem_filter.mpr ⟨List.mem_of_getElem? (i := 92) (by decide +kernel), by decide +kernel⟩, by decide +kernel⟩
abbrev jX3_placeNumber : MD := (RX3, yX3_placeNumber, cX3_placeNumber, 4, some .int, { frames := 3, cells := 0, slots := 0, locals := 72 }, fun _ _ => True)
theorem plX3_placeNumber : pln jX3_placeNumber := ⟨by decide +kernel, rfl, rfl, rfl, fun _ _ => trivial⟩
set_option maxRecDepth 100000 in
theorem kbX3_placeNumber : KB jX3_placeNumber 3 := ⟨List.mem_filter.mpr ⟨List.mem_of_getElem? (i := 1150) (by decide +kernel), by decide +kernel⟩, List.mem_filter.mpr ⟨List.mem_of_getElem? (i := 92) (by decide +kernel), by decide +kernel⟩, by decide +kernel⟩
abbrev jX3_lettersPlaced : MD := (RX3, yX3_lettersPlaced, cX3_lettersPlaced, 3, some .int, { frames := 0, cells := 0, slots := 0, locals := 0 }, fun _ _ => True)
theorem plX3_lettersPlaced : pln jX3_lettersPlaced := ⟨by decide +kernel, rfl, rfl, rfl, fun _ _ => trivial⟩
set_option maxRecDepth 100000 in
theorem kbX3_lettersPlaced : KB jX3_lettersPlaced 0 := ⟨List.mem_filter.mpr ⟨List.mem_of_getElem? (i := 1160) (by decide +kernel), by decide +kernel⟩, List.mem_filter.mpr ⟨List.mem_of_getElem? (i := 92) (by decide +kernel), by decide +kernel⟩, by decide +kernel⟩
abbrev jX3_turnsBackward : MD := (RX3, yX3_turnsBackward, cX3_turnsBackward, 7, some .int, { frames := 2, cells := 0, slots := 0, locals := 45 }, fun _ _ => True)
theorem plX3_turnsBackward : pln jX3_turnsBackward := ⟨by decide +kernel, rfl, rfl, rfl, fun _ _ => trivial⟩
set_option maxRecDepth 100000 in
theorem kbX3_turnsBackward : KB jX3_turnsBackward 1 := ⟨List.mem_filter.mpr ⟨List.mem_of_getElem? (i := 1164) (by decide +kernel), by decide +kernel⟩, List.mem_filter.mpr ⟨List.mem_of_getElem? (i := 92) (by decide +kernel), by decide +kernel⟩, by decide +kernel⟩
abbrev jX4_init : MD := (RX4, yX4_init, cX4_init, 1, none, { frames := 3, cells := 0, slots := 0, locals := 60 }, fun _ _ => True)
theorem plX4_init : pln jX4_init := ⟨by decide +kernel, rfl, rfl, rfl, fun _ _ => trivial⟩
set_option maxRecDepth 100000 in
theorem kbX4_init : KB jX4_init 0 := ⟨List.mem_filter.mpr ⟨List.mem_of_getElem? (i := 281) (by decide +kernel), by decide +kernel⟩, List.mem_filter.mpr ⟨List.mem_of_getElem? (i := 93) (by decide +kernel), by decide +kernel⟩, by decide +kernel⟩
abbrev jX4_append : MD := (RX4, yX4_append, cX4_append, 2, none, { frames := 0, cells := 0, slots := 0, locals := 0 }, fun _ _ => True)
theorem plX4_append : pln jX4_append := ⟨by decide +kernel, rfl, rfl, rfl, fun _ _ => trivial⟩
set_option maxRecDepth 100000 in
theorem kbX4_append : KB jX4_append 1 := ⟨List.mem_filter.mpr ⟨List.mem_of_getElem? (i := 639) (by decide +kernel), by decide +kernel⟩, List.mem_filter.mpr ⟨List.mem_of_getElem? (i := 93) (by decide +kernel), by decide +kernel⟩, by decide +kernel⟩
abbrev jX4_readInto : MD := (RX4, yX4_readInto, cX4_readInto, 3, some .int, { frames := 9, cells := 0, slots := 0, locals := 205 }, fun _ _ => True)
theorem plX4_readInto : pln jX4_readInto := ⟨by decide +kernel, rfl, rfl, rfl, fun _ _ => trivial⟩
set_option maxRecDepth 100000 in
theorem kbX4_readInto : KB jX4_readInto 1 := ⟨List.mem_filter.mpr ⟨List.mem_of_getElem? (i := 651) (by decide +kernel), by decide +kernel⟩, List.mem_filter.mpr ⟨List.mem_of_getElem? (i := 93) (by decide +kernel), by decide +kernel⟩, by decide +kernel⟩
abbrev jX4_commandsRead : MD := (RX4, yX4_commandsRead, cX4_commandsRead, 1, some .int, { frames := 0, cells := 0, slots := 0, locals := 0 }, fun _ _ => True)
theorem plX4_commandsRead : pln jX4_commandsRead := ⟨by decide +kernel, rfl, rfl, rfl, fun _ _ => trivial⟩
set_option maxRecDepth 100000 in
theorem kbX4_commandsRead : KB jX4_commandsRead 0 := ⟨List.mem_filter.mpr ⟨List.mem_of_getElem? (i := 797) (by decide +kernel), by decide +kernel⟩, List.mem_filter.mpr ⟨List.mem_of_getElem? (i := 93) (by decide +kernel), by decide +kernel⟩, by decide +kernel⟩
abbrev jX5_init : MD := (RX5, yX5_init, cX5_init, 1, none, { frames := 0, cells := 0, slots := 0, locals := 0 }, fun _ _ => True)
theorem plX5_init : pln jX5_init := ⟨by decide +kernel, rfl, rfl, rfl, fun _ _ => trivial⟩
set_option maxRecDepth 100000 in
theorem kbX5_init : KB jX5_init 0 := ⟨List.mem_filter.mpr ⟨List.mem_of_getElem? (i := 116) (by decide +kernel), by decide +kernel⟩, List.mem_filter.mpr ⟨List.mem_of_getElem? (i := 87) (by decide +kernel), by decide +kernel⟩, by decide +kernel⟩
abbrev jX5_clear : MD := (RX5, yX5_clear, cX5_clear, 1, none, { frames := 0, cells := 0, slots := 0, locals := 0 }, fun _ _ => True)
theorem plX5_clear : pln jX5_clear := ⟨by decide +kernel, rfl, rfl, rfl, fun _ _ => trivial⟩
set_option maxRecDepth 100000 in
theorem kbX5_clear : KB jX5_clear 0 := ⟨List.mem_filter.mpr ⟨List.mem_of_getElem? (i := 593) (by decide +kernel), by decide +kernel⟩, List.mem_filter.mpr ⟨List.mem_of_getElem? (i := 87) (by decide +kernel), by decide +kernel⟩, by decide +kernel⟩
abbrev jX5_add : MD := (RX5, yX5_add, cX5_add, 9, none, { frames := 1, cells := 0, slots := 0, locals := 21 }, fun _ _ => True)
theorem plX5_add : pln jX5_add := ⟨by decide +kernel, rfl, rfl, rfl, fun _ _ => trivial⟩
set_option maxRecDepth 100000 in
theorem kbX5_add : KB jX5_add 7 := ⟨List.mem_filter.mpr ⟨List.mem_of_getElem? (i := 423) (by decide +kernel), by decide +kernel⟩, List.mem_filter.mpr ⟨List.mem_of_getElem? (i := 87) (by decide +kernel), by decide +kernel⟩, by decide +kernel⟩
abbrev jX5_addKind : MD := (RX5, yX5_addKind, cX5_addKind, 2, some .boolean, { frames := 0, cells := 0, slots := 0, locals := 0 }, fun _ _ => True)
theorem plX5_addKind : pln jX5_addKind := ⟨by decide +kernel, rfl, rfl, rfl, fun _ _ => trivial⟩
set_option maxRecDepth 100000 in
theorem kbX5_addKind : KB jX5_addKind 1 := ⟨List.mem_filter.mpr ⟨List.mem_of_getElem? (i := 427) (by decide +kernel), by decide +kernel⟩, List.mem_filter.mpr ⟨List.mem_of_getElem? (i := 87) (by decide +kernel), by decide +kernel⟩, by decide +kernel⟩
abbrev jX5_dropLast : MD := (RX5, yX5_dropLast, cX5_dropLast, 1, none, { frames := 0, cells := 0, slots := 0, locals := 0 }, fun _ _ => True)
theorem plX5_dropLast : pln jX5_dropLast := ⟨by decide +kernel, rfl, rfl, rfl, fun _ _ => trivial⟩
set_option maxRecDepth 100000 in
theorem kbX5_dropLast : KB jX5_dropLast 0 := ⟨List.mem_filter.mpr ⟨List.mem_of_getElem? (i := 486) (by decide +kernel), by decide +kernel⟩, List.mem_filter.mpr ⟨List.mem_of_getElem? (i := 87) (by decide +kernel), by decide +kernel⟩, by decide +kernel⟩
abbrev jX5_become : MD := (RX5, yX5_become, cX5_become, 2, none, { frames := 1, cells := 0, slots := 0, locals := 40 }, fun _ _ => True)
theorem plX5_become : pln jX5_become := ⟨by decide +kernel, rfl, rfl, rfl, fun _ _ => trivial⟩
set_option maxRecDepth 100000 in
theorem kbX5_become : KB jX5_become 1 := ⟨List.mem_filter.mpr ⟨List.mem_of_getElem? (i := 613) (by decide +kernel), by decide +kernel⟩, List.mem_filter.mpr ⟨List.mem_of_getElem? (i := 87) (by decide +kernel), by decide +kernel⟩, by decide +kernel⟩
abbrev jX5_isOpen : MD := (RX5, yX5_isOpen, cX5_isOpen, 1, some .boolean, { frames := 0, cells := 0, slots := 0, locals := 0 }, fun _ _ => True)
theorem plX5_isOpen : pln jX5_isOpen := ⟨by decide +kernel, rfl, rfl, rfl, fun _ _ => trivial⟩
set_option maxRecDepth 100000 in
theorem kbX5_isOpen : KB jX5_isOpen 0 := ⟨List.mem_filter.mpr ⟨List.mem_of_getElem? (i := 439) (by decide +kernel), by decide +kernel⟩, List.mem_filter.mpr ⟨List.mem_of_getElem? (i := 87) (by decide +kernel), by decide +kernel⟩, by decide +kernel⟩
abbrev jX5_kindOf : MD := (RX5, yX5_kindOf, cX5_kindOf, 2, some .int, { frames := 0, cells := 0, slots := 0, locals := 0 }, fun _ _ => True)
theorem plX5_kindOf : pln jX5_kindOf := ⟨by decide +kernel, rfl, rfl, rfl, fun _ _ => trivial⟩
set_option maxRecDepth 100000 in
theorem kbX5_kindOf : KB jX5_kindOf 1 := ⟨List.mem_filter.mpr ⟨List.mem_of_getElem? (i := 470) (by decide +kernel), by decide +kernel⟩, List.mem_filter.mpr ⟨List.mem_of_getElem? (i := 87) (by decide +kernel), by decide +kernel⟩, by decide +kernel⟩
abbrev jX5_pointsOf : MD := (RX5, yX5_pointsOf, cX5_pointsOf, 2, some .int, { frames := 1, cells := 0, slots := 0, locals := 21 }, fun _ _ => True)
theorem plX5_pointsOf : pln jX5_pointsOf := ⟨by decide +kernel, rfl, rfl, rfl, fun _ _ => trivial⟩
set_option maxRecDepth 100000 in
theorem kbX5_pointsOf : KB jX5_pointsOf 1 := ⟨List.mem_filter.mpr ⟨List.mem_of_getElem? (i := 464) (by decide +kernel), by decide +kernel⟩, List.mem_filter.mpr ⟨List.mem_of_getElem? (i := 87) (by decide +kernel), by decide +kernel⟩, by decide +kernel⟩
abbrev jX5_numberOf : MD := (RX5, yX5_numberOf, cX5_numberOf, 4, some .int, { frames := 0, cells := 0, slots := 0, locals := 0 }, fun _ _ => True)
theorem plX5_numberOf : pln jX5_numberOf := ⟨by decide +kernel, rfl, rfl, rfl, fun _ _ => trivial⟩
set_option maxRecDepth 100000 in
theorem kbX5_numberOf : KB jX5_numberOf 2 := ⟨List.mem_filter.mpr ⟨List.mem_of_getElem? (i := 474) (by decide +kernel), by decide +kernel⟩, List.mem_filter.mpr ⟨List.mem_of_getElem? (i := 87) (by decide +kernel), by decide +kernel⟩, by decide +kernel⟩
abbrev jX5_endX : MD := (RX5, yX5_endX, cX5_endX, 2, some .int, { frames := 2, cells := 0, slots := 0, locals := 42 }, fun _ _ => True)
theorem plX5_endX : pln jX5_endX := ⟨by decide +kernel, rfl, rfl, rfl, fun _ _ => trivial⟩
set_option maxRecDepth 100000 in
theorem kbX5_endX : KB jX5_endX 1 := ⟨List.mem_filter.mpr ⟨List.mem_of_getElem? (i := 460) (by decide +kernel), by decide +kernel⟩, List.mem_filter.mpr ⟨List.mem_of_getElem? (i := 87) (by decide +kernel), by decide +kernel⟩, by decide +kernel⟩
abbrev jX5_endY : MD := (RX5, yX5_endY, cX5_endY, 2, some .int, { frames := 2, cells := 0, slots := 0, locals := 42 }, fun _ _ => True)
theorem plX5_endY : pln jX5_endY := ⟨by decide +kernel, rfl, rfl, rfl, fun _ _ => trivial⟩
set_option maxRecDepth 100000 in
theorem kbX5_endY : KB jX5_endY 1 := ⟨List.mem_filter.mpr ⟨List.mem_of_getElem? (i := 478) (by decide +kernel), by decide +kernel⟩, List.mem_filter.mpr ⟨List.mem_of_getElem? (i := 87) (by decide +kernel), by decide +kernel⟩, by decide +kernel⟩
abbrev jX5_control : MD := (RX5, yX5_control, cX5_control, 3, some .int, { frames := 2, cells := 0, slots := 0, locals := 42 }, fun _ _ => True)
theorem plX5_control : pln jX5_control := ⟨by decide +kernel, rfl, rfl, rfl, fun _ _ => trivial⟩
set_option maxRecDepth 100000 in
theorem kbX5_control : KB jX5_control 2 := ⟨List.mem_filter.mpr ⟨List.mem_of_getElem? (i := 572) (by decide +kernel), by decide +kernel⟩, List.mem_filter.mpr ⟨List.mem_of_getElem? (i := 87) (by decide +kernel), by decide +kernel⟩, by decide +kernel⟩
abbrev jX5_contourOf : MD := (RX5, yX5_contourOf, cX5_contourOf, 4, some .int, { frames := 0, cells := 0, slots := 0, locals := 0 }, fun _ _ => True)
theorem plX5_contourOf : pln jX5_contourOf := ⟨by decide +kernel, rfl, rfl, rfl, fun _ _ => trivial⟩
set_option maxRecDepth 100000 in
theorem kbX5_contourOf : KB jX5_contourOf 1 := ⟨List.mem_filter.mpr ⟨List.mem_of_getElem? (i := 496) (by decide +kernel), by decide +kernel⟩, List.mem_filter.mpr ⟨List.mem_of_getElem? (i := 87) (by decide +kernel), by decide +kernel⟩, by decide +kernel⟩
abbrev jX5_firstOf : MD := (RX5, yX5_firstOf, cX5_firstOf, 4, some .int, { frames := 0, cells := 0, slots := 0, locals := 0 }, fun _ _ => True)
theorem plX5_firstOf : pln jX5_firstOf := ⟨by decide +kernel, rfl, rfl, rfl, fun _ _ => trivial⟩
set_option maxRecDepth 100000 in
theorem kbX5_firstOf : KB jX5_firstOf 1 := ⟨List.mem_filter.mpr ⟨List.mem_of_getElem? (i := 456) (by decide +kernel), by decide +kernel⟩, List.mem_filter.mpr ⟨List.mem_of_getElem? (i := 87) (by decide +kernel), by decide +kernel⟩, by decide +kernel⟩
abbrev jX5_behind : MD := (RX5, yX5_behind, cX5_behind, 2, some .int, { frames := 1, cells := 0, slots := 0, locals := 23 }, fun _ _ => True)
theorem plX5_behind : pln jX5_behind := ⟨by decide +kernel, rfl, rfl, rfl, fun _ _ => trivial⟩
set_option maxRecDepth 100000 in
theorem kbX5_behind : KB jX5_behind 1 := ⟨List.mem_filter.mpr ⟨List.mem_of_getElem? (i := 598) (by decide +kernel), by decide +kernel⟩, List.mem_filter.mpr ⟨List.mem_of_getElem? (i := 87) (by decide +kernel), by decide +kernel⟩, by decide +kernel⟩
abbrev jX5_areClosed : MD := (RX5, yX5_areClosed, cX5_areClosed, 4, some .boolean, { frames := 2, cells := 0, slots := 0, locals := 44 }, fun _ _ => True)
theorem plX5_areClosed : pln jX5_areClosed := ⟨by decide +kernel, rfl, rfl, rfl, fun _ _ => trivial⟩
set_option maxRecDepth 100000 in
theorem kbX5_areClosed : KB jX5_areClosed 2 := ⟨List.mem_filter.mpr ⟨List.mem_of_getElem? (i := 880) (by decide +kernel), by decide +kernel⟩, List.mem_filter.mpr ⟨List.mem_of_getElem? (i := 87) (by decide +kernel), by decide +kernel⟩, by decide +kernel⟩
abbrev jX5_isInRange : MD := (RX5, yX5_isInRange, cX5_isInRange, 4, some .boolean, { frames := 2, cells := 0, slots := 0, locals := 42 }, fun _ _ => True)
theorem plX5_isInRange : pln jX5_isInRange := ⟨by decide +kernel, rfl, rfl, rfl, fun _ _ => trivial⟩
set_option maxRecDepth 100000 in
theorem kbX5_isInRange : KB jX5_isInRange 0 := ⟨List.mem_filter.mpr ⟨List.mem_of_getElem? (i := 630) (by decide +kernel), by decide +kernel⟩, List.mem_filter.mpr ⟨List.mem_of_getElem? (i := 87) (by decide +kernel), by decide +kernel⟩, by decide +kernel⟩
abbrev jX5_becomeTransformed : MD := (RX5, yX5_becomeTransformed, cX5_becomeTransformed, 11, none, { frames := 2, cells := 0, slots := 0, locals := 61 }, fun _ _ => True)
theorem plX5_becomeTransformed : pln jX5_becomeTransformed := ⟨by decide +kernel, rfl, rfl, rfl, fun _ _ => trivial⟩
set_option maxRecDepth 100000 in
theorem kbX5_becomeTransformed : KB jX5_becomeTransformed 7 := ⟨List.mem_filter.mpr ⟨List.mem_of_getElem? (i := 625) (by decide +kernel), by decide +kernel⟩, List.mem_filter.mpr ⟨List.mem_of_getElem? (i := 87) (by decide +kernel), by decide +kernel⟩, by decide +kernel⟩
abbrev jX5_becomeReversed : MD := (RX5, yX5_becomeReversed, cX5_becomeReversed, 8, none, { frames := 4, cells := 0, slots := 0, locals := 88 }, fun _ _ => True)
theorem plX5_becomeReversed : pln jX5_becomeReversed := ⟨by decide +kernel, rfl, rfl, rfl, fun _ _ => trivial⟩
set_option maxRecDepth 100000 in
theorem kbX5_becomeReversed : KB jX5_becomeReversed 2 := ⟨List.mem_filter.mpr ⟨List.mem_of_getElem? (i := 589) (by decide +kernel), by decide +kernel⟩, List.mem_filter.mpr ⟨List.mem_of_getElem? (i := 87) (by decide +kernel), by decide +kernel⟩, by decide +kernel⟩
abbrev jX5_addCopies : MD := (RX5, yX5_addCopies, cX5_addCopies, 5, none, { frames := 2, cells := 0, slots := 0, locals := 49 }, fun _ _ => True)
theorem plX5_addCopies : pln jX5_addCopies := ⟨by decide +kernel, rfl, rfl, rfl, fun _ _ => trivial⟩
set_option maxRecDepth 100000 in
theorem kbX5_addCopies : KB jX5_addCopies 3 := ⟨List.mem_filter.mpr ⟨List.mem_of_getElem? (i := 602) (by decide +kernel), by decide +kernel⟩, List.mem_filter.mpr ⟨List.mem_of_getElem? (i := 87) (by decide +kernel), by decide +kernel⟩, by decide +kernel⟩
abbrev jX5_addBackward : MD := (RX5, yX5_addBackward, cX5_addBackward, 6, none, { frames := 3, cells := 0, slots := 0, locals := 63 }, fun _ _ => True)
theorem plX5_addBackward : pln jX5_addBackward := ⟨by decide +kernel, rfl, rfl, rfl, fun _ _ => trivial⟩
set_option maxRecDepth 100000 in
theorem kbX5_addBackward : KB jX5_addBackward 2 := ⟨List.mem_filter.mpr ⟨List.mem_of_getElem? (i := 609) (by decide +kernel), by decide +kernel⟩, List.mem_filter.mpr ⟨List.mem_of_getElem? (i := 87) (by decide +kernel), by decide +kernel⟩, by decide +kernel⟩
abbrev jX6_init : MD := (RX6, yX6_init, cX6_init, 1, none, { frames := 2, cells := 0, slots := 0, locals := 40 }, fun _ _ => True)
theorem plX6_init : pln jX6_init := ⟨by decide +kernel, rfl, rfl, rfl, fun _ _ => trivial⟩
set_option maxRecDepth 100000 in
theorem kbX6_init : KB jX6_init 0 := ⟨List.mem_filter.mpr ⟨List.mem_of_getElem? (i := 287) (by decide +kernel), by decide +kernel⟩, List.mem_filter.mpr ⟨List.mem_of_getElem? (i := 94) (by decide +kernel), by decide +kernel⟩, by decide +kernel⟩
abbrev jX6_begin : MD := (RX6, yX6_begin, cX6_begin, 1, none, { frames := 1, cells := 0, slots := 0, locals := 20 }, fun _ _ => True)
theorem plX6_begin : pln jX6_begin := ⟨by decide +kernel, rfl, rfl, rfl, fun _ _ => trivial⟩
set_option maxRecDepth 100000 in
theorem kbX6_begin : KB jX6_begin 0 := ⟨List.mem_filter.mpr ⟨List.mem_of_getElem? (i := 292) (by decide +kernel), by decide +kernel⟩, List.mem_filter.mpr ⟨List.mem_of_getElem? (i := 94) (by decide +kernel), by decide +kernel⟩, by decide +kernel⟩
abbrev jX6_beginNumber : MD := (RX6, yX6_beginNumber, cX6_beginNumber, 1, none, { frames := 0, cells := 0, slots := 0, locals := 0 }, fun _ _ => True)
theorem plX6_beginNumber : pln jX6_beginNumber := ⟨by decide +kernel, rfl, rfl, rfl, fun _ _ => trivial⟩
set_option maxRecDepth 100000 in
theorem kbX6_beginNumber : KB jX6_beginNumber 0 := ⟨List.mem_filter.mpr ⟨List.mem_of_getElem? (i := 296) (by decide +kernel), by decide +kernel⟩, List.mem_filter.mpr ⟨List.mem_of_getElem? (i := 94) (by decide +kernel), by decide +kernel⟩, by decide +kernel⟩
abbrev jX6_takes : MD := (RX6, yX6_takes, cX6_takes, 3, some .boolean, { frames := 8, cells := 0, slots := 0, locals := 183 }, fun _ _ => True)
theorem plX6_takes : pln jX6_takes := ⟨by decide +kernel, rfl, rfl, rfl, fun _ _ => trivial⟩
set_option maxRecDepth 100000 in
theorem kbX6_takes : KB jX6_takes 2 := ⟨List.mem_filter.mpr ⟨List.mem_of_getElem? (i := 657) (by decide +kernel), by decide +kernel⟩, List.mem_filter.mpr ⟨List.mem_of_getElem? (i := 94) (by decide +kernel), by decide +kernel⟩, by decide +kernel⟩
abbrev jX6_takesDigit : MD := (RX6, yX6_takesDigit, cX6_takesDigit, 4, some .boolean, { frames := 0, cells := 0, slots := 0, locals := 0 }, fun _ _ => True)
theorem plX6_takesDigit : pln jX6_takesDigit := ⟨by decide +kernel, rfl, rfl, rfl, fun _ _ => trivial⟩
set_option maxRecDepth 100000 in
theorem kbX6_takesDigit : KB jX6_takesDigit 1 := ⟨List.mem_filter.mpr ⟨List.mem_of_getElem? (i := 661) (by decide +kernel), by decide +kernel⟩, List.mem_filter.mpr ⟨List.mem_of_getElem? (i := 94) (by decide +kernel), by decide +kernel⟩, by decide +kernel⟩
abbrev jX6_takesMinus : MD := (RX6, yX6_takesMinus, cX6_takesMinus, 1, some .boolean, { frames := 0, cells := 0, slots := 0, locals := 0 }, fun _ _ => True)
theorem plX6_takesMinus : pln jX6_takesMinus := ⟨by decide +kernel, rfl, rfl, rfl, fun _ _ => trivial⟩
set_option maxRecDepth 100000 in
theorem kbX6_takesMinus : KB jX6_takesMinus 0 := ⟨List.mem_filter.mpr ⟨List.mem_of_getElem? (i := 665) (by decide +kernel), by decide +kernel⟩, List.mem_filter.mpr ⟨List.mem_of_getElem? (i := 94) (by decide +kernel), by decide +kernel⟩, by decide +kernel⟩
abbrev jX6_takesComma : MD := (RX6, yX6_takesComma, cX6_takesComma, 1, some .boolean, { frames := 2, cells := 0, slots := 0, locals := 40 }, fun _ _ => True)
theorem plX6_takesComma : pln jX6_takesComma := ⟨by decide +kernel, rfl, rfl, rfl, fun _ _ => trivial⟩
set_option maxRecDepth 100000 in
theorem kbX6_takesComma : KB jX6_takesComma 0 := ⟨List.mem_filter.mpr ⟨List.mem_of_getElem? (i := 669) (by decide +kernel), by decide +kernel⟩, List.mem_filter.mpr ⟨List.mem_of_getElem? (i := 94) (by decide +kernel), by decide +kernel⟩, by decide +kernel⟩
abbrev jX6_takesKind : MD := (RX6, yX6_takesKind, cX6_takesKind, 5, some .boolean, { frames := 7, cells := 0, slots := 0, locals := 159 }, fun _ _ => True)
theorem plX6_takesKind : pln jX6_takesKind := ⟨by decide +kernel, rfl, rfl, rfl, fun _ _ => trivial⟩
set_option maxRecDepth 100000 in
theorem kbX6_takesKind : KB jX6_takesKind 2 := ⟨List.mem_filter.mpr ⟨List.mem_of_getElem? (i := 677) (by decide +kernel), by decide +kernel⟩, List.mem_filter.mpr ⟨List.mem_of_getElem? (i := 94) (by decide +kernel), by decide +kernel⟩, by decide +kernel⟩
abbrev jX6_canBegin : MD := (RX6, yX6_canBegin, cX6_canBegin, 2, some .boolean, { frames := 1, cells := 0, slots := 0, locals := 20 }, fun _ _ => True)
theorem plX6_canBegin : pln jX6_canBegin := ⟨by decide +kernel, rfl, rfl, rfl, fun _ _ => trivial⟩
set_option maxRecDepth 100000 in
theorem kbX6_canBegin : KB jX6_canBegin 1 := ⟨List.mem_filter.mpr ⟨List.mem_of_getElem? (i := 769) (by decide +kernel), by decide +kernel⟩, List.mem_filter.mpr ⟨List.mem_of_getElem? (i := 94) (by decide +kernel), by decide +kernel⟩, by decide +kernel⟩
abbrev jX6_isWhole : MD := (RX6, yX6_isWhole, cX6_isWhole, 1, some .boolean, { frames := 0, cells := 0, slots := 0, locals := 0 }, fun _ _ => True)
theorem plX6_isWhole : pln jX6_isWhole := ⟨by decide +kernel, rfl, rfl, rfl, fun _ _ => trivial⟩
set_option maxRecDepth 100000 in
theorem kbX6_isWhole : KB jX6_isWhole 0 := ⟨List.mem_filter.mpr ⟨List.mem_of_getElem? (i := 773) (by decide +kernel), by decide +kernel⟩, List.mem_filter.mpr ⟨List.mem_of_getElem? (i := 94) (by decide +kernel), by decide +kernel⟩, by decide +kernel⟩
abbrev jX6_finishNumber : MD := (RX6, yX6_finishNumber, cX6_finishNumber, 1, none, { frames := 1, cells := 0, slots := 0, locals := 20 }, fun _ _ => True)
theorem plX6_finishNumber : pln jX6_finishNumber := ⟨by decide +kernel, rfl, rfl, rfl, fun _ _ => trivial⟩
set_option maxRecDepth 100000 in
theorem kbX6_finishNumber : KB jX6_finishNumber 0 := ⟨List.mem_filter.mpr ⟨List.mem_of_getElem? (i := 673) (by decide +kernel), by decide +kernel⟩, List.mem_filter.mpr ⟨List.mem_of_getElem? (i := 94) (by decide +kernel), by decide +kernel⟩, by decide +kernel⟩
abbrev jX6_finishCommand : MD := (RX6, yX6_finishCommand, cX6_finishCommand, 2, none, { frames := 2, cells := 0, slots := 0, locals := 49 }, fun _ _ => True)
theorem plX6_finishCommand : pln jX6_finishCommand := ⟨by decide +kernel, rfl, rfl, rfl, fun _ _ => trivial⟩
set_option maxRecDepth 100000 in
theorem kbX6_finishCommand : KB jX6_finishCommand 1 := ⟨List.mem_filter.mpr ⟨List.mem_of_getElem? (i := 777) (by decide +kernel), by decide +kernel⟩, List.mem_filter.mpr ⟨List.mem_of_getElem? (i := 94) (by decide +kernel), by decide +kernel⟩, by decide +kernel⟩
abbrev jX6_shiftNumbers : MD := (RX6, yX6_shiftNumbers, cX6_shiftNumbers, 2, none, { frames := 0, cells := 0, slots := 0, locals := 0 }, fun _ _ => True)
theorem plX6_shiftNumbers : pln jX6_shiftNumbers := ⟨by decide +kernel, rfl, rfl, rfl, fun _ _ => trivial⟩
set_option maxRecDepth 100000 in
theorem kbX6_shiftNumbers : KB jX6_shiftNumbers 0 := ⟨List.mem_filter.mpr ⟨List.mem_of_getElem? (i := 782) (by decide +kernel), by decide +kernel⟩, List.mem_filter.mpr ⟨List.mem_of_getElem? (i := 94) (by decide +kernel), by decide +kernel⟩, by decide +kernel⟩
abbrev jX7_init : MD := (RX7, yX7_init, cX7_init, 1, none, { frames := 0, cells := 0, slots := 0, locals := 0 }, fun _ _ => True)
theorem plX7_init : pln jX7_init := ⟨by decide +kernel, rfl, rfl, rfl, fun _ _ => trivial⟩
set_option maxRecDepth 100000 in
theorem kbX7_init : KB jX7_init 0 := ⟨List.mem_filter.mpr ⟨List.mem_of_getElem? (i := 196) (by decide +kernel), by decide +kernel⟩, List.mem_filter.mpr ⟨List.mem_of_getElem? (i := 90) (by decide +kernel), by decide +kernel⟩, by decide +kernel⟩
abbrev jX7_simplify : MD := (RX7, yX7_simplify, cX7_simplify, 8, none, { frames := 2, cells := 0, slots := 0, locals := 63 }, fun _ _ => True)
theorem plX7_simplify : pln jX7_simplify := ⟨by decide +kernel, rfl, rfl, rfl, fun _ _ => trivial⟩
set_option maxRecDepth 100000 in
theorem kbX7_simplify : KB jX7_simplify 3 := ⟨List.mem_filter.mpr ⟨List.mem_of_getElem? (i := 986) (by decide +kernel), by decide +kernel⟩, List.mem_filter.mpr ⟨List.mem_of_getElem? (i := 90) (by decide +kernel), by decide +kernel⟩, by decide +kernel⟩
abbrev jX7_nextKept : MD := (RX7, yX7_nextKept, cX7_nextKept, 3, some .int, { frames := 0, cells := 0, slots := 0, locals := 0 }, fun _ _ => True)
theorem plX7_nextKept : pln jX7_nextKept := ⟨by decide +kernel, rfl, rfl, rfl, fun _ _ => trivial⟩
set_option maxRecDepth 100000 in
theorem kbX7_nextKept : KB jX7_nextKept 1 := ⟨List.mem_filter.mpr ⟨List.mem_of_getElem? (i := 992) (by decide +kernel), by decide +kernel⟩, List.mem_filter.mpr ⟨List.mem_of_getElem? (i := 90) (by decide +kernel), by decide +kernel⟩, by decide +kernel⟩
abbrev jX7_worstBetween : MD := (RX7, yX7_worstBetween, cX7_worstBetween, 11, some .int, { frames := 1, cells := 0, slots := 0, locals := 33 }, fun _ _ => True)
theorem plX7_worstBetween : pln jX7_worstBetween := ⟨by decide +kernel, rfl, rfl, rfl, fun _ _ => trivial⟩
set_option maxRecDepth 100000 in
theorem kbX7_worstBetween : KB jX7_worstBetween 4 := ⟨List.mem_filter.mpr ⟨List.mem_of_getElem? (i := 996) (by decide +kernel), by decide +kernel⟩, List.mem_filter.mpr ⟨List.mem_of_getElem? (i := 90) (by decide +kernel), by decide +kernel⟩, by decide +kernel⟩
abbrev jX7_kept : MD := (RX7, yX7_kept, cX7_kept, 3, some .int, { frames := 0, cells := 0, slots := 0, locals := 0 }, fun _ _ => True)
theorem plX7_kept : pln jX7_kept := ⟨by decide +kernel, rfl, rfl, rfl, fun _ _ => trivial⟩
set_option maxRecDepth 100000 in
theorem kbX7_kept : KB jX7_kept 0 := ⟨List.mem_filter.mpr ⟨List.mem_of_getElem? (i := 1008) (by decide +kernel), by decide +kernel⟩, List.mem_filter.mpr ⟨List.mem_of_getElem? (i := 90) (by decide +kernel), by decide +kernel⟩, by decide +kernel⟩
abbrev jX7_keptVertex : MD := (RX7, yX7_keptVertex, cX7_keptVertex, 4, some .int, { frames := 0, cells := 0, slots := 0, locals := 0 }, fun _ _ => True)
theorem plX7_keptVertex : pln jX7_keptVertex := ⟨by decide +kernel, rfl, rfl, rfl, fun _ _ => trivial⟩
set_option maxRecDepth 100000 in
theorem kbX7_keptVertex : KB jX7_keptVertex 1 := ⟨List.mem_filter.mpr ⟨List.mem_of_getElem? (i := 1012) (by decide +kernel), by decide +kernel⟩, List.mem_filter.mpr ⟨List.mem_of_getElem? (i := 90) (by decide +kernel), by decide +kernel⟩, by decide +kernel⟩
abbrev jX8_init : MD := (RX8, yX8_init, cX8_init, 1, none, { frames := 0, cells := 0, slots := 0, locals := 0 }, fun _ _ => True)
theorem plX8_init : pln jX8_init := ⟨by decide +kernel, rfl, rfl, rfl, fun _ _ => trivial⟩
set_option maxRecDepth 100000 in
theorem kbX8_init : KB jX8_init 0 := ⟨List.mem_filter.mpr ⟨List.mem_of_getElem? (i := 354) (by decide +kernel), by decide +kernel⟩, List.mem_filter.mpr ⟨List.mem_of_getElem? (i := 95) (by decide +kernel), by decide +kernel⟩, by decide +kernel⟩
abbrev jX8_characterAt : MD := (RX8, yX8_characterAt, cX8_characterAt, 2, some .int, { frames := 0, cells := 0, slots := 0, locals := 0 }, fun _ _ => True)
theorem plX8_characterAt : pln jX8_characterAt := ⟨by decide +kernel, rfl, rfl, rfl, fun _ _ => trivial⟩
set_option maxRecDepth 100000 in
theorem kbX8_characterAt : KB jX8_characterAt 1 := ⟨List.mem_filter.mpr ⟨List.mem_of_getElem? (i := 846) (by decide +kernel), by decide +kernel⟩, List.mem_filter.mpr ⟨List.mem_of_getElem? (i := 95) (by decide +kernel), by decide +kernel⟩, by decide +kernel⟩
abbrev jX8_spellOut : MD := (RX8, yX8_spellOut, cX8_spellOut, 4, none, { frames := 5, cells := 0, slots := 0, locals := 106 }, fun _ _ => True)
theorem plX8_spellOut : pln jX8_spellOut := ⟨by decide +kernel, rfl, rfl, rfl, fun _ _ => trivial⟩
set_option maxRecDepth 100000 in
theorem kbX8_spellOut : KB jX8_spellOut 1 := ⟨List.mem_filter.mpr ⟨List.mem_of_getElem? (i := 805) (by decide +kernel), by decide +kernel⟩, List.mem_filter.mpr ⟨List.mem_of_getElem? (i := 95) (by decide +kernel), by decide +kernel⟩, by decide +kernel⟩
abbrev jX8_spellNumbers : MD := (RX8, yX8_spellNumbers, cX8_spellNumbers, 5, none, { frames := 2, cells := 0, slots := 0, locals := 63 }, fun _ _ => True)
theorem plX8_spellNumbers : pln jX8_spellNumbers := ⟨by decide +kernel, rfl, rfl, rfl, fun _ _ => trivial⟩
set_option maxRecDepth 100000 in
theorem kbX8_spellNumbers : KB jX8_spellNumbers 2 := ⟨List.mem_filter.mpr ⟨List.mem_of_getElem? (i := 835) (by decide +kernel), by decide +kernel⟩, List.mem_filter.mpr ⟨List.mem_of_getElem? (i := 95) (by decide +kernel), by decide +kernel⟩, by decide +kernel⟩
abbrev jX8_spellNumber : MD := (RX8, yX8_spellNumber, cX8_spellNumber, 4, none, { frames := 1, cells := 0, slots := 0, locals := 40 }, fun _ _ => True)
theorem plX8_spellNumber : pln jX8_spellNumber := ⟨by decide +kernel, rfl, rfl, rfl, fun _ _ => trivial⟩
set_option maxRecDepth 100000 in
theorem kbX8_spellNumber : KB jX8_spellNumber 1 := ⟨List.mem_filter.mpr ⟨List.mem_of_getElem? (i := 841) (by decide +kernel), by decide +kernel⟩, List.mem_filter.mpr ⟨List.mem_of_getElem? (i := 95) (by decide +kernel), by decide +kernel⟩, by decide +kernel⟩
abbrev jX8_append : MD := (RX8, yX8_append, cX8_append, 2, none, { frames := 0, cells := 0, slots := 0, locals := 0 }, fun _ _ => True)
theorem plX8_append : pln jX8_append := ⟨by decide +kernel, rfl, rfl, rfl, fun _ _ => trivial⟩
set_option maxRecDepth 100000 in
theorem kbX8_append : KB jX8_append 1 := ⟨List.mem_filter.mpr ⟨List.mem_of_getElem? (i := 831) (by decide +kernel), by decide +kernel⟩, List.mem_filter.mpr ⟨List.mem_of_getElem? (i := 95) (by decide +kernel), by decide +kernel⟩, by decide +kernel⟩
abbrev jX9_init : MD := (RX9, yX9_init, cX9_init, 1, none, { frames := 4, cells := 0, slots := 0, locals := 80 }, fun _ _ => True)
theorem plX9_init : pln jX9_init := ⟨by decide +kernel, rfl, rfl, rfl, fun _ _ => trivial⟩
set_option maxRecDepth 100000 in
theorem kbX9_init : KB jX9_init 0 := ⟨List.mem_filter.mpr ⟨List.mem_of_getElem? (i := 108) (by decide +kernel), by decide +kernel⟩, List.mem_filter.mpr ⟨List.mem_of_getElem? (i := 86) (by decide +kernel), by decide +kernel⟩, by decide +kernel⟩
abbrev jX9_move : MD := (RX9, yX9_move, cX9_move, 3, some .int, { frames := 3, cells := 0, slots := 0, locals := 76 }, fun _ _ => True)
theorem plX9_move : pln jX9_move := ⟨by decide +kernel, rfl, rfl, rfl, fun _ _ => trivial⟩
set_option maxRecDepth 100000 in
theorem kbX9_move : KB jX9_move 2 := ⟨List.mem_filter.mpr ⟨List.mem_of_getElem? (i := 407) (by decide +kernel), by decide +kernel⟩, List.mem_filter.mpr ⟨List.mem_of_getElem? (i := 86) (by decide +kernel), by decide +kernel⟩, by decide +kernel⟩
abbrev jX9_line : MD := (RX9, yX9_line, cX9_line, 3, some .int, { frames := 4, cells := 0, slots := 0, locals := 103 }, fun _ _ => True)
theorem plX9_line : pln jX9_line := ⟨by decide +kernel, rfl, rfl, rfl, fun _ _ => trivial⟩
set_option maxRecDepth 100000 in
theorem kbX9_line : KB jX9_line 2 := ⟨List.mem_filter.mpr ⟨List.mem_of_getElem? (i := 431) (by decide +kernel), by decide +kernel⟩, List.mem_filter.mpr ⟨List.mem_of_getElem? (i := 86) (by decide +kernel), by decide +kernel⟩, by decide +kernel⟩
abbrev jX9_quad : MD := (RX9, yX9_quad, cX9_quad, 5, some .int, { frames := 4, cells := 0, slots := 0, locals := 103 }, fun _ _ => True)
theorem plX9_quad : pln jX9_quad := ⟨by decide +kernel, rfl, rfl, rfl, fun _ _ => trivial⟩
set_option maxRecDepth 100000 in
theorem kbX9_quad : KB jX9_quad 4 := ⟨List.mem_filter.mpr ⟨List.mem_of_getElem? (i := 444) (by decide +kernel), by decide +kernel⟩, List.mem_filter.mpr ⟨List.mem_of_getElem? (i := 86) (by decide +kernel), by decide +kernel⟩, by decide +kernel⟩
abbrev jX9_cubic : MD := (RX9, yX9_cubic, cX9_cubic, 7, some .int, { frames := 4, cells := 0, slots := 0, locals := 103 }, fun _ _ => True)
theorem plX9_cubic : pln jX9_cubic := ⟨by decide +kernel, rfl, rfl, rfl, fun _ _ => trivial⟩
set_option maxRecDepth 100000 in
theorem kbX9_cubic : KB jX9_cubic 6 := ⟨List.mem_filter.mpr ⟨List.mem_of_getElem? (i := 448) (by decide +kernel), by decide +kernel⟩, List.mem_filter.mpr ⟨List.mem_of_getElem? (i := 86) (by decide +kernel), by decide +kernel⟩, by decide +kernel⟩
abbrev jX9_close : MD := (RX9, yX9_close, cX9_close, 2, some .int, { frames := 4, cells := 0, slots := 0, locals := 103 }, fun _ _ => True)
theorem plX9_close : pln jX9_close := ⟨by decide +kernel, rfl, rfl, rfl, fun _ _ => trivial⟩
set_option maxRecDepth 100000 in
theorem kbX9_close : KB jX9_close 0 := ⟨List.mem_filter.mpr ⟨List.mem_of_getElem? (i := 452) (by decide +kernel), by decide +kernel⟩, List.mem_filter.mpr ⟨List.mem_of_getElem? (i := 86) (by decide +kernel), by decide +kernel⟩, by decide +kernel⟩
abbrev jX9_removeLast : MD := (RX9, yX9_removeLast, cX9_removeLast, 1, some .int, { frames := 1, cells := 0, slots := 0, locals := 20 }, fun _ _ => True)
theorem plX9_removeLast : pln jX9_removeLast := ⟨by decide +kernel, rfl, rfl, rfl, fun _ _ => trivial⟩
set_option maxRecDepth 100000 in
theorem kbX9_removeLast : KB jX9_removeLast 0 := ⟨List.mem_filter.mpr ⟨List.mem_of_getElem? (i := 482) (by decide +kernel), by decide +kernel⟩, List.mem_filter.mpr ⟨List.mem_of_getElem? (i := 86) (by decide +kernel), by decide +kernel⟩, by decide +kernel⟩
abbrev jX9_command : MD := (RX9, yX9_command, cX9_command, 3, some .int, { frames := 6, cells := 0, slots := 0, locals := 158 }, fun _ _ => True)
theorem plX9_command : pln jX9_command := ⟨by decide +kernel, rfl, rfl, rfl, fun _ _ => trivial⟩
set_option maxRecDepth 100000 in
theorem kbX9_command : KB jX9_command 2 := ⟨List.mem_filter.mpr ⟨List.mem_of_getElem? (i := 490) (by decide +kernel), by decide +kernel⟩, List.mem_filter.mpr ⟨List.mem_of_getElem? (i := 86) (by decide +kernel), by decide +kernel⟩, by decide +kernel⟩
abbrev jX9_setTolerance : MD := (RX9, yX9_setTolerance, cX9_setTolerance, 3, some .int, { frames := 1, cells := 0, slots := 0, locals := 22 }, fun _ _ => True)
theorem plX9_setTolerance : pln jX9_setTolerance := ⟨by decide +kernel, rfl, rfl, rfl, fun _ _ => trivial⟩
set_option maxRecDepth 100000 in
theorem kbX9_setTolerance : KB jX9_setTolerance 1 := ⟨List.mem_filter.mpr ⟨List.mem_of_getElem? (i := 577) (by decide +kernel), by decide +kernel⟩, List.mem_filter.mpr ⟨List.mem_of_getElem? (i := 86) (by decide +kernel), by decide +kernel⟩, by decide +kernel⟩
abbrev jX9_reverse : MD := (RX9, yX9_reverse, cX9_reverse, 2, some .int, { frames := 5, cells := 0, slots := 0, locals := 115 }, fun _ _ => True)
theorem plX9_reverse : pln jX9_reverse := ⟨by decide +kernel, rfl, rfl, rfl, fun _ _ => trivial⟩
set_option maxRecDepth 100000 in
theorem kbX9_reverse : KB jX9_reverse 1 := ⟨List.mem_filter.mpr ⟨List.mem_of_getElem? (i := 581) (by decide +kernel), by decide +kernel⟩, List.mem_filter.mpr ⟨List.mem_of_getElem? (i := 86) (by decide +kernel), by decide +kernel⟩, by decide +kernel⟩
abbrev jX9_transform : MD := (RX9, yX9_transform, cX9_transform, 8, some .int, { frames := 3, cells := 0, slots := 0, locals := 91 }, fun _ _ => True)
theorem plX9_transform : pln jX9_transform := ⟨by decide +kernel, rfl, rfl, rfl, fun _ _ => trivial⟩
set_option maxRecDepth 100000 in
theorem kbX9_transform : KB jX9_transform 6 := ⟨List.mem_filter.mpr ⟨List.mem_of_getElem? (i := 621) (by decide +kernel), by decide +kernel⟩, List.mem_filter.mpr ⟨List.mem_of_getElem? (i := 86) (by decide +kernel), by decide +kernel⟩, by decide +kernel⟩
abbrev jX9_say : MD := (RX9, yX9_say, cX9_say, 2, some .int, { frames := 1, cells := 0, slots := 0, locals := 22 }, fun _ _ => True)
theorem plX9_say : pln jX9_say := ⟨by decide +kernel, rfl, rfl, rfl, fun _ _ => trivial⟩
set_option maxRecDepth 100000 in
theorem kbX9_say : KB jX9_say 1 := ⟨List.mem_filter.mpr ⟨List.mem_of_getElem? (i := 635) (by decide +kernel), by decide +kernel⟩, List.mem_filter.mpr ⟨List.mem_of_getElem? (i := 86) (by decide +kernel), by decide +kernel⟩, by decide +kernel⟩
abbrev jX9_wipe : MD := (RX9, yX9_wipe, cX9_wipe, 2, some .int, { frames := 0, cells := 0, slots := 0, locals := 0 }, fun _ _ => True)
theorem plX9_wipe : pln jX9_wipe := ⟨by decide +kernel, rfl, rfl, rfl, fun _ _ => trivial⟩
set_option maxRecDepth 100000 in
theorem kbX9_wipe : KB jX9_wipe 0 := ⟨List.mem_filter.mpr ⟨List.mem_of_getElem? (i := 643) (by decide +kernel), by decide +kernel⟩, List.mem_filter.mpr ⟨List.mem_of_getElem? (i := 86) (by decide +kernel), by decide +kernel⟩, by decide +kernel⟩
abbrev jX9_fault : MD := (RX9, yX9_fault, cX9_fault, 1, some .int, { frames := 10, cells := 0, slots := 0, locals := 227 }, fun _ _ => True)
theorem plX9_fault : pln jX9_fault := ⟨by decide +kernel, rfl, rfl, rfl, fun _ _ => trivial⟩
set_option maxRecDepth 100000 in
theorem kbX9_fault : KB jX9_fault 0 := ⟨List.mem_filter.mpr ⟨List.mem_of_getElem? (i := 647) (by decide +kernel), by decide +kernel⟩, List.mem_filter.mpr ⟨List.mem_of_getElem? (i := 86) (by decide +kernel), by decide +kernel⟩, by decide +kernel⟩
abbrev jX9_load : MD := (RX9, yX9_load, cX9_load, 1, some .int, { frames := 10, cells := 0, slots := 0, locals := 227 }, fun _ _ => True)
theorem plX9_load : pln jX9_load := ⟨by decide +kernel, rfl, rfl, rfl, fun _ _ => trivial⟩
set_option maxRecDepth 100000 in
theorem kbX9_load : KB jX9_load 0 := ⟨List.mem_filter.mpr ⟨List.mem_of_getElem? (i := 791) (by decide +kernel), by decide +kernel⟩, List.mem_filter.mpr ⟨List.mem_of_getElem? (i := 86) (by decide +kernel), by decide +kernel⟩, by decide +kernel⟩
abbrev jX9_spell : MD := (RX9, yX9_spell, cX9_spell, 2, some .int, { frames := 6, cells := 0, slots := 0, locals := 129 }, fun _ _ => True)
theorem plX9_spell : pln jX9_spell := ⟨by decide +kernel, rfl, rfl, rfl, fun _ _ => trivial⟩
set_option maxRecDepth 100000 in
theorem kbX9_spell : KB jX9_spell 1 := ⟨List.mem_filter.mpr ⟨List.mem_of_getElem? (i := 801) (by decide +kernel), by decide +kernel⟩, List.mem_filter.mpr ⟨List.mem_of_getElem? (i := 86) (by decide +kernel), by decide +kernel⟩, by decide +kernel⟩
abbrev jX9_measure : MD := (RX9, yX9_measure, cX9_measure, 6, some .int, { frames := 6, cells := 0, slots := 0, locals := 158 }, fun _ _ => True)
theorem plX9_measure : pln jX9_measure := ⟨by decide +kernel, rfl, rfl, rfl, fun _ _ => trivial⟩
set_option maxRecDepth 100000 in
theorem kbX9_measure : KB jX9_measure 2 := ⟨List.mem_filter.mpr ⟨List.mem_of_getElem? (i := 851) (by decide +kernel), by decide +kernel⟩, List.mem_filter.mpr ⟨List.mem_of_getElem? (i := 86) (by decide +kernel), by decide +kernel⟩, by decide +kernel⟩
abbrev jX9_vertex : MD := (RX9, yX9_vertex, cX9_vertex, 5, some .int, { frames := 6, cells := 0, slots := 0, locals := 158 }, fun _ _ => True)
theorem plX9_vertex : pln jX9_vertex := ⟨by decide +kernel, rfl, rfl, rfl, fun _ _ => trivial⟩
set_option maxRecDepth 100000 in
theorem kbX9_vertex : KB jX9_vertex 3 := ⟨List.mem_filter.mpr ⟨List.mem_of_getElem? (i := 884) (by decide +kernel), by decide +kernel⟩, List.mem_filter.mpr ⟨List.mem_of_getElem? (i := 86) (by decide +kernel), by decide +kernel⟩, by decide +kernel⟩
abbrev jX9_at : MD := (RX9, yX9_at, cX9_at, 5, some .int, { frames := 6, cells := 0, slots := 0, locals := 158 }, fun _ _ => True)
theorem plX9_at : pln jX9_at := ⟨by decide +kernel, rfl, rfl, rfl, fun _ _ => trivial⟩
set_option maxRecDepth 100000 in
theorem kbX9_at : KB jX9_at 3 := ⟨List.mem_filter.mpr ⟨List.mem_of_getElem? (i := 895) (by decide +kernel), by decide +kernel⟩, List.mem_filter.mpr ⟨List.mem_of_getElem? (i := 86) (by decide +kernel), by decide +kernel⟩, by decide +kernel⟩
abbrev jX9_nearest : MD := (RX9, yX9_nearest, cX9_nearest, 5, some .int, { frames := 6, cells := 0, slots := 0, locals := 158 }, fun _ _ => True)
theorem plX9_nearest : pln jX9_nearest := ⟨by decide +kernel, rfl, rfl, rfl, fun _ _ => trivial⟩
set_option maxRecDepth 100000 in
theorem kbX9_nearest : KB jX9_nearest 3 := ⟨List.mem_filter.mpr ⟨List.mem_of_getElem? (i := 924) (by decide +kernel), by decide +kernel⟩, List.mem_filter.mpr ⟨List.mem_of_getElem? (i := 86) (by decide +kernel), by decide +kernel⟩, by decide +kernel⟩
abbrev jX9_winding : MD := (RX9, yX9_winding, cX9_winding, 3, some .int, { frames := 6, cells := 0, slots := 0, locals := 158 }, fun _ _ => True)
theorem plX9_winding : pln jX9_winding := ⟨by decide +kernel, rfl, rfl, rfl, fun _ _ => trivial⟩
set_option maxRecDepth 100000 in
theorem kbX9_winding : KB jX9_winding 2 := ⟨List.mem_filter.mpr ⟨List.mem_of_getElem? (i := 947) (by decide +kernel), by decide +kernel⟩, List.mem_filter.mpr ⟨List.mem_of_getElem? (i := 86) (by decide +kernel), by decide +kernel⟩, by decide +kernel⟩
abbrev jX9_area : MD := (RX9, yX9_area, cX9_area, 2, some .long, { frames := 6, cells := 0, slots := 0, locals := 158 }, fun _ _ => True)
theorem plX9_area : pln jX9_area := ⟨by decide +kernel, rfl, rfl, rfl, fun _ _ => trivial⟩
set_option maxRecDepth 100000 in
theorem kbX9_area : KB jX9_area 1 := ⟨List.mem_filter.mpr ⟨List.mem_of_getElem? (i := 963) (by decide +kernel), by decide +kernel⟩, List.mem_filter.mpr ⟨List.mem_of_getElem? (i := 86) (by decide +kernel), by decide +kernel⟩, by decide +kernel⟩
abbrev jX9_bound : MD := (RX9, yX9_bound, cX9_bound, 7, some .int, { frames := 6, cells := 0, slots := 0, locals := 158 }, fun _ _ => True)
theorem plX9_bound : pln jX9_bound := ⟨by decide +kernel, rfl, rfl, rfl, fun _ _ => trivial⟩
set_option maxRecDepth 100000 in
theorem kbX9_bound : KB jX9_bound 2 := ⟨List.mem_filter.mpr ⟨List.mem_of_getElem? (i := 972) (by decide +kernel), by decide +kernel⟩, List.mem_filter.mpr ⟨List.mem_of_getElem? (i := 86) (by decide +kernel), by decide +kernel⟩, by decide +kernel⟩
abbrev jX9_simplified : MD := (RX9, yX9_simplified, cX9_simplified, 4, some .int, { frames := 6, cells := 0, slots := 0, locals := 158 }, fun _ _ => True)
theorem plX9_simplified : pln jX9_simplified := ⟨by decide +kernel, rfl, rfl, rfl, fun _ _ => trivial⟩
set_option maxRecDepth 100000 in
theorem kbX9_simplified : KB jX9_simplified 3 := ⟨List.mem_filter.mpr ⟨List.mem_of_getElem? (i := 982) (by decide +kernel), by decide +kernel⟩, List.mem_filter.mpr ⟨List.mem_of_getElem? (i := 86) (by decide +kernel), by decide +kernel⟩, by decide +kernel⟩
abbrev jX9_addDash : MD := (RX9, yX9_addDash, cX9_addDash, 2, some .int, { frames := 1, cells := 0, slots := 0, locals := 22 }, fun _ _ => True)
theorem plX9_addDash : pln jX9_addDash := ⟨by decide +kernel, rfl, rfl, rfl, fun _ _ => trivial⟩
set_option maxRecDepth 100000 in
theorem kbX9_addDash : KB jX9_addDash 1 := ⟨List.mem_filter.mpr ⟨List.mem_of_getElem? (i := 1017) (by decide +kernel), by decide +kernel⟩, List.mem_filter.mpr ⟨List.mem_of_getElem? (i := 86) (by decide +kernel), by decide +kernel⟩, by decide +kernel⟩
abbrev jX9_clearDashes : MD := (RX9, yX9_clearDashes, cX9_clearDashes, 3, some .int, { frames := 1, cells := 0, slots := 0, locals := 22 }, fun _ _ => True)
theorem plX9_clearDashes : pln jX9_clearDashes := ⟨by decide +kernel, rfl, rfl, rfl, fun _ _ => trivial⟩
set_option maxRecDepth 100000 in
theorem kbX9_clearDashes : KB jX9_clearDashes 1 := ⟨List.mem_filter.mpr ⟨List.mem_of_getElem? (i := 1026) (by decide +kernel), by decide +kernel⟩, List.mem_filter.mpr ⟨List.mem_of_getElem? (i := 86) (by decide +kernel), by decide +kernel⟩, by decide +kernel⟩
abbrev jX9_dash : MD := (RX9, yX9_dash, cX9_dash, 5, some .int, { frames := 6, cells := 0, slots := 0, locals := 158 }, fun _ _ => True)
theorem plX9_dash : pln jX9_dash := ⟨by decide +kernel, rfl, rfl, rfl, fun _ _ => trivial⟩
set_option maxRecDepth 100000 in
theorem kbX9_dash : KB jX9_dash 3 := ⟨List.mem_filter.mpr ⟨List.mem_of_getElem? (i := 1030) (by decide +kernel), by decide +kernel⟩, List.mem_filter.mpr ⟨List.mem_of_getElem? (i := 86) (by decide +kernel), by decide +kernel⟩, by decide +kernel⟩
abbrev jX9_setWidth : MD := (RX9, yX9_setWidth, cX9_setWidth, 3, some .int, { frames := 2, cells := 0, slots := 0, locals := 43 }, fun _ _ => True)
theorem plX9_setWidth : pln jX9_setWidth := ⟨by decide +kernel, rfl, rfl, rfl, fun _ _ => trivial⟩
set_option maxRecDepth 100000 in
theorem kbX9_setWidth : KB jX9_setWidth 2 := ⟨List.mem_filter.mpr ⟨List.mem_of_getElem? (i := 1061) (by decide +kernel), by decide +kernel⟩, List.mem_filter.mpr ⟨List.mem_of_getElem? (i := 86) (by decide +kernel), by decide +kernel⟩, by decide +kernel⟩
abbrev jX9_setKerning : MD := (RX9, yX9_setKerning, cX9_setKerning, 4, some .int, { frames := 4, cells := 0, slots := 0, locals := 87 }, fun _ _ => True)
theorem plX9_setKerning : pln jX9_setKerning := ⟨by decide +kernel, rfl, rfl, rfl, fun _ _ => trivial⟩
set_option maxRecDepth 100000 in
theorem kbX9_setKerning : KB jX9_setKerning 3 := ⟨List.mem_filter.mpr ⟨List.mem_of_getElem? (i := 1074) (by decide +kernel), by decide +kernel⟩, List.mem_filter.mpr ⟨List.mem_of_getElem? (i := 86) (by decide +kernel), by decide +kernel⟩, by decide +kernel⟩
abbrev jX9_write : MD := (RX9, yX9_write, cX9_write, 2, some .int, { frames := 2, cells := 0, slots := 0, locals := 41 }, fun _ _ => True)
theorem plX9_write : pln jX9_write := ⟨by decide +kernel, rfl, rfl, rfl, fun _ _ => trivial⟩
set_option maxRecDepth 100000 in
theorem kbX9_write : KB jX9_write 1 := ⟨List.mem_filter.mpr ⟨List.mem_of_getElem? (i := 1091) (by decide +kernel), by decide +kernel⟩, List.mem_filter.mpr ⟨List.mem_of_getElem? (i := 86) (by decide +kernel), by decide +kernel⟩, by decide +kernel⟩
abbrev jX9_erase : MD := (RX9, yX9_erase, cX9_erase, 2, some .int, { frames := 0, cells := 0, slots := 0, locals := 0 }, fun _ _ => True)
theorem plX9_erase : pln jX9_erase := ⟨by decide +kernel, rfl, rfl, rfl, fun _ _ => trivial⟩
set_option maxRecDepth 100000 in
theorem kbX9_erase : KB jX9_erase 0 := ⟨List.mem_filter.mpr ⟨List.mem_of_getElem? (i := 1099) (by decide +kernel), by decide +kernel⟩, List.mem_filter.mpr ⟨List.mem_of_getElem? (i := 86) (by decide +kernel), by decide +kernel⟩, by decide +kernel⟩
abbrev jX9_arrange : MD := (RX9, yX9_arrange, cX9_arrange, 4, some .int, { frames := 1, cells := 0, slots := 0, locals := 22 }, fun _ _ => True)
theorem plX9_arrange : pln jX9_arrange := ⟨by decide +kernel, rfl, rfl, rfl, fun _ _ => trivial⟩
set_option maxRecDepth 100000 in
theorem kbX9_arrange : KB jX9_arrange 3 := ⟨List.mem_filter.mpr ⟨List.mem_of_getElem? (i := 1103) (by decide +kernel), by decide +kernel⟩, List.mem_filter.mpr ⟨List.mem_of_getElem? (i := 86) (by decide +kernel), by decide +kernel⟩, by decide +kernel⟩
abbrev jX9_letter : MD := (RX9, yX9_letter, cX9_letter, 5, some .int, { frames := 6, cells := 0, slots := 0, locals := 158 }, fun _ _ => True)
theorem plX9_letter : pln jX9_letter := ⟨by decide +kernel, rfl, rfl, rfl, fun _ _ => trivial⟩
set_option maxRecDepth 100000 in
theorem kbX9_letter : KB jX9_letter 3 := ⟨List.mem_filter.mpr ⟨List.mem_of_getElem? (i := 1107) (by decide +kernel), by decide +kernel⟩, List.mem_filter.mpr ⟨List.mem_of_getElem? (i := 86) (by decide +kernel), by decide +kernel⟩, by decide +kernel⟩
abbrev jX9_placed : MD := (RX9, yX9_placed, cX9_placed, 4, some .int, { frames := 6, cells := 0, slots := 0, locals := 158 }, fun _ _ => True)
theorem plX9_placed : pln jX9_placed := ⟨by decide +kernel, rfl, rfl, rfl, fun _ _ => trivial⟩
set_option maxRecDepth 100000 in
theorem kbX9_placed : KB jX9_placed 2 := ⟨List.mem_filter.mpr ⟨List.mem_of_getElem? (i := 1156) (by decide +kernel), by decide +kernel⟩, List.mem_filter.mpr ⟨List.mem_of_getElem? (i := 86) (by decide +kernel), by decide +kernel⟩, by decide +kernel⟩
abbrev jX9_count : MD := (RX9, yX9_count, cX9_count, 2, some .int, { frames := 0, cells := 0, slots := 0, locals := 0 }, fun _ _ => True)
theorem plX9_count : pln jX9_count := ⟨by decide +kernel, rfl, rfl, rfl, fun _ _ => trivial⟩
set_option maxRecDepth 100000 in
theorem kbX9_count : KB jX9_count 1 := ⟨List.mem_filter.mpr ⟨List.mem_of_getElem? (i := 1173) (by decide +kernel), by decide +kernel⟩, List.mem_filter.mpr ⟨List.mem_of_getElem? (i := 86) (by decide +kernel), by decide +kernel⟩, by decide +kernel⟩
abbrev jX9_save : MD := (RX9, yX9_save, cX9_save, 2, some .int, { frames := 2, cells := 0, slots := 0, locals := 61 }, fun _ _ => True)
theorem plX9_save : pln jX9_save := ⟨by decide +kernel, rfl, rfl, rfl, fun _ _ => trivial⟩
set_option maxRecDepth 100000 in
theorem kbX9_save : KB jX9_save 1 := ⟨List.mem_filter.mpr ⟨List.mem_of_getElem? (i := 1177) (by decide +kernel), by decide +kernel⟩, List.mem_filter.mpr ⟨List.mem_of_getElem? (i := 86) (by decide +kernel), by decide +kernel⟩, by decide +kernel⟩
abbrev jX9_restore : MD := (RX9, yX9_restore, cX9_restore, 2, some .int, { frames := 2, cells := 0, slots := 0, locals := 61 }, fun _ _ => True)
theorem plX9_restore : pln jX9_restore := ⟨by decide +kernel, rfl, rfl, rfl, fun _ _ => trivial⟩
set_option maxRecDepth 100000 in
theorem kbX9_restore : KB jX9_restore 1 := ⟨List.mem_filter.mpr ⟨List.mem_of_getElem? (i := 1185) (by decide +kernel), by decide +kernel⟩, List.mem_filter.mpr ⟨List.mem_of_getElem? (i := 86) (by decide +kernel), by decide +kernel⟩, by decide +kernel⟩
abbrev jX9_savedIn : MD := (RX9, yX9_savedIn, cX9_savedIn, 2, some (.object "PathFlattener$Path"), { frames := 0, cells := 0, slots := 0, locals := 0 }, fun _ _ => True)
theorem plX9_savedIn : pln jX9_savedIn := ⟨by decide +kernel, rfl, rfl, rfl, fun _ _ => trivial⟩
set_option maxRecDepth 100000 in
theorem kbX9_savedIn : KB jX9_savedIn 1 := ⟨List.mem_filter.mpr ⟨List.mem_of_getElem? (i := 1181) (by decide +kernel), by decide +kernel⟩, List.mem_filter.mpr ⟨List.mem_of_getElem? (i := 86) (by decide +kernel), by decide +kernel⟩, by decide +kernel⟩
abbrev jX9_goOn : MD := (RX9, yX9_goOn, cX9_goOn, 8, some .int, { frames := 3, cells := 0, slots := 0, locals := 76 }, fun _ _ => True)
theorem plX9_goOn : pln jX9_goOn := ⟨by decide +kernel, rfl, rfl, rfl, fun _ _ => trivial⟩
set_option maxRecDepth 100000 in
theorem kbX9_goOn : KB jX9_goOn 7 := ⟨List.mem_filter.mpr ⟨List.mem_of_getElem? (i := 435) (by decide +kernel), by decide +kernel⟩, List.mem_filter.mpr ⟨List.mem_of_getElem? (i := 86) (by decide +kernel), by decide +kernel⟩, by decide +kernel⟩
abbrev jX9_append : MD := (RX9, yX9_append, cX9_append, 8, some .int, { frames := 2, cells := 0, slots := 0, locals := 49 }, fun _ _ => True)
theorem plX9_append : pln jX9_append := ⟨by decide +kernel, rfl, rfl, rfl, fun _ _ => trivial⟩
set_option maxRecDepth 100000 in
theorem kbX9_append : KB jX9_append 7 := ⟨List.mem_filter.mpr ⟨List.mem_of_getElem? (i := 418) (by decide +kernel), by decide +kernel⟩, List.mem_filter.mpr ⟨List.mem_of_getElem? (i := 86) (by decide +kernel), by decide +kernel⟩, by decide +kernel⟩
abbrev jX9_flattened : MD := (RX9, yX9_flattened, cX9_flattened, 1, some (.object "PathFlattener$Flat"), { frames := 5, cells := 0, slots := 0, locals := 138 }, fun _ _ => True)
theorem plX9_flattened : pln jX9_flattened := ⟨by decide +kernel, rfl, rfl, rfl, fun _ _ => trivial⟩
set_option maxRecDepth 100000 in
theorem kbX9_flattened : KB jX9_flattened 0 := ⟨List.mem_filter.mpr ⟨List.mem_of_getElem? (i := 500) (by decide +kernel), by decide +kernel⟩, List.mem_filter.mpr ⟨List.mem_of_getElem? (i := 86) (by decide +kernel), by decide +kernel⟩, by decide +kernel⟩
abbrev jX9_isContour : MD := (RX9, yX9_isContour, cX9_isContour, 2, some .boolean, { frames := 0, cells := 0, slots := 0, locals := 0 }, fun _ _ => True)
theorem plX9_isContour : pln jX9_isContour := ⟨by decide +kernel, rfl, rfl, rfl, fun _ _ => trivial⟩
set_option maxRecDepth 100000 in
theorem kbX9_isContour : KB jX9_isContour 1 := ⟨List.mem_filter.mpr ⟨List.mem_of_getElem? (i := 585) (by decide +kernel), by decide +kernel⟩, List.mem_filter.mpr ⟨List.mem_of_getElem? (i := 86) (by decide +kernel), by decide +kernel⟩, by decide +kernel⟩
abbrev jX9_isLetter : MD := (RX9, yX9_isLetter, cX9_isLetter, 1, some .boolean, { frames := 0, cells := 0, slots := 0, locals := 0 }, fun _ _ => True)
theorem plX9_isLetter : pln jX9_isLetter := ⟨by decide +kernel, rfl, rfl, rfl, fun _ _ => trivial⟩
set_option maxRecDepth 100000 in
theorem kbX9_isLetter : KB jX9_isLetter 1 := ⟨List.mem_filter.mpr ⟨List.mem_of_getElem? (i := 1064) (by decide +kernel), by decide +kernel⟩, List.mem_filter.mpr ⟨List.mem_of_getElem? (i := 86) (by decide +kernel), by decide +kernel⟩, by decide +kernel⟩
abbrev jX9_fits : MD := (RX9, yX9_fits, cX9_fits, 1, some .boolean, { frames := 1, cells := 0, slots := 0, locals := 22 }, fun _ _ => True)
theorem plX9_fits : pln jX9_fits := ⟨by decide +kernel, rfl, rfl, rfl, fun _ _ => trivial⟩
set_option maxRecDepth 100000 in
theorem kbX9_fits : KB jX9_fits 1 := ⟨List.mem_filter.mpr ⟨List.mem_of_getElem? (i := 410) (by decide +kernel), by decide +kernel⟩, List.mem_filter.mpr ⟨List.mem_of_getElem? (i := 86) (by decide +kernel), by decide +kernel⟩, by decide +kernel⟩
abbrev jX9_between : MD := (RX9, yX9_between, cX9_between, 3, some .boolean, { frames := 0, cells := 0, slots := 0, locals := 0 }, fun _ _ => True)
theorem plX9_between : pln jX9_between := ⟨by decide +kernel, rfl, rfl, rfl, fun _ _ => trivial⟩
set_option maxRecDepth 100000 in
theorem kbX9_between : KB jX9_between 3 := ⟨List.mem_filter.mpr ⟨List.mem_of_getElem? (i := 413) (by decide +kernel), by decide +kernel⟩, List.mem_filter.mpr ⟨List.mem_of_getElem? (i := 86) (by decide +kernel), by decide +kernel⟩, by decide +kernel⟩
abbrev jX10_init : MD := (RX10, yX10_init, cX10_init, 2, none, { frames := 0, cells := 0, slots := 0, locals := 0 }, fun _ _ => True)
theorem plX10_init : pln jX10_init := ⟨by decide +kernel, rfl, rfl, rfl, fun _ _ => trivial⟩
set_option maxRecDepth 100000 in
theorem kbX10_init : KB jX10_init 0 := ⟨List.mem_filter.mpr ⟨List.mem_of_getElem? (i := 1190) (by decide +kernel), by decide +kernel⟩, List.mem_filter.mpr ⟨List.mem_of_getElem? (i := 96) (by decide +kernel), by decide +kernel⟩, by decide +kernel⟩
abbrev jX10_in : MD := (RX10, yX10_in, cX10_in, 3, some .boolean, { frames := 0, cells := 0, slots := 0, locals := 0 }, fun _ _ => True)
theorem plX10_in : pln jX10_in := ⟨by decide +kernel, rfl, rfl, rfl, fun _ _ => trivial⟩
set_option maxRecDepth 100000 in
theorem kbX10_in : KB jX10_in 3 := ⟨List.mem_filter.mpr ⟨List.mem_of_getElem? (i := 1335) (by decide +kernel), by decide +kernel⟩, List.mem_filter.mpr ⟨List.mem_of_getElem? (i := 96) (by decide +kernel), by decide +kernel⟩, by decide +kernel⟩
abbrev jX10_isPlace : MD := (RX10, yX10_isPlace, cX10_isPlace, 1, some .boolean, { frames := 1, cells := 0, slots := 0, locals := 22 }, fun _ _ => True)
theorem plX10_isPlace : pln jX10_isPlace := ⟨by decide +kernel, rfl, rfl, rfl, fun _ _ => trivial⟩
set_option maxRecDepth 100000 in
theorem kbX10_isPlace : KB jX10_isPlace 1 := ⟨List.mem_filter.mpr ⟨List.mem_of_getElem? (i := 1332) (by decide +kernel), by decide +kernel⟩, List.mem_filter.mpr ⟨List.mem_of_getElem? (i := 96) (by decide +kernel), by decide +kernel⟩, by decide +kernel⟩
abbrev jX10_size : MD := (RX10, yX10_size, cX10_size, 1, some .int, { frames := 0, cells := 0, slots := 0, locals := 0 }, fun _ _ => True)
theorem plX10_size : pln jX10_size := ⟨by decide +kernel, rfl, rfl, rfl, fun _ _ => trivial⟩
set_option maxRecDepth 100000 in
theorem kbX10_size : KB jX10_size 1 := ⟨List.mem_filter.mpr ⟨List.mem_of_getElem? (i := 1416) (by decide +kernel), by decide +kernel⟩, List.mem_filter.mpr ⟨List.mem_of_getElem? (i := 96) (by decide +kernel), by decide +kernel⟩, by decide +kernel⟩
abbrev jX10_kind : MD := (RX10, yX10_kind, cX10_kind, 2, some .int, { frames := 0, cells := 0, slots := 0, locals := 0 }, fun _ _ => True)
theorem plX10_kind : pln jX10_kind := ⟨by decide +kernel, rfl, rfl, rfl, fun _ _ => trivial⟩
set_option maxRecDepth 100000 in
theorem kbX10_kind : KB jX10_kind 1 := ⟨List.mem_filter.mpr ⟨List.mem_of_getElem? (i := 1344) (by decide +kernel), by decide +kernel⟩, List.mem_filter.mpr ⟨List.mem_of_getElem? (i := 96) (by decide +kernel), by decide +kernel⟩, by decide +kernel⟩
abbrev jX10_many : MD := (RX10, yX10_many, cX10_many, 1, some .int, { frames := 0, cells := 0, slots := 0, locals := 0 }, fun _ _ => True)
theorem plX10_many : pln jX10_many := ⟨by decide +kernel, rfl, rfl, rfl, fun _ _ => trivial⟩
set_option maxRecDepth 100000 in
theorem kbX10_many : KB jX10_many 0 := ⟨List.mem_filter.mpr ⟨List.mem_of_getElem? (i := 1340) (by decide +kernel), by decide +kernel⟩, List.mem_filter.mpr ⟨List.mem_of_getElem? (i := 96) (by decide +kernel), by decide +kernel⟩, by decide +kernel⟩
abbrev jX10_append : MD := (RX10, yX10_append, cX10_append, 9, some .int, { frames := 2, cells := 0, slots := 0, locals := 42 }, fun _ _ => True)
theorem plX10_append : pln jX10_append := ⟨by decide +kernel, rfl, rfl, rfl, fun _ _ => trivial⟩
set_option maxRecDepth 100000 in
theorem kbX10_append : KB jX10_append 7 := ⟨List.mem_filter.mpr ⟨List.mem_of_getElem? (i := 1329) (by decide +kernel), by decide +kernel⟩, List.mem_filter.mpr ⟨List.mem_of_getElem? (i := 96) (by decide +kernel), by decide +kernel⟩, by decide +kernel⟩
abbrev jX10_move : MD := (RX10, yX10_move, cX10_move, 3, some .int, { frames := 3, cells := 0, slots := 0, locals := 70 }, fun _ _ => True)
theorem plX10_move : pln jX10_move := ⟨by decide +kernel, rfl, rfl, rfl, fun _ _ => trivial⟩
set_option maxRecDepth 100000 in
theorem kbX10_move : KB jX10_move 2 := ⟨List.mem_filter.mpr ⟨List.mem_of_getElem? (i := 1325) (by decide +kernel), by decide +kernel⟩, List.mem_filter.mpr ⟨List.mem_of_getElem? (i := 96) (by decide +kernel), by decide +kernel⟩, by decide +kernel⟩
abbrev jX10_line : MD := (RX10, yX10_line, cX10_line, 3, some .int, { frames := 3, cells := 0, slots := 0, locals := 70 }, fun _ _ => True)
theorem plX10_line : pln jX10_line := ⟨by decide +kernel, rfl, rfl, rfl, fun _ _ => trivial⟩
set_option maxRecDepth 100000 in
theorem kbX10_line : KB jX10_line 2 := ⟨List.mem_filter.mpr ⟨List.mem_of_getElem? (i := 1350) (by decide +kernel), by decide +kernel⟩, List.mem_filter.mpr ⟨List.mem_of_getElem? (i := 96) (by decide +kernel), by decide +kernel⟩, by decide +kernel⟩
abbrev jX10_quad : MD := (RX10, yX10_quad, cX10_quad, 5, some .int, { frames := 3, cells := 0, slots := 0, locals := 70 }, fun _ _ => True)
theorem plX10_quad : pln jX10_quad := ⟨by decide +kernel, rfl, rfl, rfl, fun _ _ => trivial⟩
set_option maxRecDepth 100000 in
theorem kbX10_quad : KB jX10_quad 4 := ⟨List.mem_filter.mpr ⟨List.mem_of_getElem? (i := 1354) (by decide +kernel), by decide +kernel⟩, List.mem_filter.mpr ⟨List.mem_of_getElem? (i := 96) (by decide +kernel), by decide +kernel⟩, by decide +kernel⟩
abbrev jX10_cubic : MD := (RX10, yX10_cubic, cX10_cubic, 7, some .int, { frames := 3, cells := 0, slots := 0, locals := 70 }, fun _ _ => True)
theorem plX10_cubic : pln jX10_cubic := ⟨by decide +kernel, rfl, rfl, rfl, fun _ _ => trivial⟩
set_option maxRecDepth 100000 in
theorem kbX10_cubic : KB jX10_cubic 6 := ⟨List.mem_filter.mpr ⟨List.mem_of_getElem? (i := 1358) (by decide +kernel), by decide +kernel⟩, List.mem_filter.mpr ⟨List.mem_of_getElem? (i := 96) (by decide +kernel), by decide +kernel⟩, by decide +kernel⟩
abbrev jX10_close : MD := (RX10, yX10_close, cX10_close, 1, some .int, { frames := 3, cells := 0, slots := 0, locals := 70 }, fun _ _ => True)
theorem plX10_close : pln jX10_close := ⟨by decide +kernel, rfl, rfl, rfl, fun _ _ => trivial⟩
set_option maxRecDepth 100000 in
theorem kbX10_close : KB jX10_close 0 := ⟨List.mem_filter.mpr ⟨List.mem_of_getElem? (i := 1362) (by decide +kernel), by decide +kernel⟩, List.mem_filter.mpr ⟨List.mem_of_getElem? (i := 96) (by decide +kernel), by decide +kernel⟩, by decide +kernel⟩
abbrev jX10_removeLast : MD := (RX10, yX10_removeLast, cX10_removeLast, 1, some .int, { frames := 1, cells := 0, slots := 0, locals := 20 }, fun _ _ => True)
theorem plX10_removeLast : pln jX10_removeLast := ⟨by decide +kernel, rfl, rfl, rfl, fun _ _ => trivial⟩
set_option maxRecDepth 100000 in
theorem kbX10_removeLast : KB jX10_removeLast 0 := ⟨List.mem_filter.mpr ⟨List.mem_of_getElem? (i := 1366) (by decide +kernel), by decide +kernel⟩, List.mem_filter.mpr ⟨List.mem_of_getElem? (i := 96) (by decide +kernel), by decide +kernel⟩, by decide +kernel⟩
abbrev jX10_moveOf : MD := (RX10, yX10_moveOf, cX10_moveOf, 3, some .int, { frames := 1, cells := 0, slots := 0, locals := 21 }, fun _ _ => True)
theorem plX10_moveOf : pln jX10_moveOf := ⟨by decide +kernel, rfl, rfl, rfl, fun _ _ => trivial⟩
set_option maxRecDepth 100000 in
theorem kbX10_moveOf : KB jX10_moveOf 1 := ⟨List.mem_filter.mpr ⟨List.mem_of_getElem? (i := 1388) (by decide +kernel), by decide +kernel⟩, List.mem_filter.mpr ⟨List.mem_of_getElem? (i := 96) (by decide +kernel), by decide +kernel⟩, by decide +kernel⟩
abbrev jX10_contourOf : MD := (RX10, yX10_contourOf, cX10_contourOf, 4, some .int, { frames := 1, cells := 0, slots := 0, locals := 21 }, fun _ _ => True)
theorem plX10_contourOf : pln jX10_contourOf := ⟨by decide +kernel, rfl, rfl, rfl, fun _ _ => trivial⟩
set_option maxRecDepth 100000 in
theorem kbX10_contourOf : KB jX10_contourOf 1 := ⟨List.mem_filter.mpr ⟨List.mem_of_getElem? (i := 1375) (by decide +kernel), by decide +kernel⟩, List.mem_filter.mpr ⟨List.mem_of_getElem? (i := 96) (by decide +kernel), by decide +kernel⟩, by decide +kernel⟩
abbrev jX10_endX : MD := (RX10, yX10_endX, cX10_endX, 2, some .int, { frames := 2, cells := 0, slots := 0, locals := 43 }, fun _ _ => True)
theorem plX10_endX : pln jX10_endX := ⟨by decide +kernel, rfl, rfl, rfl, fun _ _ => trivial⟩
set_option maxRecDepth 100000 in
theorem kbX10_endX : KB jX10_endX 1 := ⟨List.mem_filter.mpr ⟨List.mem_of_getElem? (i := 1384) (by decide +kernel), by decide +kernel⟩, List.mem_filter.mpr ⟨List.mem_of_getElem? (i := 96) (by decide +kernel), by decide +kernel⟩, by decide +kernel⟩
abbrev jX10_endY : MD := (RX10, yX10_endY, cX10_endY, 2, some .int, { frames := 2, cells := 0, slots := 0, locals := 43 }, fun _ _ => True)
theorem plX10_endY : pln jX10_endY := ⟨by decide +kernel, rfl, rfl, rfl, fun _ _ => trivial⟩
set_option maxRecDepth 100000 in
theorem kbX10_endY : KB jX10_endY 1 := ⟨List.mem_filter.mpr ⟨List.mem_of_getElem? (i := 1392) (by decide +kernel), by decide +kernel⟩, List.mem_filter.mpr ⟨List.mem_of_getElem? (i := 96) (by decide +kernel), by decide +kernel⟩, by decide +kernel⟩
abbrev jX10_command : MD := (RX10, yX10_command, cX10_command, 5, some .int, { frames := 4, cells := 0, slots := 0, locals := 123 }, fun _ _ => True)
theorem plX10_command : pln jX10_command := ⟨by decide +kernel, rfl, rfl, rfl, fun _ _ => trivial⟩
set_option maxRecDepth 100000 in
theorem kbX10_command : KB jX10_command 2 := ⟨List.mem_filter.mpr ⟨List.mem_of_getElem? (i := 1370) (by decide +kernel), by decide +kernel⟩, List.mem_filter.mpr ⟨List.mem_of_getElem? (i := 96) (by decide +kernel), by decide +kernel⟩, by decide +kernel⟩
abbrev jX10_setTolerance : MD := (RX10, yX10_setTolerance, cX10_setTolerance, 3, some .int, { frames := 1, cells := 0, slots := 0, locals := 22 }, fun _ _ => True)
theorem plX10_setTolerance : pln jX10_setTolerance := ⟨by decide +kernel, rfl, rfl, rfl, fun _ _ => trivial⟩
set_option maxRecDepth 100000 in
theorem kbX10_setTolerance : KB jX10_setTolerance 1 := ⟨List.mem_filter.mpr ⟨List.mem_of_getElem? (i := 1427) (by decide +kernel), by decide +kernel⟩, List.mem_filter.mpr ⟨List.mem_of_getElem? (i := 96) (by decide +kernel), by decide +kernel⟩, by decide +kernel⟩
abbrev jX10_contours : MD := (RX10, yX10_contours, cX10_contours, 1, some .int, { frames := 2, cells := 0, slots := 0, locals := 44 }, fun _ _ => True)
theorem plX10_contours : pln jX10_contours := ⟨by decide +kernel, rfl, rfl, rfl, fun _ _ => trivial⟩
set_option maxRecDepth 100000 in
theorem kbX10_contours : KB jX10_contours 0 := ⟨List.mem_filter.mpr ⟨List.mem_of_getElem? (i := 1439) (by decide +kernel), by decide +kernel⟩, List.mem_filter.mpr ⟨List.mem_of_getElem? (i := 96) (by decide +kernel), by decide +kernel⟩, by decide +kernel⟩
abbrev jX10_isContour : MD := (RX10, yX10_isContour, cX10_isContour, 2, some .boolean, { frames := 3, cells := 0, slots := 0, locals := 64 }, fun _ _ => True)
theorem plX10_isContour : pln jX10_isContour := ⟨by decide +kernel, rfl, rfl, rfl, fun _ _ => trivial⟩
set_option maxRecDepth 100000 in
theorem kbX10_isContour : KB jX10_isContour 1 := ⟨List.mem_filter.mpr ⟨List.mem_of_getElem? (i := 1435) (by decide +kernel), by decide +kernel⟩, List.mem_filter.mpr ⟨List.mem_of_getElem? (i := 96) (by decide +kernel), by decide +kernel⟩, by decide +kernel⟩
abbrev jX10_firstOf : MD := (RX10, yX10_firstOf, cX10_firstOf, 4, some .int, { frames := 1, cells := 0, slots := 0, locals := 21 }, fun _ _ => True)
theorem plX10_firstOf : pln jX10_firstOf := ⟨by decide +kernel, rfl, rfl, rfl, fun _ _ => trivial⟩
set_option maxRecDepth 100000 in
theorem kbX10_firstOf : KB jX10_firstOf 1 := ⟨List.mem_filter.mpr ⟨List.mem_of_getElem? (i := 1443) (by decide +kernel), by decide +kernel⟩, List.mem_filter.mpr ⟨List.mem_of_getElem? (i := 96) (by decide +kernel), by decide +kernel⟩, by decide +kernel⟩
abbrev jX10_setTurned : MD := (RX10, yX10_setTurned, cX10_setTurned, 6, none, { frames := 0, cells := 0, slots := 0, locals := 0 }, fun _ _ => True)
theorem plX10_setTurned : pln jX10_setTurned := ⟨by decide +kernel, rfl, rfl, rfl, fun _ _ => trivial⟩
set_option maxRecDepth 100000 in
theorem kbX10_setTurned : KB jX10_setTurned 4 := ⟨List.mem_filter.mpr ⟨List.mem_of_getElem? (i := 1447) (by decide +kernel), by decide +kernel⟩, List.mem_filter.mpr ⟨List.mem_of_getElem? (i := 96) (by decide +kernel), by decide +kernel⟩, by decide +kernel⟩
abbrev jX10_reverse : MD := (RX10, yX10_reverse, cX10_reverse, 10, some .int, { frames := 4, cells := 0, slots := 0, locals := 85 }, fun _ _ => True)
theorem plX10_reverse : pln jX10_reverse := ⟨by decide +kernel, rfl, rfl, rfl, fun _ _ => trivial⟩
set_option maxRecDepth 100000 in
theorem kbX10_reverse : KB jX10_reverse 1 := ⟨List.mem_filter.mpr ⟨List.mem_of_getElem? (i := 1431) (by decide +kernel), by decide +kernel⟩, List.mem_filter.mpr ⟨List.mem_of_getElem? (i := 96) (by decide +kernel), by decide +kernel⟩, by decide +kernel⟩
abbrev jX10_transform : MD := (RX10, yX10_transform, cX10_transform, 16, some .int, { frames := 2, cells := 0, slots := 0, locals := 42 }, fun _ _ => True)
theorem plX10_transform : pln jX10_transform := ⟨by decide +kernel, rfl, rfl, rfl, fun _ _ => trivial⟩
set_option maxRecDepth 100000 in
theorem kbX10_transform : KB jX10_transform 6 := ⟨List.mem_filter.mpr ⟨List.mem_of_getElem? (i := 1451) (by decide +kernel), by decide +kernel⟩, List.mem_filter.mpr ⟨List.mem_of_getElem? (i := 96) (by decide +kernel), by decide +kernel⟩, by decide +kernel⟩
abbrev jX10_say : MD := (RX10, yX10_say, cX10_say, 2, some .int, { frames := 1, cells := 0, slots := 0, locals := 22 }, fun _ _ => True)
theorem plX10_say : pln jX10_say := ⟨by decide +kernel, rfl, rfl, rfl, fun _ _ => trivial⟩
set_option maxRecDepth 100000 in
theorem kbX10_say : KB jX10_say 1 := ⟨List.mem_filter.mpr ⟨List.mem_of_getElem? (i := 1455) (by decide +kernel), by decide +kernel⟩, List.mem_filter.mpr ⟨List.mem_of_getElem? (i := 96) (by decide +kernel), by decide +kernel⟩, by decide +kernel⟩
abbrev jX10_wipe : MD := (RX10, yX10_wipe, cX10_wipe, 2, some .int, { frames := 0, cells := 0, slots := 0, locals := 0 }, fun _ _ => True)
theorem plX10_wipe : pln jX10_wipe := ⟨by decide +kernel, rfl, rfl, rfl, fun _ _ => trivial⟩
set_option maxRecDepth 100000 in
theorem kbX10_wipe : KB jX10_wipe 0 := ⟨List.mem_filter.mpr ⟨List.mem_of_getElem? (i := 1459) (by decide +kernel), by decide +kernel⟩, List.mem_filter.mpr ⟨List.mem_of_getElem? (i := 96) (by decide +kernel), by decide +kernel⟩, by decide +kernel⟩
abbrev jX10_sign : MD := (RX10, yX10_sign, cX10_sign, 1, some .int, { frames := 0, cells := 0, slots := 0, locals := 0 }, fun _ _ => True)
theorem plX10_sign : pln jX10_sign := ⟨by decide +kernel, rfl, rfl, rfl, fun _ _ => trivial⟩
set_option maxRecDepth 100000 in
theorem kbX10_sign : KB jX10_sign 0 := ⟨List.mem_filter.mpr ⟨List.mem_of_getElem? (i := 1471) (by decide +kernel), by decide +kernel⟩, List.mem_filter.mpr ⟨List.mem_of_getElem? (i := 96) (by decide +kernel), by decide +kernel⟩, by decide +kernel⟩
abbrev jX10_readNumber : MD := (RX10, yX10_readNumber, cX10_readNumber, 3, some .int, { frames := 1, cells := 0, slots := 0, locals := 22 }, fun _ _ => True)
theorem plX10_readNumber : pln jX10_readNumber := ⟨by decide +kernel, rfl, rfl, rfl, fun _ _ => trivial⟩
set_option maxRecDepth 100000 in
theorem kbX10_readNumber : KB jX10_readNumber 0 := ⟨List.mem_filter.mpr ⟨List.mem_of_getElem? (i := 1483) (by decide +kernel), by decide +kernel⟩, List.mem_filter.mpr ⟨List.mem_of_getElem? (i := 96) (by decide +kernel), by decide +kernel⟩, by decide +kernel⟩
abbrev jX10_readComma : MD := (RX10, yX10_readComma, cX10_readComma, 1, none, { frames := 1, cells := 0, slots := 0, locals := 20 }, fun _ _ => True)
theorem plX10_readComma : pln jX10_readComma := ⟨by decide +kernel, rfl, rfl, rfl, fun _ _ => trivial⟩
set_option maxRecDepth 100000 in
theorem kbX10_readComma : KB jX10_readComma 0 := ⟨List.mem_filter.mpr ⟨List.mem_of_getElem? (i := 1487) (by decide +kernel), by decide +kernel⟩, List.mem_filter.mpr ⟨List.mem_of_getElem? (i := 96) (by decide +kernel), by decide +kernel⟩, by decide +kernel⟩
abbrev jX10_readPair : MD := (RX10, yX10_readPair, cX10_readPair, 5, none, { frames := 2, cells := 0, slots := 0, locals := 44 }, fun _ _ => True)
theorem plX10_readPair : pln jX10_readPair := ⟨by decide +kernel, rfl, rfl, rfl, fun _ _ => trivial⟩
set_option maxRecDepth 100000 in
theorem kbX10_readPair : KB jX10_readPair 2 := ⟨List.mem_filter.mpr ⟨List.mem_of_getElem? (i := 1479) (by decide +kernel), by decide +kernel⟩, List.mem_filter.mpr ⟨List.mem_of_getElem? (i := 96) (by decide +kernel), by decide +kernel⟩, by decide +kernel⟩
abbrev jX10_readCommand : MD := (RX10, yX10_readCommand, cX10_readCommand, 6, none, { frames := 3, cells := 0, slots := 0, locals := 68 }, fun _ _ => True)
theorem plX10_readCommand : pln jX10_readCommand := ⟨by decide +kernel, rfl, rfl, rfl, fun _ _ => trivial⟩
set_option maxRecDepth 100000 in
theorem kbX10_readCommand : KB jX10_readCommand 2 := ⟨List.mem_filter.mpr ⟨List.mem_of_getElem? (i := 1475) (by decide +kernel), by decide +kernel⟩, List.mem_filter.mpr ⟨List.mem_of_getElem? (i := 96) (by decide +kernel), by decide +kernel⟩, by decide +kernel⟩
abbrev jX10_readContour : MD := (RX10, yX10_readContour, cX10_readContour, 3, none, { frames := 4, cells := 0, slots := 0, locals := 93 }, fun _ _ => True)
theorem plX10_readContour : pln jX10_readContour := ⟨by decide +kernel, rfl, rfl, rfl, fun _ _ => trivial⟩
set_option maxRecDepth 100000 in
theorem kbX10_readContour : KB jX10_readContour 0 := ⟨List.mem_filter.mpr ⟨List.mem_of_getElem? (i := 1467) (by decide +kernel), by decide +kernel⟩, List.mem_filter.mpr ⟨List.mem_of_getElem? (i := 96) (by decide +kernel), by decide +kernel⟩, by decide +kernel⟩
abbrev jX10_kindAt : MD := (RX10, yX10_kindAt, cX10_kindAt, 1, some .int, { frames := 1, cells := 0, slots := 0, locals := 20 }, fun _ _ => True)
theorem plX10_kindAt : pln jX10_kindAt := ⟨by decide +kernel, rfl, rfl, rfl, fun _ _ => trivial⟩
set_option maxRecDepth 100000 in
theorem kbX10_kindAt : KB jX10_kindAt 0 := ⟨List.mem_filter.mpr ⟨List.mem_of_getElem? (i := 1491) (by decide +kernel), by decide +kernel⟩, List.mem_filter.mpr ⟨List.mem_of_getElem? (i := 96) (by decide +kernel), by decide +kernel⟩, by decide +kernel⟩
abbrev jX10_fault : MD := (RX10, yX10_fault, cX10_fault, 2, some .int, { frames := 5, cells := 0, slots := 0, locals := 115 }, fun _ _ => True)
theorem plX10_fault : pln jX10_fault := ⟨by decide +kernel, rfl, rfl, rfl, fun _ _ => trivial⟩
set_option maxRecDepth 100000 in
theorem kbX10_fault : KB jX10_fault 0 := ⟨List.mem_filter.mpr ⟨List.mem_of_getElem? (i := 1463) (by decide +kernel), by decide +kernel⟩, List.mem_filter.mpr ⟨List.mem_of_getElem? (i := 96) (by decide +kernel), by decide +kernel⟩, by decide +kernel⟩
abbrev jX10_load : MD := (RX10, yX10_load, cX10_load, 2, some .int, { frames := 6, cells := 0, slots := 0, locals := 136 }, fun _ _ => True)
theorem plX10_load : pln jX10_load := ⟨by decide +kernel, rfl, rfl, rfl, fun _ _ => trivial⟩
set_option maxRecDepth 100000 in
theorem kbX10_load : KB jX10_load 0 := ⟨List.mem_filter.mpr ⟨List.mem_of_getElem? (i := 1495) (by decide +kernel), by decide +kernel⟩, List.mem_filter.mpr ⟨List.mem_of_getElem? (i := 96) (by decide +kernel), by decide +kernel⟩, by decide +kernel⟩
abbrev jX10_spellSign : MD := (RX10, yX10_spellSign, cX10_spellSign, 2, none, { frames := 0, cells := 0, slots := 0, locals := 0 }, fun _ _ => True)
theorem plX10_spellSign : pln jX10_spellSign := ⟨by decide +kernel, rfl, rfl, rfl, fun _ _ => trivial⟩
set_option maxRecDepth 100000 in
theorem kbX10_spellSign : KB jX10_spellSign 1 := ⟨List.mem_filter.mpr ⟨List.mem_of_getElem? (i := 1505) (by decide +kernel), by decide +kernel⟩, List.mem_filter.mpr ⟨List.mem_of_getElem? (i := 96) (by decide +kernel), by decide +kernel⟩, by decide +kernel⟩
abbrev jX10_spellNumber : MD := (RX10, yX10_spellNumber, cX10_spellNumber, 4, none, { frames := 1, cells := 0, slots := 0, locals := 21 }, fun _ _ => True)
theorem plX10_spellNumber : pln jX10_spellNumber := ⟨by decide +kernel, rfl, rfl, rfl, fun _ _ => trivial⟩
set_option maxRecDepth 100000 in
theorem kbX10_spellNumber : KB jX10_spellNumber 1 := ⟨List.mem_filter.mpr ⟨List.mem_of_getElem? (i := 1513) (by decide +kernel), by decide +kernel⟩, List.mem_filter.mpr ⟨List.mem_of_getElem? (i := 96) (by decide +kernel), by decide +kernel⟩, by decide +kernel⟩
abbrev jX10_spellPair : MD := (RX10, yX10_spellPair, cX10_spellPair, 3, none, { frames := 2, cells := 0, slots := 0, locals := 44 }, fun _ _ => True)
theorem plX10_spellPair : pln jX10_spellPair := ⟨by decide +kernel, rfl, rfl, rfl, fun _ _ => trivial⟩
set_option maxRecDepth 100000 in
theorem kbX10_spellPair : KB jX10_spellPair 2 := ⟨List.mem_filter.mpr ⟨List.mem_of_getElem? (i := 1509) (by decide +kernel), by decide +kernel⟩, List.mem_filter.mpr ⟨List.mem_of_getElem? (i := 96) (by decide +kernel), by decide +kernel⟩, by decide +kernel⟩
abbrev jX10_spell : MD := (RX10, yX10_spell, cX10_spell, 5, some .int, { frames := 3, cells := 0, slots := 0, locals := 66 }, fun _ _ => True)
theorem plX10_spell : pln jX10_spell := ⟨by decide +kernel, rfl, rfl, rfl, fun _ _ => trivial⟩
set_option maxRecDepth 100000 in
theorem kbX10_spell : KB jX10_spell 1 := ⟨List.mem_filter.mpr ⟨List.mem_of_getElem? (i := 1501) (by decide +kernel), by decide +kernel⟩, List.mem_filter.mpr ⟨List.mem_of_getElem? (i := 96) (by decide +kernel), by decide +kernel⟩, by decide +kernel⟩
abbrev jX10_root : MD := (RX10, yX10_root, cX10_root, 8, some .int, { frames := 0, cells := 0, slots := 0, locals := 0 }, fun _ _ => True)
theorem plX10_root : pln jX10_root := ⟨by decide +kernel, rfl, rfl, rfl, fun _ _ => trivial⟩
set_option maxRecDepth 100000 in
theorem kbX10_root : KB jX10_root 1 := ⟨List.mem_filter.mpr ⟨List.mem_of_getElem? (i := 1400) (by decide +kernel), by decide +kernel⟩, List.mem_filter.mpr ⟨List.mem_of_getElem? (i := 96) (by decide +kernel), by decide +kernel⟩, by decide +kernel⟩
abbrev jX10_addVertex : MD := (RX10, yX10_addVertex, cX10_addVertex, 10, none, { frames := 1, cells := 0, slots := 0, locals := 27 }, fun _ _ => True)
theorem plX10_addVertex : pln jX10_addVertex := ⟨by decide +kernel, rfl, rfl, rfl, fun _ _ => trivial⟩
set_option maxRecDepth 100000 in
theorem kbX10_addVertex : KB jX10_addVertex 3 := ⟨List.mem_filter.mpr ⟨List.mem_of_getElem? (i := 1396) (by decide +kernel), by decide +kernel⟩, List.mem_filter.mpr ⟨List.mem_of_getElem? (i := 96) (by decide +kernel), by decide +kernel⟩, by decide +kernel⟩
abbrev jX10_mid : MD := (RX10, yX10_mid, cX10_mid, 2, some .int, { frames := 0, cells := 0, slots := 0, locals := 0 }, fun _ _ => True)
theorem plX10_mid : pln jX10_mid := ⟨by decide +kernel, rfl, rfl, rfl, fun _ _ => trivial⟩
set_option maxRecDepth 100000 in
theorem kbX10_mid : KB jX10_mid 2 := ⟨List.mem_filter.mpr ⟨List.mem_of_getElem? (i := 1419) (by decide +kernel), by decide +kernel⟩, List.mem_filter.mpr ⟨List.mem_of_getElem? (i := 96) (by decide +kernel), by decide +kernel⟩, by decide +kernel⟩
abbrev jX10_push : MD := (RX10, yX10_push, cX10_push, 11, none, { frames := 0, cells := 0, slots := 0, locals := 0 }, fun _ _ => True)
theorem plX10_push : pln jX10_push := ⟨by decide +kernel, rfl, rfl, rfl, fun _ _ => trivial⟩
set_option maxRecDepth 100000 in
theorem kbX10_push : KB jX10_push 9 := ⟨List.mem_filter.mpr ⟨List.mem_of_getElem? (i := 1406) (by decide +kernel), by decide +kernel⟩, List.mem_filter.mpr ⟨List.mem_of_getElem? (i := 96) (by decide +kernel), by decide +kernel⟩, by decide +kernel⟩
abbrev jX10_bend : MD := (RX10, yX10_bend, cX10_bend, 3, some .int, { frames := 1, cells := 0, slots := 0, locals := 20 }, fun _ _ => True)
theorem plX10_bend : pln jX10_bend := ⟨by decide +kernel, rfl, rfl, rfl, fun _ _ => trivial⟩
set_option maxRecDepth 100000 in
theorem kbX10_bend : KB jX10_bend 3 := ⟨List.mem_filter.mpr ⟨List.mem_of_getElem? (i := 1413) (by decide +kernel), by decide +kernel⟩, List.mem_filter.mpr ⟨List.mem_of_getElem? (i := 96) (by decide +kernel), by decide +kernel⟩, by decide +kernel⟩
abbrev jX10_flattenQuad : MD := (RX10, yX10_flattenQuad, cX10_flattenQuad, 17, none, { frames := 2, cells := 0, slots := 0, locals := 56 }, fun _ _ => True)
theorem plX10_flattenQuad : pln jX10_flattenQuad := ⟨by decide +kernel, rfl, rfl, rfl, fun _ _ => trivial⟩
set_option maxRecDepth 100000 in
theorem kbX10_flattenQuad : KB jX10_flattenQuad 1 := ⟨List.mem_filter.mpr ⟨List.mem_of_getElem? (i := 1410) (by decide +kernel), by decide +kernel⟩, List.mem_filter.mpr ⟨List.mem_of_getElem? (i := 96) (by decide +kernel), by decide +kernel⟩, by decide +kernel⟩
abbrev jX10_flattenCubic : MD := (RX10, yX10_flattenCubic, cX10_flattenCubic, 26, none, { frames := 2, cells := 0, slots := 0, locals := 56 }, fun _ _ => True)
theorem plX10_flattenCubic : pln jX10_flattenCubic := ⟨by decide +kernel, rfl, rfl, rfl, fun _ _ => trivial⟩
set_option maxRecDepth 100000 in
theorem kbX10_flattenCubic : KB jX10_flattenCubic 1 := ⟨List.mem_filter.mpr ⟨List.mem_of_getElem? (i := 1423) (by decide +kernel), by decide +kernel⟩, List.mem_filter.mpr ⟨List.mem_of_getElem? (i := 96) (by decide +kernel), by decide +kernel⟩, by decide +kernel⟩
abbrev jX10_flatten : MD := (RX10, yX10_flatten, cX10_flatten, 3, none, { frames := 3, cells := 0, slots := 0, locals := 101 }, fun _ _ => True)
theorem plX10_flatten : pln jX10_flatten := ⟨by decide +kernel, rfl, rfl, rfl, fun _ _ => trivial⟩
set_option maxRecDepth 100000 in
theorem kbX10_flatten : KB jX10_flatten 0 := ⟨List.mem_filter.mpr ⟨List.mem_of_getElem? (i := 1380) (by decide +kernel), by decide +kernel⟩, List.mem_filter.mpr ⟨List.mem_of_getElem? (i := 96) (by decide +kernel), by decide +kernel⟩, by decide +kernel⟩
abbrev jX10_verticesOf : MD := (RX10, yX10_verticesOf, cX10_verticesOf, 2, some .int, { frames := 0, cells := 0, slots := 0, locals := 0 }, fun _ _ => True)
theorem plX10_verticesOf : pln jX10_verticesOf := ⟨by decide +kernel, rfl, rfl, rfl, fun _ _ => trivial⟩
set_option maxRecDepth 100000 in
theorem kbX10_verticesOf : KB jX10_verticesOf 1 := ⟨List.mem_filter.mpr ⟨List.mem_of_getElem? (i := 1525) (by decide +kernel), by decide +kernel⟩, List.mem_filter.mpr ⟨List.mem_of_getElem? (i := 96) (by decide +kernel), by decide +kernel⟩, by decide +kernel⟩
abbrev jX10_lengthOfContour : MD := (RX10, yX10_lengthOfContour, cX10_lengthOfContour, 2, some .int, { frames := 0, cells := 0, slots := 0, locals := 0 }, fun _ _ => True)
theorem plX10_lengthOfContour : pln jX10_lengthOfContour := ⟨by decide +kernel, rfl, rfl, rfl, fun _ _ => trivial⟩
set_option maxRecDepth 100000 in
theorem kbX10_lengthOfContour : KB jX10_lengthOfContour 1 := ⟨List.mem_filter.mpr ⟨List.mem_of_getElem? (i := 1529) (by decide +kernel), by decide +kernel⟩, List.mem_filter.mpr ⟨List.mem_of_getElem? (i := 96) (by decide +kernel), by decide +kernel⟩, by decide +kernel⟩
abbrev jX10_isClosed : MD := (RX10, yX10_isClosed, cX10_isClosed, 2, some .boolean, { frames := 2, cells := 0, slots := 0, locals := 44 }, fun _ _ => True)
theorem plX10_isClosed : pln jX10_isClosed := ⟨by decide +kernel, rfl, rfl, rfl, fun _ _ => trivial⟩
set_option maxRecDepth 100000 in
theorem kbX10_isClosed : KB jX10_isClosed 1 := ⟨List.mem_filter.mpr ⟨List.mem_of_getElem? (i := 1533) (by decide +kernel), by decide +kernel⟩, List.mem_filter.mpr ⟨List.mem_of_getElem? (i := 96) (by decide +kernel), by decide +kernel⟩, by decide +kernel⟩
abbrev jX10_segmentAt : MD := (RX10, yX10_segmentAt, cX10_segmentAt, 3, some .int, { frames := 0, cells := 0, slots := 0, locals := 0 }, fun _ _ => True)
theorem plX10_segmentAt : pln jX10_segmentAt := ⟨by decide +kernel, rfl, rfl, rfl, fun _ _ => trivial⟩
set_option maxRecDepth 100000 in
theorem kbX10_segmentAt : KB jX10_segmentAt 2 := ⟨List.mem_filter.mpr ⟨List.mem_of_getElem? (i := 1553) (by decide +kernel), by decide +kernel⟩, List.mem_filter.mpr ⟨List.mem_of_getElem? (i := 96) (by decide +kernel), by decide +kernel⟩, by decide +kernel⟩
abbrev jX10_measured : MD := (RX10, yX10_measured, cX10_measured, 3, some .int, { frames := 3, cells := 0, slots := 0, locals := 65 }, fun _ _ => True)
theorem plX10_measured : pln jX10_measured := ⟨by decide +kernel, rfl, rfl, rfl, fun _ _ => trivial⟩
set_option maxRecDepth 100000 in
theorem kbX10_measured : KB jX10_measured 2 := ⟨List.mem_filter.mpr ⟨List.mem_of_getElem? (i := 1521) (by decide +kernel), by decide +kernel⟩, List.mem_filter.mpr ⟨List.mem_of_getElem? (i := 96) (by decide +kernel), by decide +kernel⟩, by decide +kernel⟩
abbrev jX10_measure : MD := (RX10, yX10_measure, cX10_measure, 5, some .int, { frames := 4, cells := 0, slots := 0, locals := 123 }, fun _ _ => True)
theorem plX10_measure : pln jX10_measure := ⟨by decide +kernel, rfl, rfl, rfl, fun _ _ => trivial⟩
set_option maxRecDepth 100000 in
theorem kbX10_measure : KB jX10_measure 2 := ⟨List.mem_filter.mpr ⟨List.mem_of_getElem? (i := 1517) (by decide +kernel), by decide +kernel⟩, List.mem_filter.mpr ⟨List.mem_of_getElem? (i := 96) (by decide +kernel), by decide +kernel⟩, by decide +kernel⟩
abbrev jX10_vertex : MD := (RX10, yX10_vertex, cX10_vertex, 5, some .int, { frames := 4, cells := 0, slots := 0, locals := 123 }, fun _ _ => True)
theorem plX10_vertex : pln jX10_vertex := ⟨by decide +kernel, rfl, rfl, rfl, fun _ _ => trivial⟩
set_option maxRecDepth 100000 in
theorem kbX10_vertex : KB jX10_vertex 3 := ⟨List.mem_filter.mpr ⟨List.mem_of_getElem? (i := 1537) (by decide +kernel), by decide +kernel⟩, List.mem_filter.mpr ⟨List.mem_of_getElem? (i := 96) (by decide +kernel), by decide +kernel⟩, by decide +kernel⟩
abbrev jX10_vertexFor : MD := (RX10, yX10_vertexFor, cX10_vertexFor, 4, some .int, { frames := 0, cells := 0, slots := 0, locals := 0 }, fun _ _ => True)
theorem plX10_vertexFor : pln jX10_vertexFor := ⟨by decide +kernel, rfl, rfl, rfl, fun _ _ => trivial⟩
set_option maxRecDepth 100000 in
theorem kbX10_vertexFor : KB jX10_vertexFor 2 := ⟨List.mem_filter.mpr ⟨List.mem_of_getElem? (i := 1549) (by decide +kernel), by decide +kernel⟩, List.mem_filter.mpr ⟨List.mem_of_getElem? (i := 96) (by decide +kernel), by decide +kernel⟩, by decide +kernel⟩
abbrev jX10_placeAt : MD := (RX10, yX10_placeAt, cX10_placeAt, 13, some .int, { frames := 1, cells := 0, slots := 0, locals := 23 }, fun _ _ => True)
theorem plX10_placeAt : pln jX10_placeAt := ⟨by decide +kernel, rfl, rfl, rfl, fun _ _ => trivial⟩
set_option maxRecDepth 100000 in
theorem kbX10_placeAt : KB jX10_placeAt 3 := ⟨List.mem_filter.mpr ⟨List.mem_of_getElem? (i := 1545) (by decide +kernel), by decide +kernel⟩, List.mem_filter.mpr ⟨List.mem_of_getElem? (i := 96) (by decide +kernel), by decide +kernel⟩, by decide +kernel⟩
abbrev jX10_at : MD := (RX10, yX10_at, cX10_at, 4, some .int, { frames := 4, cells := 0, slots := 0, locals := 123 }, fun _ _ => True)
theorem plX10_at : pln jX10_at := ⟨by decide +kernel, rfl, rfl, rfl, fun _ _ => trivial⟩
set_option maxRecDepth 100000 in
theorem kbX10_at : KB jX10_at 3 := ⟨List.mem_filter.mpr ⟨List.mem_of_getElem? (i := 1541) (by decide +kernel), by decide +kernel⟩, List.mem_filter.mpr ⟨List.mem_of_getElem? (i := 96) (by decide +kernel), by decide +kernel⟩, by decide +kernel⟩
abbrev jX10_nearest : MD := (RX10, yX10_nearest, cX10_nearest, 27, some .int, { frames := 4, cells := 0, slots := 0, locals := 123 }, fun _ _ => True)
theorem plX10_nearest : pln jX10_nearest := ⟨by decide +kernel, rfl, rfl, rfl, fun _ _ => trivial⟩
set_option maxRecDepth 100000 in
theorem kbX10_nearest : KB jX10_nearest 3 := ⟨List.mem_filter.mpr ⟨List.mem_of_getElem? (i := 1557) (by decide +kernel), by decide +kernel⟩, List.mem_filter.mpr ⟨List.mem_of_getElem? (i := 96) (by decide +kernel), by decide +kernel⟩, by decide +kernel⟩
abbrev jX10_turnsRound : MD := (RX10, yX10_turnsRound, cX10_turnsRound, 14, some .int, { frames := 0, cells := 0, slots := 0, locals := 0 }, fun _ _ => True)
theorem plX10_turnsRound : pln jX10_turnsRound := ⟨by decide +kernel, rfl, rfl, rfl, fun _ _ => trivial⟩
set_option maxRecDepth 100000 in
theorem kbX10_turnsRound : KB jX10_turnsRound 6 := ⟨List.mem_filter.mpr ⟨List.mem_of_getElem? (i := 1565) (by decide +kernel), by decide +kernel⟩, List.mem_filter.mpr ⟨List.mem_of_getElem? (i := 96) (by decide +kernel), by decide +kernel⟩, by decide +kernel⟩
abbrev jX10_winding : MD := (RX10, yX10_winding, cX10_winding, 7, some .int, { frames := 4, cells := 0, slots := 0, locals := 123 }, fun _ _ => True)
theorem plX10_winding : pln jX10_winding := ⟨by decide +kernel, rfl, rfl, rfl, fun _ _ => trivial⟩
set_option maxRecDepth 100000 in
theorem kbX10_winding : KB jX10_winding 2 := ⟨List.mem_filter.mpr ⟨List.mem_of_getElem? (i := 1562) (by decide +kernel), by decide +kernel⟩, List.mem_filter.mpr ⟨List.mem_of_getElem? (i := 96) (by decide +kernel), by decide +kernel⟩, by decide +kernel⟩
abbrev jX10_area : MD := (RX10, yX10_area, cX10_area, 6, some .long, { frames := 4, cells := 0, slots := 0, locals := 123 }, fun _ _ => True)
theorem plX10_area : pln jX10_area := ⟨by decide +kernel, rfl, rfl, rfl, fun _ _ => trivial⟩
set_option maxRecDepth 100000 in
theorem kbX10_area : KB jX10_area 1 := ⟨List.mem_filter.mpr ⟨List.mem_of_getElem? (i := 1569) (by decide +kernel), by decide +kernel⟩, List.mem_filter.mpr ⟨List.mem_of_getElem? (i := 96) (by decide +kernel), by decide +kernel⟩, by decide +kernel⟩
abbrev jX10_bound : MD := (RX10, yX10_bound, cX10_bound, 8, some .int, { frames := 4, cells := 0, slots := 0, locals := 123 }, fun _ _ => True)
theorem plX10_bound : pln jX10_bound := ⟨by decide +kernel, rfl, rfl, rfl, fun _ _ => trivial⟩
set_option maxRecDepth 100000 in
theorem kbX10_bound : KB jX10_bound 2 := ⟨List.mem_filter.mpr ⟨List.mem_of_getElem? (i := 1574) (by decide +kernel), by decide +kernel⟩, List.mem_filter.mpr ⟨List.mem_of_getElem? (i := 96) (by decide +kernel), by decide +kernel⟩, by decide +kernel⟩
abbrev jX10_farthest : MD := (RX10, yX10_farthest, cX10_farthest, 22, some .int, { frames := 0, cells := 0, slots := 0, locals := 0 }, fun _ _ => True)
theorem plX10_farthest : pln jX10_farthest := ⟨by decide +kernel, rfl, rfl, rfl, fun _ _ => trivial⟩
set_option maxRecDepth 100000 in
theorem kbX10_farthest : KB jX10_farthest 3 := ⟨List.mem_filter.mpr ⟨List.mem_of_getElem? (i := 1582) (by decide +kernel), by decide +kernel⟩, List.mem_filter.mpr ⟨List.mem_of_getElem? (i := 96) (by decide +kernel), by decide +kernel⟩, by decide +kernel⟩
abbrev jX10_simplified : MD := (RX10, yX10_simplified, cX10_simplified, 9, some .int, { frames := 4, cells := 0, slots := 0, locals := 123 }, fun _ _ => True)
theorem plX10_simplified : pln jX10_simplified := ⟨by decide +kernel, rfl, rfl, rfl, fun _ _ => trivial⟩
set_option maxRecDepth 100000 in
theorem kbX10_simplified : KB jX10_simplified 3 := ⟨List.mem_filter.mpr ⟨List.mem_of_getElem? (i := 1578) (by decide +kernel), by decide +kernel⟩, List.mem_filter.mpr ⟨List.mem_of_getElem? (i := 96) (by decide +kernel), by decide +kernel⟩, by decide +kernel⟩
abbrev jX10_addDash : MD := (RX10, yX10_addDash, cX10_addDash, 2, some .int, { frames := 1, cells := 0, slots := 0, locals := 22 }, fun _ _ => True)
theorem plX10_addDash : pln jX10_addDash := ⟨by decide +kernel, rfl, rfl, rfl, fun _ _ => trivial⟩
set_option maxRecDepth 100000 in
theorem kbX10_addDash : KB jX10_addDash 1 := ⟨List.mem_filter.mpr ⟨List.mem_of_getElem? (i := 1586) (by decide +kernel), by decide +kernel⟩, List.mem_filter.mpr ⟨List.mem_of_getElem? (i := 96) (by decide +kernel), by decide +kernel⟩, by decide +kernel⟩
abbrev jX10_clearDashes : MD := (RX10, yX10_clearDashes, cX10_clearDashes, 3, some .int, { frames := 1, cells := 0, slots := 0, locals := 22 }, fun _ _ => True)
theorem plX10_clearDashes : pln jX10_clearDashes := ⟨by decide +kernel, rfl, rfl, rfl, fun _ _ => trivial⟩
set_option maxRecDepth 100000 in
theorem kbX10_clearDashes : KB jX10_clearDashes 1 := ⟨List.mem_filter.mpr ⟨List.mem_of_getElem? (i := 1591) (by decide +kernel), by decide +kernel⟩, List.mem_filter.mpr ⟨List.mem_of_getElem? (i := 96) (by decide +kernel), by decide +kernel⟩, by decide +kernel⟩
abbrev jX10_layDashes : MD := (RX10, yX10_layDashes, cX10_layDashes, 8, some .int, { frames := 0, cells := 0, slots := 0, locals := 0 }, fun _ _ => True)
theorem plX10_layDashes : pln jX10_layDashes := ⟨by decide +kernel, rfl, rfl, rfl, fun _ _ => trivial⟩
set_option maxRecDepth 100000 in
theorem kbX10_layDashes : KB jX10_layDashes 1 := ⟨List.mem_filter.mpr ⟨List.mem_of_getElem? (i := 1599) (by decide +kernel), by decide +kernel⟩, List.mem_filter.mpr ⟨List.mem_of_getElem? (i := 96) (by decide +kernel), by decide +kernel⟩, by decide +kernel⟩
abbrev jX10_dash : MD := (RX10, yX10_dash, cX10_dash, 5, some .int, { frames := 4, cells := 0, slots := 0, locals := 123 }, fun _ _ => True)
theorem plX10_dash : pln jX10_dash := ⟨by decide +kernel, rfl, rfl, rfl, fun _ _ => trivial⟩
set_option maxRecDepth 100000 in
theorem kbX10_dash : KB jX10_dash 3 := ⟨List.mem_filter.mpr ⟨List.mem_of_getElem? (i := 1595) (by decide +kernel), by decide +kernel⟩, List.mem_filter.mpr ⟨List.mem_of_getElem? (i := 96) (by decide +kernel), by decide +kernel⟩, by decide +kernel⟩
abbrev jX10_isLetter : MD := (RX10, yX10_isLetter, cX10_isLetter, 1, some .boolean, { frames := 1, cells := 0, slots := 0, locals := 22 }, fun _ _ => True)
theorem plX10_isLetter : pln jX10_isLetter := ⟨by decide +kernel, rfl, rfl, rfl, fun _ _ => trivial⟩
set_option maxRecDepth 100000 in
theorem kbX10_isLetter : KB jX10_isLetter 1 := ⟨List.mem_filter.mpr ⟨List.mem_of_getElem? (i := 1606) (by decide +kernel), by decide +kernel⟩, List.mem_filter.mpr ⟨List.mem_of_getElem? (i := 96) (by decide +kernel), by decide +kernel⟩, by decide +kernel⟩
abbrev jX10_setWidth : MD := (RX10, yX10_setWidth, cX10_setWidth, 4, some .int, { frames := 2, cells := 0, slots := 0, locals := 42 }, fun _ _ => True)
theorem plX10_setWidth : pln jX10_setWidth := ⟨by decide +kernel, rfl, rfl, rfl, fun _ _ => trivial⟩
set_option maxRecDepth 100000 in
theorem kbX10_setWidth : KB jX10_setWidth 2 := ⟨List.mem_filter.mpr ⟨List.mem_of_getElem? (i := 1603) (by decide +kernel), by decide +kernel⟩, List.mem_filter.mpr ⟨List.mem_of_getElem? (i := 96) (by decide +kernel), by decide +kernel⟩, by decide +kernel⟩
abbrev jX10_setKerning : MD := (RX10, yX10_setKerning, cX10_setKerning, 6, some .int, { frames := 2, cells := 0, slots := 0, locals := 42 }, fun _ _ => True)
theorem plX10_setKerning : pln jX10_setKerning := ⟨by decide +kernel, rfl, rfl, rfl, fun _ _ => trivial⟩
set_option maxRecDepth 100000 in
theorem kbX10_setKerning : KB jX10_setKerning 3 := ⟨List.mem_filter.mpr ⟨List.mem_of_getElem? (i := 1610) (by decide +kernel), by decide +kernel⟩, List.mem_filter.mpr ⟨List.mem_of_getElem? (i := 96) (by decide +kernel), by decide +kernel⟩, by decide +kernel⟩
abbrev jX10_write : MD := (RX10, yX10_write, cX10_write, 2, some .int, { frames := 2, cells := 0, slots := 0, locals := 42 }, fun _ _ => True)
theorem plX10_write : pln jX10_write := ⟨by decide +kernel, rfl, rfl, rfl, fun _ _ => trivial⟩
set_option maxRecDepth 100000 in
theorem kbX10_write : KB jX10_write 1 := ⟨List.mem_filter.mpr ⟨List.mem_of_getElem? (i := 1614) (by decide +kernel), by decide +kernel⟩, List.mem_filter.mpr ⟨List.mem_of_getElem? (i := 96) (by decide +kernel), by decide +kernel⟩, by decide +kernel⟩
abbrev jX10_erase : MD := (RX10, yX10_erase, cX10_erase, 2, some .int, { frames := 0, cells := 0, slots := 0, locals := 0 }, fun _ _ => True)
theorem plX10_erase : pln jX10_erase := ⟨by decide +kernel, rfl, rfl, rfl, fun _ _ => trivial⟩
set_option maxRecDepth 100000 in
theorem kbX10_erase : KB jX10_erase 0 := ⟨List.mem_filter.mpr ⟨List.mem_of_getElem? (i := 1618) (by decide +kernel), by decide +kernel⟩, List.mem_filter.mpr ⟨List.mem_of_getElem? (i := 96) (by decide +kernel), by decide +kernel⟩, by decide +kernel⟩
abbrev jX10_arrange : MD := (RX10, yX10_arrange, cX10_arrange, 4, some .int, { frames := 1, cells := 0, slots := 0, locals := 22 }, fun _ _ => True)
theorem plX10_arrange : pln jX10_arrange := ⟨by decide +kernel, rfl, rfl, rfl, fun _ _ => trivial⟩
set_option maxRecDepth 100000 in
theorem kbX10_arrange : KB jX10_arrange 3 := ⟨List.mem_filter.mpr ⟨List.mem_of_getElem? (i := 1622) (by decide +kernel), by decide +kernel⟩, List.mem_filter.mpr ⟨List.mem_of_getElem? (i := 96) (by decide +kernel), by decide +kernel⟩, by decide +kernel⟩
abbrev jX10_widthOf : MD := (RX10, yX10_widthOf, cX10_widthOf, 2, some .int, { frames := 0, cells := 0, slots := 0, locals := 0 }, fun _ _ => True)
theorem plX10_widthOf : pln jX10_widthOf := ⟨by decide +kernel, rfl, rfl, rfl, fun _ _ => trivial⟩
set_option maxRecDepth 100000 in
theorem kbX10_widthOf : KB jX10_widthOf 1 := ⟨List.mem_filter.mpr ⟨List.mem_of_getElem? (i := 1642) (by decide +kernel), by decide +kernel⟩, List.mem_filter.mpr ⟨List.mem_of_getElem? (i := 96) (by decide +kernel), by decide +kernel⟩, by decide +kernel⟩
abbrev jX10_advance : MD := (RX10, yX10_advance, cX10_advance, 2, some .int, { frames := 1, cells := 0, slots := 0, locals := 21 }, fun _ _ => True)
theorem plX10_advance : pln jX10_advance := ⟨by decide +kernel, rfl, rfl, rfl, fun _ _ => trivial⟩
set_option maxRecDepth 100000 in
theorem kbX10_advance : KB jX10_advance 1 := ⟨List.mem_filter.mpr ⟨List.mem_of_getElem? (i := 1646) (by decide +kernel), by decide +kernel⟩, List.mem_filter.mpr ⟨List.mem_of_getElem? (i := 96) (by decide +kernel), by decide +kernel⟩, by decide +kernel⟩
abbrev jX10_hasSegments : MD := (RX10, yX10_hasSegments, cX10_hasSegments, 2, some .boolean, { frames := 1, cells := 0, slots := 0, locals := 21 }, fun _ _ => True)
theorem plX10_hasSegments : pln jX10_hasSegments := ⟨by decide +kernel, rfl, rfl, rfl, fun _ _ => trivial⟩
set_option maxRecDepth 100000 in
theorem kbX10_hasSegments : KB jX10_hasSegments 1 := ⟨List.mem_filter.mpr ⟨List.mem_of_getElem? (i := 1638) (by decide +kernel), by decide +kernel⟩, List.mem_filter.mpr ⟨List.mem_of_getElem? (i := 96) (by decide +kernel), by decide +kernel⟩, by decide +kernel⟩
abbrev jX10_layOne : MD := (RX10, yX10_layOne, cX10_layOne, 9, none, { frames := 3, cells := 0, slots := 0, locals := 65 }, fun _ _ => True)
theorem plX10_layOne : pln jX10_layOne := ⟨by decide +kernel, rfl, rfl, rfl, fun _ _ => trivial⟩
set_option maxRecDepth 100000 in
theorem kbX10_layOne : KB jX10_layOne 1 := ⟨List.mem_filter.mpr ⟨List.mem_of_getElem? (i := 1650) (by decide +kernel), by decide +kernel⟩, List.mem_filter.mpr ⟨List.mem_of_getElem? (i := 96) (by decide +kernel), by decide +kernel⟩, by decide +kernel⟩
abbrev jX10_layOn : MD := (RX10, yX10_layOn, cX10_layOn, 6, none, { frames := 2, cells := 0, slots := 0, locals := 42 }, fun _ _ => True)
theorem plX10_layOn : pln jX10_layOn := ⟨by decide +kernel, rfl, rfl, rfl, fun _ _ => trivial⟩
set_option maxRecDepth 100000 in
theorem kbX10_layOn : KB jX10_layOn 1 := ⟨List.mem_filter.mpr ⟨List.mem_of_getElem? (i := 1634) (by decide +kernel), by decide +kernel⟩, List.mem_filter.mpr ⟨List.mem_of_getElem? (i := 96) (by decide +kernel), by decide +kernel⟩, by decide +kernel⟩
abbrev jX10_layLetters : MD := (RX10, yX10_layLetters, cX10_layLetters, 2, none, { frames := 4, cells := 0, slots := 0, locals := 123 }, fun _ _ => True)
theorem plX10_layLetters : pln jX10_layLetters := ⟨by decide +kernel, rfl, rfl, rfl, fun _ _ => trivial⟩
set_option maxRecDepth 100000 in
theorem kbX10_layLetters : KB jX10_layLetters 1 := ⟨List.mem_filter.mpr ⟨List.mem_of_getElem? (i := 1630) (by decide +kernel), by decide +kernel⟩, List.mem_filter.mpr ⟨List.mem_of_getElem? (i := 96) (by decide +kernel), by decide +kernel⟩, by decide +kernel⟩
abbrev jX10_letter : MD := (RX10, yX10_letter, cX10_letter, 5, some .int, { frames := 5, cells := 0, slots := 0, locals := 144 }, fun _ _ => True)
theorem plX10_letter : pln jX10_letter := ⟨by decide +kernel, rfl, rfl, rfl, fun _ _ => trivial⟩
set_option maxRecDepth 100000 in
theorem kbX10_letter : KB jX10_letter 3 := ⟨List.mem_filter.mpr ⟨List.mem_of_getElem? (i := 1626) (by decide +kernel), by decide +kernel⟩, List.mem_filter.mpr ⟨List.mem_of_getElem? (i := 96) (by decide +kernel), by decide +kernel⟩, by decide +kernel⟩
abbrev jX10_turnsBack : MD := (RX10, yX10_turnsBack, cX10_turnsBack, 8, some .boolean, { frames := 2, cells := 0, slots := 0, locals := 55 }, fun _ _ => True)
theorem plX10_turnsBack : pln jX10_turnsBack := ⟨by decide +kernel, rfl, rfl, rfl, fun _ _ => trivial⟩
set_option maxRecDepth 100000 in
theorem kbX10_turnsBack : KB jX10_turnsBack 2 := ⟨List.mem_filter.mpr ⟨List.mem_of_getElem? (i := 1658) (by decide +kernel), by decide +kernel⟩, List.mem_filter.mpr ⟨List.mem_of_getElem? (i := 96) (by decide +kernel), by decide +kernel⟩, by decide +kernel⟩
abbrev jX10_placed : MD := (RX10, yX10_placed, cX10_placed, 7, some .int, { frames := 5, cells := 0, slots := 0, locals := 144 }, fun _ _ => True)
theorem plX10_placed : pln jX10_placed := ⟨by decide +kernel, rfl, rfl, rfl, fun _ _ => trivial⟩
set_option maxRecDepth 100000 in
theorem kbX10_placed : KB jX10_placed 2 := ⟨List.mem_filter.mpr ⟨List.mem_of_getElem? (i := 1654) (by decide +kernel), by decide +kernel⟩, List.mem_filter.mpr ⟨List.mem_of_getElem? (i := 96) (by decide +kernel), by decide +kernel⟩, by decide +kernel⟩
abbrev jX10_count : MD := (RX10, yX10_count, cX10_count, 2, some .int, { frames := 3, cells := 0, slots := 0, locals := 64 }, fun _ _ => True)
theorem plX10_count : pln jX10_count := ⟨by decide +kernel, rfl, rfl, rfl, fun _ _ => trivial⟩
set_option maxRecDepth 100000 in
theorem kbX10_count : KB jX10_count 1 := ⟨List.mem_filter.mpr ⟨List.mem_of_getElem? (i := 1662) (by decide +kernel), by decide +kernel⟩, List.mem_filter.mpr ⟨List.mem_of_getElem? (i := 96) (by decide +kernel), by decide +kernel⟩, by decide +kernel⟩
abbrev jX10_save : MD := (RX10, yX10_save, cX10_save, 3, some .int, { frames := 1, cells := 0, slots := 0, locals := 22 }, fun _ _ => True)
theorem plX10_save : pln jX10_save := ⟨by decide +kernel, rfl, rfl, rfl, fun _ _ => trivial⟩
set_option maxRecDepth 100000 in
theorem kbX10_save : KB jX10_save 1 := ⟨List.mem_filter.mpr ⟨List.mem_of_getElem? (i := 1666) (by decide +kernel), by decide +kernel⟩, List.mem_filter.mpr ⟨List.mem_of_getElem? (i := 96) (by decide +kernel), by decide +kernel⟩, by decide +kernel⟩
abbrev jX10_restore : MD := (RX10, yX10_restore, cX10_restore, 3, some .int, { frames := 1, cells := 0, slots := 0, locals := 22 }, fun _ _ => True)
theorem plX10_restore : pln jX10_restore := ⟨by decide +kernel, rfl, rfl, rfl, fun _ _ => trivial⟩
set_option maxRecDepth 100000 in
theorem kbX10_restore : KB jX10_restore 1 := ⟨List.mem_filter.mpr ⟨List.mem_of_getElem? (i := 1670) (by decide +kernel), by decide +kernel⟩, List.mem_filter.mpr ⟨List.mem_of_getElem? (i := 96) (by decide +kernel), by decide +kernel⟩, by decide +kernel⟩
abbrev jJ11_isValidCodePoint_9a6ad : MD := (RJ11, yJ11_isValidCodePoint_9a6ad, cJ11_isValidCodePoint_9a6ad, 2, some .boolean, { frames := 0, cells := 0, slots := 0, locals := 0 }, fun _ _ => True)
theorem plJ11_isValidCodePoint_9a6ad : pln jJ11_isValidCodePoint_9a6ad := ⟨by decide +kernel, rfl, rfl, rfl, fun _ _ => trivial⟩
set_option maxRecDepth 100000 in
theorem kbJ11_isValidCodePoint_9a6ad : KB jJ11_isValidCodePoint_9a6ad 1 := ⟨List.mem_filter.mpr ⟨List.mem_of_getElem? (i := 756) (by decide +kernel), by decide +kernel⟩, List.mem_filter.mpr ⟨List.mem_of_getElem? (i := 103) (by decide +kernel), by decide +kernel⟩, by decide +kernel⟩
abbrev jJ11_highSurrogate_5068e : MD := (RJ11, yJ11_highSurrogate_5068e, cJ11_highSurrogate_5068e, 1, some .char, { frames := 0, cells := 0, slots := 0, locals := 0 }, fun _ _ => True)
theorem plJ11_highSurrogate_5068e : pln jJ11_highSurrogate_5068e := ⟨by decide +kernel, rfl, rfl, rfl, fun _ _ => trivial⟩
set_option maxRecDepth 100000 in
theorem kbJ11_highSurrogate_5068e : KB jJ11_highSurrogate_5068e 1 := ⟨List.mem_filter.mpr ⟨List.mem_of_getElem? (i := 759) (by decide +kernel), by decide +kernel⟩, List.mem_filter.mpr ⟨List.mem_of_getElem? (i := 103) (by decide +kernel), by decide +kernel⟩, by decide +kernel⟩
abbrev jJ11_lowSurrogate_5068e : MD := (RJ11, yJ11_lowSurrogate_5068e, cJ11_lowSurrogate_5068e, 1, some .char, { frames := 0, cells := 0, slots := 0, locals := 0 }, fun _ _ => True)
theorem plJ11_lowSurrogate_5068e : pln jJ11_lowSurrogate_5068e := ⟨by decide +kernel, rfl, rfl, rfl, fun _ _ => trivial⟩
set_option maxRecDepth 100000 in
theorem kbJ11_lowSurrogate_5068e : KB jJ11_lowSurrogate_5068e 1 := ⟨List.mem_filter.mpr ⟨List.mem_of_getElem? (i := 763) (by decide +kernel), by decide +kernel⟩, List.mem_filter.mpr ⟨List.mem_of_getElem? (i := 103) (by decide +kernel), by decide +kernel⟩, by decide +kernel⟩
abbrev jJ9_floorMod_7cf53 : MD := (RJ9, yJ9_floorMod_7cf53, cJ9_floorMod_7cf53, 3, some .int, { frames := 0, cells := 0, slots := 0, locals := 0 }, fun _ _ => True)
theorem plJ9_floorMod_7cf53 : pln jJ9_floorMod_7cf53 := ⟨by decide +kernel, rfl, rfl, rfl, fun _ _ => trivial⟩
set_option maxRecDepth 100000 in
theorem kbJ9_floorMod_7cf53 : KB jJ9_floorMod_7cf53 2 := ⟨List.mem_filter.mpr ⟨List.mem_of_getElem? (i := 1141) (by decide +kernel), by decide +kernel⟩, List.mem_filter.mpr ⟨List.mem_of_getElem? (i := 97) (by decide +kernel), by decide +kernel⟩, by decide +kernel⟩
abbrev jJ9_abs_0f7a4 : MD := (RJ9, yJ9_abs_0f7a4, cJ9_abs_0f7a4, 1, some .int, { frames := 0, cells := 0, slots := 0, locals := 0 }, fun _ _ => True)
theorem plJ9_abs_0f7a4 : pln jJ9_abs_0f7a4 := ⟨by decide +kernel, rfl, rfl, rfl, fun _ _ => trivial⟩
set_option maxRecDepth 100000 in
theorem kbJ9_abs_0f7a4 : KB jJ9_abs_0f7a4 1 := ⟨List.mem_filter.mpr ⟨List.mem_of_getElem? (i := 540) (by decide +kernel), by decide +kernel⟩, List.mem_filter.mpr ⟨List.mem_of_getElem? (i := 97) (by decide +kernel), by decide +kernel⟩, by decide +kernel⟩
abbrev jJ9_max_7cf53 : MD := (RJ9, yJ9_max_7cf53, cJ9_max_7cf53, 2, some .int, { frames := 0, cells := 0, slots := 0, locals := 0 }, fun _ _ => True)
theorem plJ9_max_7cf53 : pln jJ9_max_7cf53 := ⟨by decide +kernel, rfl, rfl, rfl, fun _ _ => trivial⟩
set_option maxRecDepth 100000 in
theorem kbJ9_max_7cf53 : KB jJ9_max_7cf53 2 := ⟨List.mem_filter.mpr ⟨List.mem_of_getElem? (i := 709) (by decide +kernel), by decide +kernel⟩, List.mem_filter.mpr ⟨List.mem_of_getElem? (i := 97) (by decide +kernel), by decide +kernel⟩, by decide +kernel⟩
abbrev jJ9_max_f86c9 : MD := (RJ9, yJ9_max_f86c9, cJ9_max_f86c9, 4, some .long, { frames := 0, cells := 0, slots := 0, locals := 0 }, fun _ _ => True)
theorem plJ9_max_f86c9 : pln jJ9_max_f86c9 := ⟨by decide +kernel, rfl, rfl, rfl, fun _ _ => trivial⟩
set_option maxRecDepth 100000 in
theorem kbJ9_max_f86c9 : KB jJ9_max_f86c9 2 := ⟨List.mem_filter.mpr ⟨List.mem_of_getElem? (i := 940) (by decide +kernel), by decide +kernel⟩, List.mem_filter.mpr ⟨List.mem_of_getElem? (i := 97) (by decide +kernel), by decide +kernel⟩, by decide +kernel⟩
abbrev jJ9_min_7cf53 : MD := (RJ9, yJ9_min_7cf53, cJ9_min_7cf53, 2, some .int, { frames := 0, cells := 0, slots := 0, locals := 0 }, fun _ _ => True)
theorem plJ9_min_7cf53 : pln jJ9_min_7cf53 := ⟨by decide +kernel, rfl, rfl, rfl, fun _ _ => trivial⟩
set_option maxRecDepth 100000 in
theorem kbJ9_min_7cf53 : KB jJ9_min_7cf53 2 := ⟨List.mem_filter.mpr ⟨List.mem_of_getElem? (i := 712) (by decide +kernel), by decide +kernel⟩, List.mem_filter.mpr ⟨List.mem_of_getElem? (i := 97) (by decide +kernel), by decide +kernel⟩, by decide +kernel⟩
abbrev jJ9_min_f86c9 : MD := (RJ9, yJ9_min_f86c9, cJ9_min_f86c9, 4, some .long, { frames := 0, cells := 0, slots := 0, locals := 0 }, fun _ _ => True)
theorem plJ9_min_f86c9 : pln jJ9_min_f86c9 := ⟨by decide +kernel, rfl, rfl, rfl, fun _ _ => trivial⟩
set_option maxRecDepth 100000 in
theorem kbJ9_min_f86c9 : KB jJ9_min_f86c9 2 := ⟨List.mem_filter.mpr ⟨List.mem_of_getElem? (i := 943) (by decide +kernel), by decide +kernel⟩, List.mem_filter.mpr ⟨List.mem_of_getElem? (i := 97) (by decide +kernel), by decide +kernel⟩, by decide +kernel⟩
abbrev jJ0_length_8abf5 : MD := (RJ0, yJ0_length_8abf5, cJ0_length_8abf5, 1, some .int, { frames := 1, cells := 0, slots := 0, locals := 20 }, fun _ _ => True)
theorem plJ0_length_8abf5 : pln jJ0_length_8abf5 := ⟨by decide +kernel, rfl, rfl, rfl, fun _ _ => trivial⟩
set_option maxRecDepth 100000 in
theorem kbJ0_length_8abf5 : KB jJ0_length_8abf5 0 := ⟨List.mem_filter.mpr ⟨List.mem_of_getElem? (i := 696) (by decide +kernel), by decide +kernel⟩, List.mem_filter.mpr ⟨List.mem_of_getElem? (i := 99) (by decide +kernel), by decide +kernel⟩, by decide +kernel⟩
abbrev jJ0_charAt_5068e : MD := (RJ0, yJ0_charAt_5068e, cJ0_charAt_5068e, 2, some .char, { frames := 4, cells := 0, slots := 0, locals := 85 }, fun _ _ => True)
theorem plJ0_charAt_5068e : pln jJ0_charAt_5068e := ⟨by decide +kernel, rfl, rfl, rfl, fun _ _ => trivial⟩
set_option maxRecDepth 100000 in
theorem kbJ0_charAt_5068e : KB jJ0_charAt_5068e 1 := ⟨List.mem_filter.mpr ⟨List.mem_of_getElem? (i := 811) (by decide +kernel), by decide +kernel⟩, List.mem_filter.mpr ⟨List.mem_of_getElem? (i := 99) (by decide +kernel), by decide +kernel⟩, by decide +kernel⟩
abbrev jJ0_indexOf_0f7a4 : MD := (RJ0, yJ0_indexOf_0f7a4, cJ0_indexOf_0f7a4, 2, some .int, { frames := 6, cells := 0, slots := 0, locals := 138 }, fun _ _ => True)
theorem plJ0_indexOf_0f7a4 : pln jJ0_indexOf_0f7a4 := ⟨by decide +kernel, rfl, rfl, rfl, fun _ _ => trivial⟩
set_option maxRecDepth 100000 in
theorem kbJ0_indexOf_0f7a4 : KB jJ0_indexOf_0f7a4 1 := ⟨List.mem_filter.mpr ⟨List.mem_of_getElem? (i := 682) (by decide +kernel), by decide +kernel⟩, List.mem_filter.mpr ⟨List.mem_of_getElem? (i := 99) (by decide +kernel), by decide +kernel⟩, by decide +kernel⟩
abbrev jJ0_indexOf_7cf53 : MD := (RJ0, yJ0_indexOf_7cf53, cJ0_indexOf_7cf53, 3, some .int, { frames := 5, cells := 0, slots := 0, locals := 116 }, fun _ _ => True)
theorem plJ0_indexOf_7cf53 : pln jJ0_indexOf_7cf53 := ⟨by decide +kernel, rfl, rfl, rfl, fun _ _ => trivial⟩
set_option maxRecDepth 100000 in
theorem kbJ0_indexOf_7cf53 : KB jJ0_indexOf_7cf53 2 := ⟨List.mem_filter.mpr ⟨List.mem_of_getElem? (i := 686) (by decide +kernel), by decide +kernel⟩, List.mem_filter.mpr ⟨List.mem_of_getElem? (i := 99) (by decide +kernel), by decide +kernel⟩, by decide +kernel⟩
abbrev jJ0_coder_7d493 : MD := (RJ0, yJ0_coder_7d493, cJ0_coder_7d493, 1, some .byte, { frames := 0, cells := 0, slots := 0, locals := 0 }, fun _ _ => True)
theorem plJ0_coder_7d493 : pln jJ0_coder_7d493 := ⟨by decide +kernel, rfl, rfl, rfl, fun _ _ => trivial⟩
set_option maxRecDepth 100000 in
theorem kbJ0_coder_7d493 : KB jJ0_coder_7d493 0 := ⟨List.mem_filter.mpr ⟨List.mem_of_getElem? (i := 700) (by decide +kernel), by decide +kernel⟩, List.mem_filter.mpr ⟨List.mem_of_getElem? (i := 99) (by decide +kernel), by decide +kernel⟩, by decide +kernel⟩
abbrev jJ0_isLatin1_aae02 : MD := (RJ0, yJ0_isLatin1_aae02, cJ0_isLatin1_aae02, 1, some .boolean, { frames := 0, cells := 0, slots := 0, locals := 0 }, fun _ _ => True)
theorem plJ0_isLatin1_aae02 : pln jJ0_isLatin1_aae02 := ⟨by decide +kernel, rfl, rfl, rfl, fun _ _ => trivial⟩
set_option maxRecDepth 100000 in
theorem kbJ0_isLatin1_aae02 : KB jJ0_isLatin1_aae02 0 := ⟨List.mem_filter.mpr ⟨List.mem_of_getElem? (i := 690) (by decide +kernel), by decide +kernel⟩, List.mem_filter.mpr ⟨List.mem_of_getElem? (i := 99) (by decide +kernel), by decide +kernel⟩, by decide +kernel⟩
abbrev jJ0_checkIndex_df160 : MD := (RJ0, yJ0_checkIndex_df160, cJ0_checkIndex_df160, 2, none, { frames := 1, cells := 0, slots := 0, locals := 22 }, fun _ _ => True)
theorem plJ0_checkIndex_df160 : pln jJ0_checkIndex_df160 := ⟨by decide +kernel, rfl, rfl, rfl, fun _ _ => trivial⟩
set_option maxRecDepth 100000 in
theorem kbJ0_checkIndex_df160 : KB jJ0_checkIndex_df160 2 := ⟨List.mem_filter.mpr ⟨List.mem_of_getElem? (i := 817) (by decide +kernel), by decide +kernel⟩, List.mem_filter.mpr ⟨List.mem_of_getElem? (i := 99) (by decide +kernel), by decide +kernel⟩, by decide +kernel⟩
abbrev jJ0_checkBoundsBeginEnd_23922 : MD := (RJ0, yJ0_checkBoundsBeginEnd_23922, cJ0_checkBoundsBeginEnd_23922, 3, none, { frames := 1, cells := 0, slots := 0, locals := 23 }, fun _ _ => True)
theorem plJ0_checkBoundsBeginEnd_23922 : pln jJ0_checkBoundsBeginEnd_23922 := ⟨by decide +kernel, rfl, rfl, rfl, fun _ _ => trivial⟩
set_option maxRecDepth 100000 in
theorem kbJ0_checkBoundsBeginEnd_23922 : KB jJ0_checkBoundsBeginEnd_23922 3 := ⟨List.mem_filter.mpr ⟨List.mem_of_getElem? (i := 733) (by decide +kernel), by decide +kernel⟩, List.mem_filter.mpr ⟨List.mem_of_getElem? (i := 99) (by decide +kernel), by decide +kernel⟩, by decide +kernel⟩
abbrev jJ1_charAt_3b067 : MD := (RJ1, yJ1_charAt_3b067, cJ1_charAt_3b067, 2, some .char, { frames := 2, cells := 0, slots := 0, locals := 43 }, fun _ _ => True)
theorem plJ1_charAt_3b067 : pln jJ1_charAt_3b067 := ⟨by decide +kernel, rfl, rfl, rfl, fun _ _ => trivial⟩
set_option maxRecDepth 100000 in
theorem kbJ1_charAt_3b067 : KB jJ1_charAt_3b067 2 := ⟨List.mem_filter.mpr ⟨List.mem_of_getElem? (i := 814) (by decide +kernel), by decide +kernel⟩, List.mem_filter.mpr ⟨List.mem_of_getElem? (i := 100) (by decide +kernel), by decide +kernel⟩, by decide +kernel⟩
abbrev jJ1_canEncode_9a6ad : MD := (RJ1, yJ1_canEncode_9a6ad, cJ1_canEncode_9a6ad, 1, some .boolean, { frames := 0, cells := 0, slots := 0, locals := 0 }, fun _ _ => True)
theorem plJ1_canEncode_9a6ad : pln jJ1_canEncode_9a6ad := ⟨by decide +kernel, rfl, rfl, rfl, fun _ _ => trivial⟩
set_option maxRecDepth 100000 in
theorem kbJ1_canEncode_9a6ad : KB jJ1_canEncode_9a6ad 1 := ⟨List.mem_filter.mpr ⟨List.mem_of_getElem? (i := 706) (by decide +kernel), by decide +kernel⟩, List.mem_filter.mpr ⟨List.mem_of_getElem? (i := 100) (by decide +kernel), by decide +kernel⟩, by decide +kernel⟩
abbrev jJ1_indexOf_4cfef : MD := (RJ1, yJ1_indexOf_4cfef, cJ1_indexOf_4cfef, 4, some .int, { frames := 1, cells := 0, slots := 0, locals := 40 }, fun _ _ => True)
theorem plJ1_indexOf_4cfef : pln jJ1_indexOf_4cfef := ⟨by decide +kernel, rfl, rfl, rfl, fun _ _ => trivial⟩
set_option maxRecDepth 100000 in
theorem kbJ1_indexOf_4cfef : KB jJ1_indexOf_4cfef 4 := ⟨List.mem_filter.mpr ⟨List.mem_of_getElem? (i := 703) (by decide +kernel), by decide +kernel⟩, List.mem_filter.mpr ⟨List.mem_of_getElem? (i := 100) (by decide +kernel), by decide +kernel⟩, by decide +kernel⟩
abbrev jJ1_indexOfChar_4cfef : MD := (RJ1, yJ1_indexOfChar_4cfef, cJ1_indexOfChar_4cfef, 6, some .int, { frames := 0, cells := 0, slots := 0, locals := 0 }, fun _ _ => True)
theorem plJ1_indexOfChar_4cfef : pln jJ1_indexOfChar_4cfef := ⟨by decide +kernel, rfl, rfl, rfl, fun _ _ => trivial⟩
set_option maxRecDepth 100000 in
theorem kbJ1_indexOfChar_4cfef : KB jJ1_indexOfChar_4cfef 4 := ⟨List.mem_filter.mpr ⟨List.mem_of_getElem? (i := 715) (by decide +kernel), by decide +kernel⟩, List.mem_filter.mpr ⟨List.mem_of_getElem? (i := 100) (by decide +kernel), by decide +kernel⟩, by decide +kernel⟩
abbrev jJ2_getChar_3b067 : MD := (RJ2, yJ2_getChar_3b067, cJ2_getChar_3b067, 2, some .char, { frames := 1, cells := 0, slots := 0, locals := 20 }, fun _ _ => True)
theorem plJ2_getChar_3b067 : pln jJ2_getChar_3b067 := ⟨by decide +kernel, rfl, rfl, rfl, fun _ _ => trivial⟩
set_option maxRecDepth 100000 in
theorem kbJ2_getChar_3b067 : KB jJ2_getChar_3b067 2 := ⟨List.mem_filter.mpr ⟨List.mem_of_getElem? (i := 744) (by decide +kernel), by decide +kernel⟩, List.mem_filter.mpr ⟨List.mem_of_getElem? (i := 101) (by decide +kernel), by decide +kernel⟩, by decide +kernel⟩
abbrev jJ2_length_9d52b : MD := (RJ2, yJ2_length_9d52b, cJ2_length_9d52b, 1, some .int, { frames := 0, cells := 0, slots := 0, locals := 0 }, fun _ _ => True)
theorem plJ2_length_9d52b : pln jJ2_length_9d52b := ⟨by decide +kernel, rfl, rfl, rfl, fun _ _ => trivial⟩
set_option maxRecDepth 100000 in
theorem kbJ2_length_9d52b : KB jJ2_length_9d52b 1 := ⟨List.mem_filter.mpr ⟨List.mem_of_getElem? (i := 730) (by decide +kernel), by decide +kernel⟩, List.mem_filter.mpr ⟨List.mem_of_getElem? (i := 101) (by decide +kernel), by decide +kernel⟩, by decide +kernel⟩
abbrev jJ2_indexOf_4cfef : MD := (RJ2, yJ2_indexOf_4cfef, cJ2_indexOf_4cfef, 4, some .int, { frames := 4, cells := 0, slots := 0, locals := 93 }, fun _ _ => True)
theorem plJ2_indexOf_4cfef : pln jJ2_indexOf_4cfef := ⟨by decide +kernel, rfl, rfl, rfl, fun _ _ => trivial⟩
set_option maxRecDepth 100000 in
theorem kbJ2_indexOf_4cfef : KB jJ2_indexOf_4cfef 4 := ⟨List.mem_filter.mpr ⟨List.mem_of_getElem? (i := 718) (by decide +kernel), by decide +kernel⟩, List.mem_filter.mpr ⟨List.mem_of_getElem? (i := 101) (by decide +kernel), by decide +kernel⟩, by decide +kernel⟩
abbrev jJ2_indexOfChar_4cfef : MD := (RJ2, yJ2_indexOfChar_4cfef, cJ2_indexOfChar_4cfef, 4, some .int, { frames := 3, cells := 0, slots := 0, locals := 67 }, fun _ _ => True)
theorem plJ2_indexOfChar_4cfef : pln jJ2_indexOfChar_4cfef := ⟨by decide +kernel, rfl, rfl, rfl, fun _ _ => trivial⟩
set_option maxRecDepth 100000 in
theorem kbJ2_indexOfChar_4cfef : KB jJ2_indexOfChar_4cfef 4 := ⟨List.mem_filter.mpr ⟨List.mem_of_getElem? (i := 724) (by decide +kernel), by decide +kernel⟩, List.mem_filter.mpr ⟨List.mem_of_getElem? (i := 101) (by decide +kernel), by decide +kernel⟩, by decide +kernel⟩
abbrev jJ2_indexOfCharUnsafe_4cfef : MD := (RJ2, yJ2_indexOfCharUnsafe_4cfef, cJ2_indexOfCharUnsafe_4cfef, 5, some .int, { frames := 2, cells := 0, slots := 0, locals := 41 }, fun _ _ => True)
theorem plJ2_indexOfCharUnsafe_4cfef : pln jJ2_indexOfCharUnsafe_4cfef := ⟨by decide +kernel, rfl, rfl, rfl, fun _ _ => trivial⟩
set_option maxRecDepth 100000 in
theorem kbJ2_indexOfCharUnsafe_4cfef : KB jJ2_indexOfCharUnsafe_4cfef 4 := ⟨List.mem_filter.mpr ⟨List.mem_of_getElem? (i := 741) (by decide +kernel), by decide +kernel⟩, List.mem_filter.mpr ⟨List.mem_of_getElem? (i := 101) (by decide +kernel), by decide +kernel⟩, by decide +kernel⟩
abbrev jJ2_indexOfSupplementary_4cfef : MD := (RJ2, yJ2_indexOfSupplementary_4cfef, cJ2_indexOfSupplementary_4cfef, 7, some .int, { frames := 3, cells := 0, slots := 0, locals := 67 }, fun _ _ => True)
theorem plJ2_indexOfSupplementary_4cfef : pln jJ2_indexOfSupplementary_4cfef := ⟨by decide +kernel, rfl, rfl, rfl, fun _ _ => trivial⟩
set_option maxRecDepth 100000 in
theorem kbJ2_indexOfSupplementary_4cfef : KB jJ2_indexOfSupplementary_4cfef 4 := ⟨List.mem_filter.mpr ⟨List.mem_of_getElem? (i := 753) (by decide +kernel), by decide +kernel⟩, List.mem_filter.mpr ⟨List.mem_of_getElem? (i := 101) (by decide +kernel), by decide +kernel⟩, by decide +kernel⟩
abbrev jJ2_charAt_3b067 : MD := (RJ2, yJ2_charAt_3b067, cJ2_charAt_3b067, 2, some .char, { frames := 3, cells := 0, slots := 0, locals := 64 }, fun _ _ => True)
theorem plJ2_charAt_3b067 : pln jJ2_charAt_3b067 := ⟨by decide +kernel, rfl, rfl, rfl, fun _ _ => trivial⟩
set_option maxRecDepth 100000 in
theorem kbJ2_charAt_3b067 : KB jJ2_charAt_3b067 2 := ⟨List.mem_filter.mpr ⟨List.mem_of_getElem? (i := 823) (by decide +kernel), by decide +kernel⟩, List.mem_filter.mpr ⟨List.mem_of_getElem? (i := 101) (by decide +kernel), by decide +kernel⟩, by decide +kernel⟩
abbrev jJ2_checkIndex_2214a : MD := (RJ2, yJ2_checkIndex_2214a, cJ2_checkIndex_2214a, 2, none, { frames := 2, cells := 0, slots := 0, locals := 43 }, fun _ _ => True)
theorem plJ2_checkIndex_2214a : pln jJ2_checkIndex_2214a := ⟨by decide +kernel, rfl, rfl, rfl, fun _ _ => trivial⟩
set_option maxRecDepth 100000 in
theorem kbJ2_checkIndex_2214a : KB jJ2_checkIndex_2214a 2 := ⟨List.mem_filter.mpr ⟨List.mem_of_getElem? (i := 826) (by decide +kernel), by decide +kernel⟩, List.mem_filter.mpr ⟨List.mem_of_getElem? (i := 101) (by decide +kernel), by decide +kernel⟩, by decide +kernel⟩
abbrev jJ2_checkBoundsBeginEnd_d044e : MD := (RJ2, yJ2_checkBoundsBeginEnd_d044e, cJ2_checkBoundsBeginEnd_d044e, 3, none, { frames := 2, cells := 0, slots := 0, locals := 45 }, fun _ _ => True)
theorem plJ2_checkBoundsBeginEnd_d044e : pln jJ2_checkBoundsBeginEnd_d044e := ⟨by decide +kernel, rfl, rfl, rfl, fun _ _ => trivial⟩
set_option maxRecDepth 100000 in
theorem kbJ2_checkBoundsBeginEnd_d044e : KB jJ2_checkBoundsBeginEnd_d044e 3 := ⟨List.mem_filter.mpr ⟨List.mem_of_getElem? (i := 727) (by decide +kernel), by decide +kernel⟩, List.mem_filter.mpr ⟨List.mem_of_getElem? (i := 101) (by decide +kernel), by decide +kernel⟩, by decide +kernel⟩
abbrev jJ3_checkIndex_8e157 : MD := (RJ3, yJ3_checkIndex_8e157, cJ3_checkIndex_8e157, 3, some .int, { frames := 0, cells := 0, slots := 0, locals := 0 }, fun _ _ => True)
theorem plJ3_checkIndex_8e157 : pln jJ3_checkIndex_8e157 := ⟨by decide +kernel, rfl, rfl, rfl, fun _ _ => trivial⟩
set_option maxRecDepth 100000 in
theorem kbJ3_checkIndex_8e157 : KB jJ3_checkIndex_8e157 3 := ⟨List.mem_filter.mpr ⟨List.mem_of_getElem? (i := 820) (by decide +kernel), by decide +kernel⟩, List.mem_filter.mpr ⟨List.mem_of_getElem? (i := 102) (by decide +kernel), by decide +kernel⟩, by decide +kernel⟩
abbrev jJ3_checkFromToIndex_8c36e : MD := (RJ3, yJ3_checkFromToIndex_8c36e, cJ3_checkFromToIndex_8c36e, 4, some .int, { frames := 0, cells := 0, slots := 0, locals := 0 }, fun _ _ => True)
theorem plJ3_checkFromToIndex_8c36e : pln jJ3_checkFromToIndex_8c36e := ⟨by decide +kernel, rfl, rfl, rfl, fun _ _ => trivial⟩
set_option maxRecDepth 100000 in
theorem kbJ3_checkFromToIndex_8c36e : KB jJ3_checkFromToIndex_8c36e 4 := ⟨List.mem_filter.mpr ⟨List.mem_of_getElem? (i := 738) (by decide +kernel), by decide +kernel⟩, List.mem_filter.mpr ⟨List.mem_of_getElem? (i := 102) (by decide +kernel), by decide +kernel⟩, by decide +kernel⟩
set_option maxRecDepth 100000 in
theorem fl_X5_9 : FL RX5 9 5 0 := ⟨_, _, _, ck_5, by decide, List.mem_filter.mpr ⟨List.mem_of_getElem? (i := 118) (by decide +kernel), by decide +kernel⟩⟩
set_option maxRecDepth 100000 in
theorem fl_X5_15 : FL RX5 15 5 1 := ⟨_, _, _, ck_5, by decide, List.mem_filter.mpr ⟨List.mem_of_getElem? (i := 119) (by decide +kernel), by decide +kernel⟩⟩
set_option maxRecDepth 100000 in
theorem fl_X5_18 : FL RX5 18 5 2 := ⟨_, _, _, ck_5, by decide, List.mem_filter.mpr ⟨List.mem_of_getElem? (i := 120) (by decide +kernel), by decide +kernel⟩⟩
set_option maxRecDepth 100000 in
theorem fp_X5_18 : FP RX5 18 5 2 .int := ⟨_, _, _, ck_5, by decide, List.mem_filter.mpr ⟨List.mem_of_getElem? (i := 120) (by decide +kernel), by decide +kernel⟩, by decide +kernel, by decide +kernel⟩
set_option maxRecDepth 100000 in
theorem fl_X1_45 : FL RX1 45 5 2 := ⟨_, _, _, ck_5, by decide, List.mem_filter.mpr ⟨List.mem_of_getElem? (i := 121) (by decide +kernel), by decide +kernel⟩⟩
set_option maxRecDepth 100000 in
theorem fp_X1_45 : FP RX1 45 5 2 .int := ⟨_, _, _, ck_5, by decide, List.mem_filter.mpr ⟨List.mem_of_getElem? (i := 121) (by decide +kernel), by decide +kernel⟩, by decide +kernel, by decide +kernel⟩
set_option maxRecDepth 100000 in
theorem fl_X8_20 : FL RX8 20 5 2 := ⟨_, _, _, ck_5, by decide, List.mem_filter.mpr ⟨List.mem_of_getElem? (i := 122) (by decide +kernel), by decide +kernel⟩⟩
set_option maxRecDepth 100000 in
theorem fp_X8_20 : FP RX8 20 5 2 .int := ⟨_, _, _, ck_5, by decide, List.mem_filter.mpr ⟨List.mem_of_getElem? (i := 122) (by decide +kernel), by decide +kernel⟩, by decide +kernel, by decide +kernel⟩
set_option maxRecDepth 100000 in
theorem fl_X9_104 : FL RX9 104 5 2 := ⟨_, _, _, ck_5, by decide, List.mem_filter.mpr ⟨List.mem_of_getElem? (i := 123) (by decide +kernel), by decide +kernel⟩⟩
set_option maxRecDepth 100000 in
theorem fp_X9_104 : FP RX9 104 5 2 .int := ⟨_, _, _, ck_5, by decide, List.mem_filter.mpr ⟨List.mem_of_getElem? (i := 123) (by decide +kernel), by decide +kernel⟩, by decide +kernel, by decide +kernel⟩
set_option maxRecDepth 100000 in
theorem fl_X5_22 : FL RX5 22 5 3 := ⟨_, _, _, ck_5, by decide, List.mem_filter.mpr ⟨List.mem_of_getElem? (i := 124) (by decide +kernel), by decide +kernel⟩⟩
set_option maxRecDepth 100000 in
theorem fp_X5_22 : FP RX5 22 5 3 .int := ⟨_, _, _, ck_5, by decide, List.mem_filter.mpr ⟨List.mem_of_getElem? (i := 124) (by decide +kernel), by decide +kernel⟩, by decide +kernel, by decide +kernel⟩
set_option maxRecDepth 100000 in
theorem fl_X9_91 : FL RX9 91 5 3 := ⟨_, _, _, ck_5, by decide, List.mem_filter.mpr ⟨List.mem_of_getElem? (i := 125) (by decide +kernel), by decide +kernel⟩⟩
set_option maxRecDepth 100000 in
theorem fp_X9_91 : FP RX9 91 5 3 .int := ⟨_, _, _, ck_5, by decide, List.mem_filter.mpr ⟨List.mem_of_getElem? (i := 125) (by decide +kernel), by decide +kernel⟩, by decide +kernel, by decide +kernel⟩
set_option maxRecDepth 100000 in
theorem fl_X2_11 : FL RX2 11 2 0 := ⟨_, _, _, ck_2, by decide, List.mem_filter.mpr ⟨List.mem_of_getElem? (i := 150) (by decide +kernel), by decide +kernel⟩⟩
set_option maxRecDepth 100000 in
theorem fl_X2_16 : FL RX2 16 2 1 := ⟨_, _, _, ck_2, by decide, List.mem_filter.mpr ⟨List.mem_of_getElem? (i := 151) (by decide +kernel), by decide +kernel⟩⟩
set_option maxRecDepth 100000 in
theorem fl_X2_20 : FL RX2 20 2 2 := ⟨_, _, _, ck_2, by decide, List.mem_filter.mpr ⟨List.mem_of_getElem? (i := 152) (by decide +kernel), by decide +kernel⟩⟩
set_option maxRecDepth 100000 in
theorem fp_X2_20 : FP RX2 20 2 2 .int := ⟨_, _, _, ck_2, by decide, List.mem_filter.mpr ⟨List.mem_of_getElem? (i := 152) (by decide +kernel), by decide +kernel⟩, by decide +kernel, by decide +kernel⟩
set_option maxRecDepth 100000 in
theorem fl_X2_24 : FL RX2 24 2 3 := ⟨_, _, _, ck_2, by decide, List.mem_filter.mpr ⟨List.mem_of_getElem? (i := 153) (by decide +kernel), by decide +kernel⟩⟩
set_option maxRecDepth 100000 in
theorem fp_X2_24 : FP RX2 24 2 3 .int := ⟨_, _, _, ck_2, by decide, List.mem_filter.mpr ⟨List.mem_of_getElem? (i := 153) (by decide +kernel), by decide +kernel⟩, by decide +kernel, by decide +kernel⟩
set_option maxRecDepth 100000 in
theorem fl_X1_9 : FL RX1 9 1 0 := ⟨_, _, _, ck_1, by decide, List.mem_filter.mpr ⟨List.mem_of_getElem? (i := 164) (by decide +kernel), by decide +kernel⟩⟩
set_option maxRecDepth 100000 in
theorem fl_X1_15 : FL RX1 15 1 1 := ⟨_, _, _, ck_1, by decide, List.mem_filter.mpr ⟨List.mem_of_getElem? (i := 165) (by decide +kernel), by decide +kernel⟩⟩
set_option maxRecDepth 100000 in
theorem fl_X1_18 : FL RX1 18 1 2 := ⟨_, _, _, ck_1, by decide, List.mem_filter.mpr ⟨List.mem_of_getElem? (i := 166) (by decide +kernel), by decide +kernel⟩⟩
set_option maxRecDepth 100000 in
theorem fl_X1_21 : FL RX1 21 1 3 := ⟨_, _, _, ck_1, by decide, List.mem_filter.mpr ⟨List.mem_of_getElem? (i := 167) (by decide +kernel), by decide +kernel⟩⟩
set_option maxRecDepth 100000 in
theorem fl_X1_24 : FL RX1 24 1 4 := ⟨_, _, _, ck_1, by decide, List.mem_filter.mpr ⟨List.mem_of_getElem? (i := 168) (by decide +kernel), by decide +kernel⟩⟩
set_option maxRecDepth 100000 in
theorem fl_X1_27 : FL RX1 27 1 5 := ⟨_, _, _, ck_1, by decide, List.mem_filter.mpr ⟨List.mem_of_getElem? (i := 169) (by decide +kernel), by decide +kernel⟩⟩
set_option maxRecDepth 100000 in
theorem fl_X1_34 : FL RX1 34 1 6 := ⟨_, _, _, ck_1, by decide, List.mem_filter.mpr ⟨List.mem_of_getElem? (i := 170) (by decide +kernel), by decide +kernel⟩⟩
set_option maxRecDepth 100000 in
theorem fl_X1_38 : FL RX1 38 1 7 := ⟨_, _, _, ck_1, by decide, List.mem_filter.mpr ⟨List.mem_of_getElem? (i := 171) (by decide +kernel), by decide +kernel⟩⟩
set_option maxRecDepth 100000 in
theorem fp_X1_38 : FP RX1 38 1 7 .int := ⟨_, _, _, ck_1, by decide, List.mem_filter.mpr ⟨List.mem_of_getElem? (i := 171) (by decide +kernel), by decide +kernel⟩, by decide +kernel, by decide +kernel⟩
set_option maxRecDepth 100000 in
theorem fl_X1_42 : FL RX1 42 1 8 := ⟨_, _, _, ck_1, by decide, List.mem_filter.mpr ⟨List.mem_of_getElem? (i := 172) (by decide +kernel), by decide +kernel⟩⟩
set_option maxRecDepth 100000 in
theorem fp_X1_42 : FP RX1 42 1 8 .int := ⟨_, _, _, ck_1, by decide, List.mem_filter.mpr ⟨List.mem_of_getElem? (i := 172) (by decide +kernel), by decide +kernel⟩, by decide +kernel, by decide +kernel⟩
set_option maxRecDepth 100000 in
theorem fl_X7_9 : FL RX7 9 7 0 := ⟨_, _, _, ck_7, by decide, List.mem_filter.mpr ⟨List.mem_of_getElem? (i := 198) (by decide +kernel), by decide +kernel⟩⟩
set_option maxRecDepth 100000 in
theorem fl_X7_15 : FL RX7 15 7 1 := ⟨_, _, _, ck_7, by decide, List.mem_filter.mpr ⟨List.mem_of_getElem? (i := 199) (by decide +kernel), by decide +kernel⟩⟩
set_option maxRecDepth 100000 in
theorem fp_X7_15 : FP RX7 15 7 1 .int := ⟨_, _, _, ck_7, by decide, List.mem_filter.mpr ⟨List.mem_of_getElem? (i := 199) (by decide +kernel), by decide +kernel⟩, by decide +kernel, by decide +kernel⟩
set_option maxRecDepth 100000 in
theorem fl_X7_19 : FL RX7 19 7 2 := ⟨_, _, _, ck_7, by decide, List.mem_filter.mpr ⟨List.mem_of_getElem? (i := 200) (by decide +kernel), by decide +kernel⟩⟩
set_option maxRecDepth 100000 in
theorem fp_X7_19 : FP RX7 19 7 2 .int := ⟨_, _, _, ck_7, by decide, List.mem_filter.mpr ⟨List.mem_of_getElem? (i := 200) (by decide +kernel), by decide +kernel⟩, by decide +kernel, by decide +kernel⟩
set_option maxRecDepth 100000 in
theorem fl_X0_9 : FL RX0 9 0 0 := ⟨_, _, _, ck_0, by decide, List.mem_filter.mpr ⟨List.mem_of_getElem? (i := 214) (by decide +kernel), by decide +kernel⟩⟩
set_option maxRecDepth 100000 in
theorem fl_X0_15 : FL RX0 15 0 1 := ⟨_, _, _, ck_0, by decide, List.mem_filter.mpr ⟨List.mem_of_getElem? (i := 215) (by decide +kernel), by decide +kernel⟩⟩
set_option maxRecDepth 100000 in
theorem fl_X0_18 : FL RX0 18 0 2 := ⟨_, _, _, ck_0, by decide, List.mem_filter.mpr ⟨List.mem_of_getElem? (i := 216) (by decide +kernel), by decide +kernel⟩⟩
set_option maxRecDepth 100000 in
theorem fl_X0_21 : FL RX0 21 0 3 := ⟨_, _, _, ck_0, by decide, List.mem_filter.mpr ⟨List.mem_of_getElem? (i := 217) (by decide +kernel), by decide +kernel⟩⟩
set_option maxRecDepth 100000 in
theorem fp_X0_21 : FP RX0 21 0 3 .int := ⟨_, _, _, ck_0, by decide, List.mem_filter.mpr ⟨List.mem_of_getElem? (i := 217) (by decide +kernel), by decide +kernel⟩, by decide +kernel, by decide +kernel⟩
set_option maxRecDepth 100000 in
theorem fl_X0_25 : FL RX0 25 0 4 := ⟨_, _, _, ck_0, by decide, List.mem_filter.mpr ⟨List.mem_of_getElem? (i := 218) (by decide +kernel), by decide +kernel⟩⟩
set_option maxRecDepth 100000 in
theorem fp_X0_25 : FP RX0 25 0 4 .int := ⟨_, _, _, ck_0, by decide, List.mem_filter.mpr ⟨List.mem_of_getElem? (i := 218) (by decide +kernel), by decide +kernel⟩, by decide +kernel, by decide +kernel⟩
set_option maxRecDepth 100000 in
theorem fl_X9_230 : FL RX9 230 0 4 := ⟨_, _, _, ck_0, by decide, List.mem_filter.mpr ⟨List.mem_of_getElem? (i := 219) (by decide +kernel), by decide +kernel⟩⟩
set_option maxRecDepth 100000 in
theorem fp_X9_230 : FP RX9 230 0 4 .int := ⟨_, _, _, ck_0, by decide, List.mem_filter.mpr ⟨List.mem_of_getElem? (i := 219) (by decide +kernel), by decide +kernel⟩, by decide +kernel, by decide +kernel⟩
set_option maxRecDepth 100000 in
theorem fl_X0_28 : FL RX0 28 0 5 := ⟨_, _, _, ck_0, by decide, List.mem_filter.mpr ⟨List.mem_of_getElem? (i := 220) (by decide +kernel), by decide +kernel⟩⟩
set_option maxRecDepth 100000 in
theorem fp_X0_28 : FP RX0 28 0 5 .int := ⟨_, _, _, ck_0, by decide, List.mem_filter.mpr ⟨List.mem_of_getElem? (i := 220) (by decide +kernel), by decide +kernel⟩, by decide +kernel, by decide +kernel⟩
set_option maxRecDepth 100000 in
theorem fl_X9_234 : FL RX9 234 0 5 := ⟨_, _, _, ck_0, by decide, List.mem_filter.mpr ⟨List.mem_of_getElem? (i := 221) (by decide +kernel), by decide +kernel⟩⟩
set_option maxRecDepth 100000 in
theorem fp_X9_234 : FP RX9 234 0 5 .int := ⟨_, _, _, ck_0, by decide, List.mem_filter.mpr ⟨List.mem_of_getElem? (i := 221) (by decide +kernel), by decide +kernel⟩, by decide +kernel, by decide +kernel⟩
set_option maxRecDepth 100000 in
theorem fl_X3_9 : FL RX3 9 3 0 := ⟨_, _, _, ck_3, by decide, List.mem_filter.mpr ⟨List.mem_of_getElem? (i := 241) (by decide +kernel), by decide +kernel⟩⟩
set_option maxRecDepth 100000 in
theorem fl_X3_15 : FL RX3 15 3 1 := ⟨_, _, _, ck_3, by decide, List.mem_filter.mpr ⟨List.mem_of_getElem? (i := 242) (by decide +kernel), by decide +kernel⟩⟩
set_option maxRecDepth 100000 in
theorem fl_X3_18 : FL RX3 18 3 2 := ⟨_, _, _, ck_3, by decide, List.mem_filter.mpr ⟨List.mem_of_getElem? (i := 243) (by decide +kernel), by decide +kernel⟩⟩
set_option maxRecDepth 100000 in
theorem fl_X3_21 : FL RX3 21 3 3 := ⟨_, _, _, ck_3, by decide, List.mem_filter.mpr ⟨List.mem_of_getElem? (i := 244) (by decide +kernel), by decide +kernel⟩⟩
set_option maxRecDepth 100000 in
theorem fl_X3_24 : FL RX3 24 3 4 := ⟨_, _, _, ck_3, by decide, List.mem_filter.mpr ⟨List.mem_of_getElem? (i := 245) (by decide +kernel), by decide +kernel⟩⟩
set_option maxRecDepth 100000 in
theorem fl_X3_27 : FL RX3 27 3 5 := ⟨_, _, _, ck_3, by decide, List.mem_filter.mpr ⟨List.mem_of_getElem? (i := 246) (by decide +kernel), by decide +kernel⟩⟩
set_option maxRecDepth 100000 in
theorem fp_X3_27 : FP RX3 27 3 5 .int := ⟨_, _, _, ck_3, by decide, List.mem_filter.mpr ⟨List.mem_of_getElem? (i := 246) (by decide +kernel), by decide +kernel⟩, by decide +kernel, by decide +kernel⟩
set_option maxRecDepth 100000 in
theorem fl_X9_258 : FL RX9 258 3 5 := ⟨_, _, _, ck_3, by decide, List.mem_filter.mpr ⟨List.mem_of_getElem? (i := 247) (by decide +kernel), by decide +kernel⟩⟩
set_option maxRecDepth 100000 in
theorem fp_X9_258 : FP RX9 258 3 5 .int := ⟨_, _, _, ck_3, by decide, List.mem_filter.mpr ⟨List.mem_of_getElem? (i := 247) (by decide +kernel), by decide +kernel⟩, by decide +kernel, by decide +kernel⟩
set_option maxRecDepth 100000 in
theorem fl_X3_31 : FL RX3 31 3 6 := ⟨_, _, _, ck_3, by decide, List.mem_filter.mpr ⟨List.mem_of_getElem? (i := 248) (by decide +kernel), by decide +kernel⟩⟩
set_option maxRecDepth 100000 in
theorem fp_X3_31 : FP RX3 31 3 6 .int := ⟨_, _, _, ck_3, by decide, List.mem_filter.mpr ⟨List.mem_of_getElem? (i := 248) (by decide +kernel), by decide +kernel⟩, by decide +kernel, by decide +kernel⟩
set_option maxRecDepth 100000 in
theorem fl_X9_284 : FL RX9 284 3 6 := ⟨_, _, _, ck_3, by decide, List.mem_filter.mpr ⟨List.mem_of_getElem? (i := 249) (by decide +kernel), by decide +kernel⟩⟩
set_option maxRecDepth 100000 in
theorem fp_X9_284 : FP RX9 284 3 6 .int := ⟨_, _, _, ck_3, by decide, List.mem_filter.mpr ⟨List.mem_of_getElem? (i := 249) (by decide +kernel), by decide +kernel⟩, by decide +kernel, by decide +kernel⟩
set_option maxRecDepth 100000 in
theorem fl_X3_34 : FL RX3 34 3 7 := ⟨_, _, _, ck_3, by decide, List.mem_filter.mpr ⟨List.mem_of_getElem? (i := 250) (by decide +kernel), by decide +kernel⟩⟩
set_option maxRecDepth 100000 in
theorem fp_X3_34 : FP RX3 34 3 7 .int := ⟨_, _, _, ck_3, by decide, List.mem_filter.mpr ⟨List.mem_of_getElem? (i := 250) (by decide +kernel), by decide +kernel⟩, by decide +kernel, by decide +kernel⟩
set_option maxRecDepth 100000 in
theorem fl_X9_260 : FL RX9 260 3 7 := ⟨_, _, _, ck_3, by decide, List.mem_filter.mpr ⟨List.mem_of_getElem? (i := 251) (by decide +kernel), by decide +kernel⟩⟩
set_option maxRecDepth 100000 in
theorem fp_X9_260 : FP RX9 260 3 7 .int := ⟨_, _, _, ck_3, by decide, List.mem_filter.mpr ⟨List.mem_of_getElem? (i := 251) (by decide +kernel), by decide +kernel⟩, by decide +kernel, by decide +kernel⟩
set_option maxRecDepth 100000 in
theorem fl_X3_37 : FL RX3 37 3 8 := ⟨_, _, _, ck_3, by decide, List.mem_filter.mpr ⟨List.mem_of_getElem? (i := 252) (by decide +kernel), by decide +kernel⟩⟩
set_option maxRecDepth 100000 in
theorem fp_X3_37 : FP RX3 37 3 8 .int := ⟨_, _, _, ck_3, by decide, List.mem_filter.mpr ⟨List.mem_of_getElem? (i := 252) (by decide +kernel), by decide +kernel⟩, by decide +kernel, by decide +kernel⟩
set_option maxRecDepth 100000 in
theorem fl_X9_263 : FL RX9 263 3 8 := ⟨_, _, _, ck_3, by decide, List.mem_filter.mpr ⟨List.mem_of_getElem? (i := 253) (by decide +kernel), by decide +kernel⟩⟩
set_option maxRecDepth 100000 in
theorem fp_X9_263 : FP RX9 263 3 8 .int := ⟨_, _, _, ck_3, by decide, List.mem_filter.mpr ⟨List.mem_of_getElem? (i := 253) (by decide +kernel), by decide +kernel⟩, by decide +kernel, by decide +kernel⟩
set_option maxRecDepth 100000 in
theorem fl_X3_40 : FL RX3 40 3 9 := ⟨_, _, _, ck_3, by decide, List.mem_filter.mpr ⟨List.mem_of_getElem? (i := 254) (by decide +kernel), by decide +kernel⟩⟩
set_option maxRecDepth 100000 in
theorem fp_X3_40 : FP RX3 40 3 9 .int := ⟨_, _, _, ck_3, by decide, List.mem_filter.mpr ⟨List.mem_of_getElem? (i := 254) (by decide +kernel), by decide +kernel⟩, by decide +kernel, by decide +kernel⟩
set_option maxRecDepth 100000 in
theorem fl_X9_266 : FL RX9 266 3 9 := ⟨_, _, _, ck_3, by decide, List.mem_filter.mpr ⟨List.mem_of_getElem? (i := 255) (by decide +kernel), by decide +kernel⟩⟩
set_option maxRecDepth 100000 in
theorem fp_X9_266 : FP RX9 266 3 9 .int := ⟨_, _, _, ck_3, by decide, List.mem_filter.mpr ⟨List.mem_of_getElem? (i := 255) (by decide +kernel), by decide +kernel⟩, by decide +kernel, by decide +kernel⟩
set_option maxRecDepth 100000 in
theorem lk_X6_15 : LV RX6 15 jX6_begin 0 := ⟨kbX6_begin, rfl, List.mem_filter.mpr ⟨List.mem_of_getElem? (i := 289) (by decide +kernel), by decide +kernel⟩, List.mem_filter.mpr ⟨List.mem_of_getElem? (i := 290) (by decide +kernel), by decide +kernel⟩, List.mem_filter.mpr ⟨List.mem_of_getElem? (i := 291) (by decide +kernel), by decide +kernel⟩⟩
set_option maxRecDepth 100000 in
theorem lk_X6_47 : LV RX6 47 jX6_beginNumber 0 := ⟨kbX6_beginNumber, rfl, List.mem_filter.mpr ⟨List.mem_of_getElem? (i := 293) (by decide +kernel), by decide +kernel⟩, List.mem_filter.mpr ⟨List.mem_of_getElem? (i := 295) (by decide +kernel), by decide +kernel⟩, List.mem_filter.mpr ⟨List.mem_of_getElem? (i := 0) (by decide +kernel), by decide +kernel⟩⟩
set_option maxRecDepth 100000 in
theorem fl_X6_9 : FL RX6 9 6 0 := ⟨_, _, _, ck_6, by decide, List.mem_filter.mpr ⟨List.mem_of_getElem? (i := 297) (by decide +kernel), by decide +kernel⟩⟩
set_option maxRecDepth 100000 in
theorem fl_X6_18 : FL RX6 18 6 1 := ⟨_, _, _, ck_6, by decide, List.mem_filter.mpr ⟨List.mem_of_getElem? (i := 298) (by decide +kernel), by decide +kernel⟩⟩
set_option maxRecDepth 100000 in
theorem fp_X6_18 : FP RX6 18 6 1 .int := ⟨_, _, _, ck_6, by decide, List.mem_filter.mpr ⟨List.mem_of_getElem? (i := 298) (by decide +kernel), by decide +kernel⟩, by decide +kernel, by decide +kernel⟩
set_option maxRecDepth 100000 in
theorem fl_X6_22 : FL RX6 22 6 2 := ⟨_, _, _, ck_6, by decide, List.mem_filter.mpr ⟨List.mem_of_getElem? (i := 299) (by decide +kernel), by decide +kernel⟩⟩
set_option maxRecDepth 100000 in
theorem fp_X6_22 : FP RX6 22 6 2 .boolean := ⟨_, _, _, ck_6, by decide, List.mem_filter.mpr ⟨List.mem_of_getElem? (i := 299) (by decide +kernel), by decide +kernel⟩, by decide +kernel, by decide +kernel⟩
set_option maxRecDepth 100000 in
theorem fl_X6_26 : FL RX6 26 6 3 := ⟨_, _, _, ck_6, by decide, List.mem_filter.mpr ⟨List.mem_of_getElem? (i := 300) (by decide +kernel), by decide +kernel⟩⟩
set_option maxRecDepth 100000 in
theorem fp_X6_26 : FP RX6 26 6 3 .int := ⟨_, _, _, ck_6, by decide, List.mem_filter.mpr ⟨List.mem_of_getElem? (i := 300) (by decide +kernel), by decide +kernel⟩, by decide +kernel, by decide +kernel⟩
set_option maxRecDepth 100000 in
theorem fl_X6_29 : FL RX6 29 6 4 := ⟨_, _, _, ck_6, by decide, List.mem_filter.mpr ⟨List.mem_of_getElem? (i := 301) (by decide +kernel), by decide +kernel⟩⟩
set_option maxRecDepth 100000 in
theorem fp_X6_29 : FP RX6 29 6 4 .int := ⟨_, _, _, ck_6, by decide, List.mem_filter.mpr ⟨List.mem_of_getElem? (i := 301) (by decide +kernel), by decide +kernel⟩, by decide +kernel, by decide +kernel⟩
set_option maxRecDepth 100000 in
theorem fl_X6_50 : FL RX6 50 6 5 := ⟨_, _, _, ck_6, by decide, List.mem_filter.mpr ⟨List.mem_of_getElem? (i := 302) (by decide +kernel), by decide +kernel⟩⟩
set_option maxRecDepth 100000 in
theorem fp_X6_50 : FP RX6 50 6 5 .int := ⟨_, _, _, ck_6, by decide, List.mem_filter.mpr ⟨List.mem_of_getElem? (i := 302) (by decide +kernel), by decide +kernel⟩, by decide +kernel, by decide +kernel⟩
set_option maxRecDepth 100000 in
theorem fl_X6_53 : FL RX6 53 6 6 := ⟨_, _, _, ck_6, by decide, List.mem_filter.mpr ⟨List.mem_of_getElem? (i := 303) (by decide +kernel), by decide +kernel⟩⟩
set_option maxRecDepth 100000 in
theorem fp_X6_53 : FP RX6 53 6 6 .int := ⟨_, _, _, ck_6, by decide, List.mem_filter.mpr ⟨List.mem_of_getElem? (i := 303) (by decide +kernel), by decide +kernel⟩, by decide +kernel, by decide +kernel⟩
set_option maxRecDepth 100000 in
theorem fl_X6_56 : FL RX6 56 6 7 := ⟨_, _, _, ck_6, by decide, List.mem_filter.mpr ⟨List.mem_of_getElem? (i := 304) (by decide +kernel), by decide +kernel⟩⟩
set_option maxRecDepth 100000 in
theorem fp_X6_56 : FP RX6 56 6 7 .boolean := ⟨_, _, _, ck_6, by decide, List.mem_filter.mpr ⟨List.mem_of_getElem? (i := 304) (by decide +kernel), by decide +kernel⟩, by decide +kernel, by decide +kernel⟩
set_option maxRecDepth 100000 in
theorem fl_X6_32 : FL RX6 32 6 8 := ⟨_, _, _, ck_6, by decide, List.mem_filter.mpr ⟨List.mem_of_getElem? (i := 305) (by decide +kernel), by decide +kernel⟩⟩
set_option maxRecDepth 100000 in
theorem fp_X6_32 : FP RX6 32 6 8 .int := ⟨_, _, _, ck_6, by decide, List.mem_filter.mpr ⟨List.mem_of_getElem? (i := 305) (by decide +kernel), by decide +kernel⟩, by decide +kernel, by decide +kernel⟩
set_option maxRecDepth 100000 in
theorem fl_X6_35 : FL RX6 35 6 9 := ⟨_, _, _, ck_6, by decide, List.mem_filter.mpr ⟨List.mem_of_getElem? (i := 306) (by decide +kernel), by decide +kernel⟩⟩
set_option maxRecDepth 100000 in
theorem fp_X6_35 : FP RX6 35 6 9 .int := ⟨_, _, _, ck_6, by decide, List.mem_filter.mpr ⟨List.mem_of_getElem? (i := 306) (by decide +kernel), by decide +kernel⟩, by decide +kernel, by decide +kernel⟩
set_option maxRecDepth 100000 in
theorem fl_X6_38 : FL RX6 38 6 10 := ⟨_, _, _, ck_6, by decide, List.mem_filter.mpr ⟨List.mem_of_getElem? (i := 307) (by decide +kernel), by decide +kernel⟩⟩
set_option maxRecDepth 100000 in
theorem fp_X6_38 : FP RX6 38 6 10 .int := ⟨_, _, _, ck_6, by decide, List.mem_filter.mpr ⟨List.mem_of_getElem? (i := 307) (by decide +kernel), by decide +kernel⟩, by decide +kernel, by decide +kernel⟩
set_option maxRecDepth 100000 in
theorem fl_X6_41 : FL RX6 41 6 11 := ⟨_, _, _, ck_6, by decide, List.mem_filter.mpr ⟨List.mem_of_getElem? (i := 308) (by decide +kernel), by decide +kernel⟩⟩
set_option maxRecDepth 100000 in
theorem fp_X6_41 : FP RX6 41 6 11 .int := ⟨_, _, _, ck_6, by decide, List.mem_filter.mpr ⟨List.mem_of_getElem? (i := 308) (by decide +kernel), by decide +kernel⟩, by decide +kernel, by decide +kernel⟩
set_option maxRecDepth 100000 in
theorem fl_X6_44 : FL RX6 44 6 12 := ⟨_, _, _, ck_6, by decide, List.mem_filter.mpr ⟨List.mem_of_getElem? (i := 309) (by decide +kernel), by decide +kernel⟩⟩
set_option maxRecDepth 100000 in
theorem fp_X6_44 : FP RX6 44 6 12 .int := ⟨_, _, _, ck_6, by decide, List.mem_filter.mpr ⟨List.mem_of_getElem? (i := 309) (by decide +kernel), by decide +kernel⟩, by decide +kernel, by decide +kernel⟩
set_option maxRecDepth 100000 in
theorem fl_X4_47 : FL RX4 47 6 12 := ⟨_, _, _, ck_6, by decide, List.mem_filter.mpr ⟨List.mem_of_getElem? (i := 310) (by decide +kernel), by decide +kernel⟩⟩
set_option maxRecDepth 100000 in
theorem fp_X4_47 : FP RX4 47 6 12 .int := ⟨_, _, _, ck_6, by decide, List.mem_filter.mpr ⟨List.mem_of_getElem? (i := 310) (by decide +kernel), by decide +kernel⟩, by decide +kernel, by decide +kernel⟩
set_option maxRecDepth 100000 in
theorem fl_X4_9 : FL RX4 9 4 0 := ⟨_, _, _, ck_4, by decide, List.mem_filter.mpr ⟨List.mem_of_getElem? (i := 339) (by decide +kernel), by decide +kernel⟩⟩
set_option maxRecDepth 100000 in
theorem fl_X4_18 : FL RX4 18 4 1 := ⟨_, _, _, ck_4, by decide, List.mem_filter.mpr ⟨List.mem_of_getElem? (i := 340) (by decide +kernel), by decide +kernel⟩⟩
set_option maxRecDepth 100000 in
theorem fl_X4_22 : FL RX4 22 4 2 := ⟨_, _, _, ck_4, by decide, List.mem_filter.mpr ⟨List.mem_of_getElem? (i := 341) (by decide +kernel), by decide +kernel⟩⟩
set_option maxRecDepth 100000 in
theorem fp_X4_22 : FP RX4 22 4 2 .int := ⟨_, _, _, ck_4, by decide, List.mem_filter.mpr ⟨List.mem_of_getElem? (i := 341) (by decide +kernel), by decide +kernel⟩, by decide +kernel, by decide +kernel⟩
set_option maxRecDepth 100000 in
theorem fl_X9_155 : FL RX9 155 4 2 := ⟨_, _, _, ck_4, by decide, List.mem_filter.mpr ⟨List.mem_of_getElem? (i := 342) (by decide +kernel), by decide +kernel⟩⟩
set_option maxRecDepth 100000 in
theorem fp_X9_155 : FP RX9 155 4 2 .int := ⟨_, _, _, ck_4, by decide, List.mem_filter.mpr ⟨List.mem_of_getElem? (i := 342) (by decide +kernel), by decide +kernel⟩, by decide +kernel, by decide +kernel⟩
set_option maxRecDepth 100000 in
theorem fl_X8_9 : FL RX8 9 8 0 := ⟨_, _, _, ck_8, by decide, List.mem_filter.mpr ⟨List.mem_of_getElem? (i := 356) (by decide +kernel), by decide +kernel⟩⟩
set_option maxRecDepth 100000 in
theorem fl_X8_15 : FL RX8 15 8 1 := ⟨_, _, _, ck_8, by decide, List.mem_filter.mpr ⟨List.mem_of_getElem? (i := 357) (by decide +kernel), by decide +kernel⟩⟩
set_option maxRecDepth 100000 in
theorem fp_X8_15 : FP RX8 15 8 1 .int := ⟨_, _, _, ck_8, by decide, List.mem_filter.mpr ⟨List.mem_of_getElem? (i := 357) (by decide +kernel), by decide +kernel⟩, by decide +kernel, by decide +kernel⟩
set_option maxRecDepth 100000 in
theorem fl_X9_173 : FL RX9 173 8 1 := ⟨_, _, _, ck_8, by decide, List.mem_filter.mpr ⟨List.mem_of_getElem? (i := 358) (by decide +kernel), by decide +kernel⟩⟩
set_option maxRecDepth 100000 in
theorem fp_X9_173 : FP RX9 173 8 1 .int := ⟨_, _, _, ck_8, by decide, List.mem_filter.mpr ⟨List.mem_of_getElem? (i := 358) (by decide +kernel), by decide +kernel⟩, by decide +kernel, by decide +kernel⟩
set_option maxRecDepth 100000 in
theorem fl_X9_12 : FL RX9 12 9 0 := ⟨_, _, _, ck_9, by decide, List.mem_filter.mpr ⟨List.mem_of_getElem? (i := 364) (by decide +kernel), by decide +kernel⟩⟩
set_option maxRecDepth 100000 in
theorem fl_X9_16 : FL RX9 16 9 1 := ⟨_, _, _, ck_9, by decide, List.mem_filter.mpr ⟨List.mem_of_getElem? (i := 365) (by decide +kernel), by decide +kernel⟩⟩
set_option maxRecDepth 100000 in
theorem fl_X9_19 : FL RX9 19 9 2 := ⟨_, _, _, ck_9, by decide, List.mem_filter.mpr ⟨List.mem_of_getElem? (i := 366) (by decide +kernel), by decide +kernel⟩⟩
set_option maxRecDepth 100000 in
theorem fl_X9_22 : FL RX9 22 9 3 := ⟨_, _, _, ck_9, by decide, List.mem_filter.mpr ⟨List.mem_of_getElem? (i := 367) (by decide +kernel), by decide +kernel⟩⟩
set_option maxRecDepth 100000 in
theorem fl_X9_25 : FL RX9 25 9 4 := ⟨_, _, _, ck_9, by decide, List.mem_filter.mpr ⟨List.mem_of_getElem? (i := 368) (by decide +kernel), by decide +kernel⟩⟩
set_option maxRecDepth 100000 in
theorem fl_X9_32 : FL RX9 32 9 5 := ⟨_, _, _, ck_9, by decide, List.mem_filter.mpr ⟨List.mem_of_getElem? (i := 369) (by decide +kernel), by decide +kernel⟩⟩
set_option maxRecDepth 100000 in
theorem fl_X9_39 : FL RX9 39 9 6 := ⟨_, _, _, ck_9, by decide, List.mem_filter.mpr ⟨List.mem_of_getElem? (i := 370) (by decide +kernel), by decide +kernel⟩⟩
set_option maxRecDepth 100000 in
theorem fl_X9_46 : FL RX9 46 9 7 := ⟨_, _, _, ck_9, by decide, List.mem_filter.mpr ⟨List.mem_of_getElem? (i := 371) (by decide +kernel), by decide +kernel⟩⟩
set_option maxRecDepth 100000 in
theorem fl_X9_53 : FL RX9 53 9 8 := ⟨_, _, _, ck_9, by decide, List.mem_filter.mpr ⟨List.mem_of_getElem? (i := 372) (by decide +kernel), by decide +kernel⟩⟩
set_option maxRecDepth 100000 in
theorem fl_X9_60 : FL RX9 60 9 9 := ⟨_, _, _, ck_9, by decide, List.mem_filter.mpr ⟨List.mem_of_getElem? (i := 373) (by decide +kernel), by decide +kernel⟩⟩
set_option maxRecDepth 100000 in
theorem fl_X9_67 : FL RX9 67 9 10 := ⟨_, _, _, ck_9, by decide, List.mem_filter.mpr ⟨List.mem_of_getElem? (i := 374) (by decide +kernel), by decide +kernel⟩⟩
set_option maxRecDepth 100000 in
theorem fl_X9_71 : FL RX9 71 9 11 := ⟨_, _, _, ck_9, by decide, List.mem_filter.mpr ⟨List.mem_of_getElem? (i := 375) (by decide +kernel), by decide +kernel⟩⟩
set_option maxRecDepth 100000 in
theorem fp_X9_71 : FP RX9 71 9 11 .int := ⟨_, _, _, ck_9, by decide, List.mem_filter.mpr ⟨List.mem_of_getElem? (i := 375) (by decide +kernel), by decide +kernel⟩, by decide +kernel, by decide +kernel⟩
set_option maxRecDepth 100000 in
theorem fl_X9_75 : FL RX9 75 9 12 := ⟨_, _, _, ck_9, by decide, List.mem_filter.mpr ⟨List.mem_of_getElem? (i := 376) (by decide +kernel), by decide +kernel⟩⟩
set_option maxRecDepth 100000 in
theorem fp_X9_75 : FP RX9 75 9 12 .boolean := ⟨_, _, _, ck_9, by decide, List.mem_filter.mpr ⟨List.mem_of_getElem? (i := 376) (by decide +kernel), by decide +kernel⟩, by decide +kernel, by decide +kernel⟩
set_option maxRecDepth 100000 in
theorem lk_L_13 : LV RL 13 jX9_move 2 := ⟨kbX9_move, rfl, List.mem_filter.mpr ⟨List.mem_of_getElem? (i := 404) (by decide +kernel), by decide +kernel⟩, List.mem_filter.mpr ⟨List.mem_of_getElem? (i := 405) (by decide +kernel), by decide +kernel⟩, List.mem_filter.mpr ⟨List.mem_of_getElem? (i := 406) (by decide +kernel), by decide +kernel⟩⟩
set_option maxRecDepth 100000 in
theorem lk_X9_79 : LT RX9 79 jX9_fits 1 := ⟨kbX9_fits, List.mem_filter.mpr ⟨List.mem_of_getElem? (i := 408) (by decide +kernel), by decide +kernel⟩, List.mem_filter.mpr ⟨List.mem_of_getElem? (i := 409) (by decide +kernel), by decide +kernel⟩⟩
set_option maxRecDepth 100000 in
theorem lk_X9_129 : LT RX9 129 jX9_between 3 := ⟨kbX9_between, List.mem_filter.mpr ⟨List.mem_of_getElem? (i := 411) (by decide +kernel), by decide +kernel⟩, List.mem_filter.mpr ⟨List.mem_of_getElem? (i := 412) (by decide +kernel), by decide +kernel⟩⟩
set_option maxRecDepth 100000 in
theorem ct_X9_83 : Cond.constant RX9 83 (-1000002) ∈ wA := List.mem_filter.mpr ⟨List.mem_of_getElem? (i := 414) (by decide +kernel), by decide +kernel⟩
set_option maxRecDepth 100000 in
theorem lk_X9_84 : LV RX9 84 jX9_append 7 := ⟨kbX9_append, rfl, List.mem_filter.mpr ⟨List.mem_of_getElem? (i := 415) (by decide +kernel), by decide +kernel⟩, List.mem_filter.mpr ⟨List.mem_of_getElem? (i := 417) (by decide +kernel), by decide +kernel⟩, List.mem_filter.mpr ⟨List.mem_of_getElem? (i := 1) (by decide +kernel), by decide +kernel⟩⟩
set_option maxRecDepth 100000 in
theorem ct_X9_156 : Cond.constant RX9 156 (-1000004) ∈ wA := List.mem_filter.mpr ⟨List.mem_of_getElem? (i := 419) (by decide +kernel), by decide +kernel⟩
set_option maxRecDepth 100000 in
theorem lk_X9_294 : LV RX9 294 jX5_add 7 := ⟨kbX5_add, rfl, List.mem_filter.mpr ⟨List.mem_of_getElem? (i := 420) (by decide +kernel), by decide +kernel⟩, List.mem_filter.mpr ⟨List.mem_of_getElem? (i := 421) (by decide +kernel), by decide +kernel⟩, List.mem_filter.mpr ⟨List.mem_of_getElem? (i := 422) (by decide +kernel), by decide +kernel⟩⟩
set_option maxRecDepth 100000 in
theorem lk_X5_25 : LV RX5 25 jX5_addKind 1 := ⟨kbX5_addKind, rfl, List.mem_filter.mpr ⟨List.mem_of_getElem? (i := 424) (by decide +kernel), by decide +kernel⟩, List.mem_filter.mpr ⟨List.mem_of_getElem? (i := 426) (by decide +kernel), by decide +kernel⟩, List.mem_filter.mpr ⟨List.mem_of_getElem? (i := 2) (by decide +kernel), by decide +kernel⟩⟩
set_option maxRecDepth 100000 in
theorem lk_L_18 : LV RL 18 jX9_line 2 := ⟨kbX9_line, rfl, List.mem_filter.mpr ⟨List.mem_of_getElem? (i := 428) (by decide +kernel), by decide +kernel⟩, List.mem_filter.mpr ⟨List.mem_of_getElem? (i := 429) (by decide +kernel), by decide +kernel⟩, List.mem_filter.mpr ⟨List.mem_of_getElem? (i := 430) (by decide +kernel), by decide +kernel⟩⟩
set_option maxRecDepth 100000 in
theorem lk_X9_88 : LV RX9 88 jX9_goOn 7 := ⟨kbX9_goOn, rfl, List.mem_filter.mpr ⟨List.mem_of_getElem? (i := 432) (by decide +kernel), by decide +kernel⟩, List.mem_filter.mpr ⟨List.mem_of_getElem? (i := 434) (by decide +kernel), by decide +kernel⟩, List.mem_filter.mpr ⟨List.mem_of_getElem? (i := 3) (by decide +kernel), by decide +kernel⟩⟩
set_option maxRecDepth 100000 in
theorem lk_X9_291 : LV RX9 291 jX5_isOpen 0 := ⟨kbX5_isOpen, rfl, List.mem_filter.mpr ⟨List.mem_of_getElem? (i := 436) (by decide +kernel), by decide +kernel⟩, List.mem_filter.mpr ⟨List.mem_of_getElem? (i := 437) (by decide +kernel), by decide +kernel⟩, List.mem_filter.mpr ⟨List.mem_of_getElem? (i := 438) (by decide +kernel), by decide +kernel⟩⟩
set_option maxRecDepth 100000 in
theorem ct_X9_107 : Cond.constant RX9 107 (-1000005) ∈ wA := List.mem_filter.mpr ⟨List.mem_of_getElem? (i := 440) (by decide +kernel), by decide +kernel⟩
set_option maxRecDepth 100000 in
theorem lk_L_22 : LV RL 22 jX9_quad 4 := ⟨kbX9_quad, rfl, List.mem_filter.mpr ⟨List.mem_of_getElem? (i := 441) (by decide +kernel), by decide +kernel⟩, List.mem_filter.mpr ⟨List.mem_of_getElem? (i := 442) (by decide +kernel), by decide +kernel⟩, List.mem_filter.mpr ⟨List.mem_of_getElem? (i := 443) (by decide +kernel), by decide +kernel⟩⟩
set_option maxRecDepth 100000 in
theorem lk_L_27 : LV RL 27 jX9_cubic 6 := ⟨kbX9_cubic, rfl, List.mem_filter.mpr ⟨List.mem_of_getElem? (i := 445) (by decide +kernel), by decide +kernel⟩, List.mem_filter.mpr ⟨List.mem_of_getElem? (i := 446) (by decide +kernel), by decide +kernel⟩, List.mem_filter.mpr ⟨List.mem_of_getElem? (i := 447) (by decide +kernel), by decide +kernel⟩⟩
set_option maxRecDepth 100000 in
theorem lk_L_32 : LV RL 32 jX9_close 0 := ⟨kbX9_close, rfl, List.mem_filter.mpr ⟨List.mem_of_getElem? (i := 449) (by decide +kernel), by decide +kernel⟩, List.mem_filter.mpr ⟨List.mem_of_getElem? (i := 450) (by decide +kernel), by decide +kernel⟩, List.mem_filter.mpr ⟨List.mem_of_getElem? (i := 451) (by decide +kernel), by decide +kernel⟩⟩
set_option maxRecDepth 100000 in
theorem lk_X9_94 : LV RX9 94 jX5_firstOf 1 := ⟨kbX5_firstOf, rfl, List.mem_filter.mpr ⟨List.mem_of_getElem? (i := 453) (by decide +kernel), by decide +kernel⟩, List.mem_filter.mpr ⟨List.mem_of_getElem? (i := 454) (by decide +kernel), by decide +kernel⟩, List.mem_filter.mpr ⟨List.mem_of_getElem? (i := 455) (by decide +kernel), by decide +kernel⟩⟩
set_option maxRecDepth 100000 in
theorem lk_X9_98 : LV RX9 98 jX5_endX 1 := ⟨kbX5_endX, rfl, List.mem_filter.mpr ⟨List.mem_of_getElem? (i := 457) (by decide +kernel), by decide +kernel⟩, List.mem_filter.mpr ⟨List.mem_of_getElem? (i := 458) (by decide +kernel), by decide +kernel⟩, List.mem_filter.mpr ⟨List.mem_of_getElem? (i := 459) (by decide +kernel), by decide +kernel⟩⟩
set_option maxRecDepth 100000 in
theorem lk_X5_42 : LV RX5 42 jX5_pointsOf 1 := ⟨kbX5_pointsOf, rfl, List.mem_filter.mpr ⟨List.mem_of_getElem? (i := 461) (by decide +kernel), by decide +kernel⟩, List.mem_filter.mpr ⟨List.mem_of_getElem? (i := 462) (by decide +kernel), by decide +kernel⟩, List.mem_filter.mpr ⟨List.mem_of_getElem? (i := 463) (by decide +kernel), by decide +kernel⟩⟩
set_option maxRecDepth 100000 in
theorem lk_X5_38 : LV RX5 38 jX5_kindOf 1 := ⟨kbX5_kindOf, rfl, List.mem_filter.mpr ⟨List.mem_of_getElem? (i := 467) (by decide +kernel), by decide +kernel⟩, List.mem_filter.mpr ⟨List.mem_of_getElem? (i := 468) (by decide +kernel), by decide +kernel⟩, List.mem_filter.mpr ⟨List.mem_of_getElem? (i := 469) (by decide +kernel), by decide +kernel⟩⟩
set_option maxRecDepth 100000 in
theorem lk_X5_45 : LV RX5 45 jX5_numberOf 2 := ⟨kbX5_numberOf, rfl, List.mem_filter.mpr ⟨List.mem_of_getElem? (i := 471) (by decide +kernel), by decide +kernel⟩, List.mem_filter.mpr ⟨List.mem_of_getElem? (i := 472) (by decide +kernel), by decide +kernel⟩, List.mem_filter.mpr ⟨List.mem_of_getElem? (i := 473) (by decide +kernel), by decide +kernel⟩⟩
set_option maxRecDepth 100000 in
theorem lk_X9_101 : LV RX9 101 jX5_endY 1 := ⟨kbX5_endY, rfl, List.mem_filter.mpr ⟨List.mem_of_getElem? (i := 475) (by decide +kernel), by decide +kernel⟩, List.mem_filter.mpr ⟨List.mem_of_getElem? (i := 476) (by decide +kernel), by decide +kernel⟩, List.mem_filter.mpr ⟨List.mem_of_getElem? (i := 477) (by decide +kernel), by decide +kernel⟩⟩
set_option maxRecDepth 100000 in
theorem lk_L_37 : LV RL 37 jX9_removeLast 0 := ⟨kbX9_removeLast, rfl, List.mem_filter.mpr ⟨List.mem_of_getElem? (i := 479) (by decide +kernel), by decide +kernel⟩, List.mem_filter.mpr ⟨List.mem_of_getElem? (i := 480) (by decide +kernel), by decide +kernel⟩, List.mem_filter.mpr ⟨List.mem_of_getElem? (i := 481) (by decide +kernel), by decide +kernel⟩⟩
set_option maxRecDepth 100000 in
theorem lk_X9_108 : LV RX9 108 jX5_dropLast 0 := ⟨kbX5_dropLast, rfl, List.mem_filter.mpr ⟨List.mem_of_getElem? (i := 483) (by decide +kernel), by decide +kernel⟩, List.mem_filter.mpr ⟨List.mem_of_getElem? (i := 484) (by decide +kernel), by decide +kernel⟩, List.mem_filter.mpr ⟨List.mem_of_getElem? (i := 485) (by decide +kernel), by decide +kernel⟩⟩
set_option maxRecDepth 100000 in
theorem lk_L_41 : LV RL 41 jX9_command 2 := ⟨kbX9_command, rfl, List.mem_filter.mpr ⟨List.mem_of_getElem? (i := 487) (by decide +kernel), by decide +kernel⟩, List.mem_filter.mpr ⟨List.mem_of_getElem? (i := 488) (by decide +kernel), by decide +kernel⟩, List.mem_filter.mpr ⟨List.mem_of_getElem? (i := 489) (by decide +kernel), by decide +kernel⟩⟩
set_option maxRecDepth 100000 in
theorem ct_X9_111 : Cond.constant RX9 111 (-1000001) ∈ wA := List.mem_filter.mpr ⟨List.mem_of_getElem? (i := 491) (by decide +kernel), by decide +kernel⟩
set_option maxRecDepth 100000 in
theorem lk_X9_112 : LV RX9 112 jX5_kindOf 1 := ⟨kbX5_kindOf, rfl, List.mem_filter.mpr ⟨List.mem_of_getElem? (i := 492) (by decide +kernel), by decide +kernel⟩, List.mem_filter.mpr ⟨List.mem_of_getElem? (i := 468) (by decide +kernel), by decide +kernel⟩, List.mem_filter.mpr ⟨List.mem_of_getElem? (i := 469) (by decide +kernel), by decide +kernel⟩⟩
set_option maxRecDepth 100000 in
theorem lk_X9_115 : LV RX9 115 jX5_contourOf 1 := ⟨kbX5_contourOf, rfl, List.mem_filter.mpr ⟨List.mem_of_getElem? (i := 493) (by decide +kernel), by decide +kernel⟩, List.mem_filter.mpr ⟨List.mem_of_getElem? (i := 494) (by decide +kernel), by decide +kernel⟩, List.mem_filter.mpr ⟨List.mem_of_getElem? (i := 495) (by decide +kernel), by decide +kernel⟩⟩
set_option maxRecDepth 100000 in
theorem lk_X9_118 : LV RX9 118 jX9_flattened 0 := ⟨kbX9_flattened, rfl, List.mem_filter.mpr ⟨List.mem_of_getElem? (i := 497) (by decide +kernel), by decide +kernel⟩, List.mem_filter.mpr ⟨List.mem_of_getElem? (i := 499) (by decide +kernel), by decide +kernel⟩, List.mem_filter.mpr ⟨List.mem_of_getElem? (i := 4) (by decide +kernel), by decide +kernel⟩⟩
set_option maxRecDepth 100000 in
theorem lk_X9_298 : LV RX9 298 jX1_flatten 2 := ⟨kbX1_flatten, rfl, List.mem_filter.mpr ⟨List.mem_of_getElem? (i := 501) (by decide +kernel), by decide +kernel⟩, List.mem_filter.mpr ⟨List.mem_of_getElem? (i := 502) (by decide +kernel), by decide +kernel⟩, List.mem_filter.mpr ⟨List.mem_of_getElem? (i := 503) (by decide +kernel), by decide +kernel⟩⟩
set_option maxRecDepth 100000 in
theorem lk_X1_48 : LV RX1 48 jX5_kindOf 1 := ⟨kbX5_kindOf, rfl, List.mem_filter.mpr ⟨List.mem_of_getElem? (i := 505) (by decide +kernel), by decide +kernel⟩, List.mem_filter.mpr ⟨List.mem_of_getElem? (i := 468) (by decide +kernel), by decide +kernel⟩, List.mem_filter.mpr ⟨List.mem_of_getElem? (i := 469) (by decide +kernel), by decide +kernel⟩⟩
set_option maxRecDepth 100000 in
theorem lk_X1_52 : LV RX1 52 jX5_endX 1 := ⟨kbX5_endX, rfl, List.mem_filter.mpr ⟨List.mem_of_getElem? (i := 506) (by decide +kernel), by decide +kernel⟩, List.mem_filter.mpr ⟨List.mem_of_getElem? (i := 458) (by decide +kernel), by decide +kernel⟩, List.mem_filter.mpr ⟨List.mem_of_getElem? (i := 459) (by decide +kernel), by decide +kernel⟩⟩
set_option maxRecDepth 100000 in
theorem lk_X1_55 : LV RX1 55 jX5_endY 1 := ⟨kbX5_endY, rfl, List.mem_filter.mpr ⟨List.mem_of_getElem? (i := 507) (by decide +kernel), by decide +kernel⟩, List.mem_filter.mpr ⟨List.mem_of_getElem? (i := 476) (by decide +kernel), by decide +kernel⟩, List.mem_filter.mpr ⟨List.mem_of_getElem? (i := 477) (by decide +kernel), by decide +kernel⟩⟩
set_option maxRecDepth 100000 in
theorem lk_X1_58 : LV RX1 58 jX1_beginContour 3 := ⟨kbX1_beginContour, rfl, List.mem_filter.mpr ⟨List.mem_of_getElem? (i := 508) (by decide +kernel), by decide +kernel⟩, List.mem_filter.mpr ⟨List.mem_of_getElem? (i := 510) (by decide +kernel), by decide +kernel⟩, List.mem_filter.mpr ⟨List.mem_of_getElem? (i := 5) (by decide +kernel), by decide +kernel⟩⟩
set_option maxRecDepth 100000 in
theorem lk_X1_69 : LV RX1 69 jX1_append 4 := ⟨kbX1_append, rfl, List.mem_filter.mpr ⟨List.mem_of_getElem? (i := 512) (by decide +kernel), by decide +kernel⟩, List.mem_filter.mpr ⟨List.mem_of_getElem? (i := 514) (by decide +kernel), by decide +kernel⟩, List.mem_filter.mpr ⟨List.mem_of_getElem? (i := 6) (by decide +kernel), by decide +kernel⟩⟩
set_option maxRecDepth 100000 in
theorem lk_X1_62 : LV RX1 62 jX1_addCurve 3 := ⟨kbX1_addCurve, rfl, List.mem_filter.mpr ⟨List.mem_of_getElem? (i := 516) (by decide +kernel), by decide +kernel⟩, List.mem_filter.mpr ⟨List.mem_of_getElem? (i := 518) (by decide +kernel), by decide +kernel⟩, List.mem_filter.mpr ⟨List.mem_of_getElem? (i := 7) (by decide +kernel), by decide +kernel⟩⟩
set_option maxRecDepth 100000 in
theorem lk_X1_73 : LV RX1 73 jX2_begin 4 := ⟨kbX2_begin, rfl, List.mem_filter.mpr ⟨List.mem_of_getElem? (i := 520) (by decide +kernel), by decide +kernel⟩, List.mem_filter.mpr ⟨List.mem_of_getElem? (i := 521) (by decide +kernel), by decide +kernel⟩, List.mem_filter.mpr ⟨List.mem_of_getElem? (i := 522) (by decide +kernel), by decide +kernel⟩⟩
set_option maxRecDepth 100000 in
theorem lk_X2_27 : LV RX2 27 jX5_pointsOf 1 := ⟨kbX5_pointsOf, rfl, List.mem_filter.mpr ⟨List.mem_of_getElem? (i := 524) (by decide +kernel), by decide +kernel⟩, List.mem_filter.mpr ⟨List.mem_of_getElem? (i := 462) (by decide +kernel), by decide +kernel⟩, List.mem_filter.mpr ⟨List.mem_of_getElem? (i := 463) (by decide +kernel), by decide +kernel⟩⟩
set_option maxRecDepth 100000 in
theorem lk_X2_33 : LV RX2 33 jX5_numberOf 2 := ⟨kbX5_numberOf, rfl, List.mem_filter.mpr ⟨List.mem_of_getElem? (i := 525) (by decide +kernel), by decide +kernel⟩, List.mem_filter.mpr ⟨List.mem_of_getElem? (i := 472) (by decide +kernel), by decide +kernel⟩, List.mem_filter.mpr ⟨List.mem_of_getElem? (i := 473) (by decide +kernel), by decide +kernel⟩⟩
set_option maxRecDepth 100000 in
theorem lk_X1_77 : LV RX1 77 jX2_hasMore 0 := ⟨kbX2_hasMore, rfl, List.mem_filter.mpr ⟨List.mem_of_getElem? (i := 526) (by decide +kernel), by decide +kernel⟩, List.mem_filter.mpr ⟨List.mem_of_getElem? (i := 527) (by decide +kernel), by decide +kernel⟩, List.mem_filter.mpr ⟨List.mem_of_getElem? (i := 528) (by decide +kernel), by decide +kernel⟩⟩
set_option maxRecDepth 100000 in
theorem lk_X1_81 : LV RX1 81 jX2_halveNext 1 := ⟨kbX2_halveNext, rfl, List.mem_filter.mpr ⟨List.mem_of_getElem? (i := 530) (by decide +kernel), by decide +kernel⟩, List.mem_filter.mpr ⟨List.mem_of_getElem? (i := 531) (by decide +kernel), by decide +kernel⟩, List.mem_filter.mpr ⟨List.mem_of_getElem? (i := 532) (by decide +kernel), by decide +kernel⟩⟩
set_option maxRecDepth 100000 in
theorem lk_X2_37 : LV RX2 37 jX2_isFlat 2 := ⟨kbX2_isFlat, rfl, List.mem_filter.mpr ⟨List.mem_of_getElem? (i := 534) (by decide +kernel), by decide +kernel⟩, List.mem_filter.mpr ⟨List.mem_of_getElem? (i := 536) (by decide +kernel), by decide +kernel⟩, List.mem_filter.mpr ⟨List.mem_of_getElem? (i := 8) (by decide +kernel), by decide +kernel⟩⟩
set_option maxRecDepth 100000 in
theorem lk_X2_45 : LT RX2 45 jJ9_abs_0f7a4 1 := ⟨kbJ9_abs_0f7a4, List.mem_filter.mpr ⟨List.mem_of_getElem? (i := 538) (by decide +kernel), by decide +kernel⟩, List.mem_filter.mpr ⟨List.mem_of_getElem? (i := 539) (by decide +kernel), by decide +kernel⟩⟩
set_option maxRecDepth 100000 in
theorem lk_X2_41 : LV RX2 41 jX2_halve 2 := ⟨kbX2_halve, rfl, List.mem_filter.mpr ⟨List.mem_of_getElem? (i := 541) (by decide +kernel), by decide +kernel⟩, List.mem_filter.mpr ⟨List.mem_of_getElem? (i := 543) (by decide +kernel), by decide +kernel⟩, List.mem_filter.mpr ⟨List.mem_of_getElem? (i := 9) (by decide +kernel), by decide +kernel⟩⟩
set_option maxRecDepth 100000 in
theorem lk_X1_85 : LV RX1 85 jX2_nextX 0 := ⟨kbX2_nextX, rfl, List.mem_filter.mpr ⟨List.mem_of_getElem? (i := 545) (by decide +kernel), by decide +kernel⟩, List.mem_filter.mpr ⟨List.mem_of_getElem? (i := 546) (by decide +kernel), by decide +kernel⟩, List.mem_filter.mpr ⟨List.mem_of_getElem? (i := 547) (by decide +kernel), by decide +kernel⟩⟩
set_option maxRecDepth 100000 in
theorem lk_X1_89 : LV RX1 89 jX2_nextY 0 := ⟨kbX2_nextY, rfl, List.mem_filter.mpr ⟨List.mem_of_getElem? (i := 549) (by decide +kernel), by decide +kernel⟩, List.mem_filter.mpr ⟨List.mem_of_getElem? (i := 550) (by decide +kernel), by decide +kernel⟩, List.mem_filter.mpr ⟨List.mem_of_getElem? (i := 551) (by decide +kernel), by decide +kernel⟩⟩
set_option maxRecDepth 100000 in
theorem lk_X1_66 : LV RX1 66 jX1_addVertex 3 := ⟨kbX1_addVertex, rfl, List.mem_filter.mpr ⟨List.mem_of_getElem? (i := 553) (by decide +kernel), by decide +kernel⟩, List.mem_filter.mpr ⟨List.mem_of_getElem? (i := 555) (by decide +kernel), by decide +kernel⟩, List.mem_filter.mpr ⟨List.mem_of_getElem? (i := 10) (by decide +kernel), by decide +kernel⟩⟩
set_option maxRecDepth 100000 in
theorem lk_X1_95 : LT RX1 95 jX1_segmentLength 2 := ⟨kbX1_segmentLength, List.mem_filter.mpr ⟨List.mem_of_getElem? (i := 557) (by decide +kernel), by decide +kernel⟩, List.mem_filter.mpr ⟨List.mem_of_getElem? (i := 558) (by decide +kernel), by decide +kernel⟩⟩
set_option maxRecDepth 100000 in
theorem ct_X1_99 : Cond.constantLong RX1 99 (256) ∈ wA := List.mem_filter.mpr ⟨List.mem_of_getElem? (i := 560) (by decide +kernel), by decide +kernel⟩
set_option maxRecDepth 100000 in
theorem lk_X1_92 : LV RX1 92 jX2_dropNext 0 := ⟨kbX2_dropNext, rfl, List.mem_filter.mpr ⟨List.mem_of_getElem? (i := 561) (by decide +kernel), by decide +kernel⟩, List.mem_filter.mpr ⟨List.mem_of_getElem? (i := 562) (by decide +kernel), by decide +kernel⟩, List.mem_filter.mpr ⟨List.mem_of_getElem? (i := 563) (by decide +kernel), by decide +kernel⟩⟩
set_option maxRecDepth 100000 in
theorem lk_X9_122 : LV RX9 122 jX1_lengthMadeBy 1 := ⟨kbX1_lengthMadeBy, rfl, List.mem_filter.mpr ⟨List.mem_of_getElem? (i := 565) (by decide +kernel), by decide +kernel⟩, List.mem_filter.mpr ⟨List.mem_of_getElem? (i := 566) (by decide +kernel), by decide +kernel⟩, List.mem_filter.mpr ⟨List.mem_of_getElem? (i := 567) (by decide +kernel), by decide +kernel⟩⟩
set_option maxRecDepth 100000 in
theorem lk_X9_125 : LV RX9 125 jX5_control 2 := ⟨kbX5_control, rfl, List.mem_filter.mpr ⟨List.mem_of_getElem? (i := 569) (by decide +kernel), by decide +kernel⟩, List.mem_filter.mpr ⟨List.mem_of_getElem? (i := 570) (by decide +kernel), by decide +kernel⟩, List.mem_filter.mpr ⟨List.mem_of_getElem? (i := 571) (by decide +kernel), by decide +kernel⟩⟩
set_option maxRecDepth 100000 in
theorem ct_X5_49 : Cond.constant RX5 49 (-1000006) ∈ wA := List.mem_filter.mpr ⟨List.mem_of_getElem? (i := 573) (by decide +kernel), by decide +kernel⟩
set_option maxRecDepth 100000 in
theorem lk_L_45 : LV RL 45 jX9_setTolerance 1 := ⟨kbX9_setTolerance, rfl, List.mem_filter.mpr ⟨List.mem_of_getElem? (i := 574) (by decide +kernel), by decide +kernel⟩, List.mem_filter.mpr ⟨List.mem_of_getElem? (i := 575) (by decide +kernel), by decide +kernel⟩, List.mem_filter.mpr ⟨List.mem_of_getElem? (i := 576) (by decide +kernel), by decide +kernel⟩⟩
set_option maxRecDepth 100000 in
theorem lk_L_50 : LV RL 50 jX9_reverse 1 := ⟨kbX9_reverse, rfl, List.mem_filter.mpr ⟨List.mem_of_getElem? (i := 578) (by decide +kernel), by decide +kernel⟩, List.mem_filter.mpr ⟨List.mem_of_getElem? (i := 579) (by decide +kernel), by decide +kernel⟩, List.mem_filter.mpr ⟨List.mem_of_getElem? (i := 580) (by decide +kernel), by decide +kernel⟩⟩
set_option maxRecDepth 100000 in
theorem lk_X9_133 : LV RX9 133 jX9_isContour 1 := ⟨kbX9_isContour, rfl, List.mem_filter.mpr ⟨List.mem_of_getElem? (i := 582) (by decide +kernel), by decide +kernel⟩, List.mem_filter.mpr ⟨List.mem_of_getElem? (i := 584) (by decide +kernel), by decide +kernel⟩, List.mem_filter.mpr ⟨List.mem_of_getElem? (i := 11) (by decide +kernel), by decide +kernel⟩⟩
set_option maxRecDepth 100000 in
theorem lk_X9_136 : LV RX9 136 jX5_becomeReversed 2 := ⟨kbX5_becomeReversed, rfl, List.mem_filter.mpr ⟨List.mem_of_getElem? (i := 586) (by decide +kernel), by decide +kernel⟩, List.mem_filter.mpr ⟨List.mem_of_getElem? (i := 587) (by decide +kernel), by decide +kernel⟩, List.mem_filter.mpr ⟨List.mem_of_getElem? (i := 588) (by decide +kernel), by decide +kernel⟩⟩
set_option maxRecDepth 100000 in
theorem lk_X5_63 : LV RX5 63 jX5_clear 0 := ⟨kbX5_clear, rfl, List.mem_filter.mpr ⟨List.mem_of_getElem? (i := 590) (by decide +kernel), by decide +kernel⟩, List.mem_filter.mpr ⟨List.mem_of_getElem? (i := 591) (by decide +kernel), by decide +kernel⟩, List.mem_filter.mpr ⟨List.mem_of_getElem? (i := 592) (by decide +kernel), by decide +kernel⟩⟩
set_option maxRecDepth 100000 in
theorem lk_X5_50 : LV RX5 50 jX5_firstOf 1 := ⟨kbX5_firstOf, rfl, List.mem_filter.mpr ⟨List.mem_of_getElem? (i := 594) (by decide +kernel), by decide +kernel⟩, List.mem_filter.mpr ⟨List.mem_of_getElem? (i := 454) (by decide +kernel), by decide +kernel⟩, List.mem_filter.mpr ⟨List.mem_of_getElem? (i := 455) (by decide +kernel), by decide +kernel⟩⟩
set_option maxRecDepth 100000 in
theorem lk_X5_53 : LV RX5 53 jX5_behind 1 := ⟨kbX5_behind, rfl, List.mem_filter.mpr ⟨List.mem_of_getElem? (i := 595) (by decide +kernel), by decide +kernel⟩, List.mem_filter.mpr ⟨List.mem_of_getElem? (i := 596) (by decide +kernel), by decide +kernel⟩, List.mem_filter.mpr ⟨List.mem_of_getElem? (i := 597) (by decide +kernel), by decide +kernel⟩⟩
set_option maxRecDepth 100000 in
theorem lk_X5_66 : LV RX5 66 jX5_addCopies 3 := ⟨kbX5_addCopies, rfl, List.mem_filter.mpr ⟨List.mem_of_getElem? (i := 599) (by decide +kernel), by decide +kernel⟩, List.mem_filter.mpr ⟨List.mem_of_getElem? (i := 601) (by decide +kernel), by decide +kernel⟩, List.mem_filter.mpr ⟨List.mem_of_getElem? (i := 12) (by decide +kernel), by decide +kernel⟩⟩
set_option maxRecDepth 100000 in
theorem lk_X5_76 : LV RX5 76 jX5_add 7 := ⟨kbX5_add, rfl, List.mem_filter.mpr ⟨List.mem_of_getElem? (i := 603) (by decide +kernel), by decide +kernel⟩, List.mem_filter.mpr ⟨List.mem_of_getElem? (i := 421) (by decide +kernel), by decide +kernel⟩, List.mem_filter.mpr ⟨List.mem_of_getElem? (i := 422) (by decide +kernel), by decide +kernel⟩⟩
set_option maxRecDepth 100000 in
theorem lk_X5_70 : LV RX5 70 jX5_endX 1 := ⟨kbX5_endX, rfl, List.mem_filter.mpr ⟨List.mem_of_getElem? (i := 604) (by decide +kernel), by decide +kernel⟩, List.mem_filter.mpr ⟨List.mem_of_getElem? (i := 458) (by decide +kernel), by decide +kernel⟩, List.mem_filter.mpr ⟨List.mem_of_getElem? (i := 459) (by decide +kernel), by decide +kernel⟩⟩
set_option maxRecDepth 100000 in
theorem lk_X5_73 : LV RX5 73 jX5_endY 1 := ⟨kbX5_endY, rfl, List.mem_filter.mpr ⟨List.mem_of_getElem? (i := 605) (by decide +kernel), by decide +kernel⟩, List.mem_filter.mpr ⟨List.mem_of_getElem? (i := 476) (by decide +kernel), by decide +kernel⟩, List.mem_filter.mpr ⟨List.mem_of_getElem? (i := 477) (by decide +kernel), by decide +kernel⟩⟩
set_option maxRecDepth 100000 in
theorem lk_X5_80 : LV RX5 80 jX5_addBackward 2 := ⟨kbX5_addBackward, rfl, List.mem_filter.mpr ⟨List.mem_of_getElem? (i := 606) (by decide +kernel), by decide +kernel⟩, List.mem_filter.mpr ⟨List.mem_of_getElem? (i := 608) (by decide +kernel), by decide +kernel⟩, List.mem_filter.mpr ⟨List.mem_of_getElem? (i := 13) (by decide +kernel), by decide +kernel⟩⟩
set_option maxRecDepth 100000 in
theorem lk_X9_140 : LV RX9 140 jX5_become 1 := ⟨kbX5_become, rfl, List.mem_filter.mpr ⟨List.mem_of_getElem? (i := 610) (by decide +kernel), by decide +kernel⟩, List.mem_filter.mpr ⟨List.mem_of_getElem? (i := 611) (by decide +kernel), by decide +kernel⟩, List.mem_filter.mpr ⟨List.mem_of_getElem? (i := 612) (by decide +kernel), by decide +kernel⟩⟩
set_option maxRecDepth 100000 in
theorem lk_X9_144 : LV RX9 144 jX5_behind 1 := ⟨kbX5_behind, rfl, List.mem_filter.mpr ⟨List.mem_of_getElem? (i := 617) (by decide +kernel), by decide +kernel⟩, List.mem_filter.mpr ⟨List.mem_of_getElem? (i := 596) (by decide +kernel), by decide +kernel⟩, List.mem_filter.mpr ⟨List.mem_of_getElem? (i := 597) (by decide +kernel), by decide +kernel⟩⟩
set_option maxRecDepth 100000 in
theorem lk_L_54 : LV RL 54 jX9_transform 6 := ⟨kbX9_transform, rfl, List.mem_filter.mpr ⟨List.mem_of_getElem? (i := 618) (by decide +kernel), by decide +kernel⟩, List.mem_filter.mpr ⟨List.mem_of_getElem? (i := 619) (by decide +kernel), by decide +kernel⟩, List.mem_filter.mpr ⟨List.mem_of_getElem? (i := 620) (by decide +kernel), by decide +kernel⟩⟩
set_option maxRecDepth 100000 in
theorem lk_X9_147 : LV RX9 147 jX5_becomeTransformed 7 := ⟨kbX5_becomeTransformed, rfl, List.mem_filter.mpr ⟨List.mem_of_getElem? (i := 622) (by decide +kernel), by decide +kernel⟩, List.mem_filter.mpr ⟨List.mem_of_getElem? (i := 623) (by decide +kernel), by decide +kernel⟩, List.mem_filter.mpr ⟨List.mem_of_getElem? (i := 624) (by decide +kernel), by decide +kernel⟩⟩
set_option maxRecDepth 100000 in
theorem lk_X5_59 : LV RX5 59 jX5_become 1 := ⟨kbX5_become, rfl, List.mem_filter.mpr ⟨List.mem_of_getElem? (i := 626) (by decide +kernel), by decide +kernel⟩, List.mem_filter.mpr ⟨List.mem_of_getElem? (i := 611) (by decide +kernel), by decide +kernel⟩, List.mem_filter.mpr ⟨List.mem_of_getElem? (i := 612) (by decide +kernel), by decide +kernel⟩⟩
set_option maxRecDepth 100000 in
theorem lk_X9_151 : LV RX9 151 jX5_isInRange 0 := ⟨kbX5_isInRange, rfl, List.mem_filter.mpr ⟨List.mem_of_getElem? (i := 627) (by decide +kernel), by decide +kernel⟩, List.mem_filter.mpr ⟨List.mem_of_getElem? (i := 628) (by decide +kernel), by decide +kernel⟩, List.mem_filter.mpr ⟨List.mem_of_getElem? (i := 629) (by decide +kernel), by decide +kernel⟩⟩
set_option maxRecDepth 100000 in
theorem lk_L_58 : LV RL 58 jX9_say 1 := ⟨kbX9_say, rfl, List.mem_filter.mpr ⟨List.mem_of_getElem? (i := 632) (by decide +kernel), by decide +kernel⟩, List.mem_filter.mpr ⟨List.mem_of_getElem? (i := 633) (by decide +kernel), by decide +kernel⟩, List.mem_filter.mpr ⟨List.mem_of_getElem? (i := 634) (by decide +kernel), by decide +kernel⟩⟩
set_option maxRecDepth 100000 in
theorem lk_X9_157 : LV RX9 157 jX4_append 1 := ⟨kbX4_append, rfl, List.mem_filter.mpr ⟨List.mem_of_getElem? (i := 636) (by decide +kernel), by decide +kernel⟩, List.mem_filter.mpr ⟨List.mem_of_getElem? (i := 637) (by decide +kernel), by decide +kernel⟩, List.mem_filter.mpr ⟨List.mem_of_getElem? (i := 638) (by decide +kernel), by decide +kernel⟩⟩
set_option maxRecDepth 100000 in
theorem lk_L_62 : LV RL 62 jX9_wipe 0 := ⟨kbX9_wipe, rfl, List.mem_filter.mpr ⟨List.mem_of_getElem? (i := 640) (by decide +kernel), by decide +kernel⟩, List.mem_filter.mpr ⟨List.mem_of_getElem? (i := 641) (by decide +kernel), by decide +kernel⟩, List.mem_filter.mpr ⟨List.mem_of_getElem? (i := 642) (by decide +kernel), by decide +kernel⟩⟩
set_option maxRecDepth 100000 in
theorem lk_L_66 : LV RL 66 jX9_fault 0 := ⟨kbX9_fault, rfl, List.mem_filter.mpr ⟨List.mem_of_getElem? (i := 644) (by decide +kernel), by decide +kernel⟩, List.mem_filter.mpr ⟨List.mem_of_getElem? (i := 645) (by decide +kernel), by decide +kernel⟩, List.mem_filter.mpr ⟨List.mem_of_getElem? (i := 646) (by decide +kernel), by decide +kernel⟩⟩
set_option maxRecDepth 100000 in
theorem lk_X9_160 : LV RX9 160 jX4_readInto 1 := ⟨kbX4_readInto, rfl, List.mem_filter.mpr ⟨List.mem_of_getElem? (i := 648) (by decide +kernel), by decide +kernel⟩, List.mem_filter.mpr ⟨List.mem_of_getElem? (i := 649) (by decide +kernel), by decide +kernel⟩, List.mem_filter.mpr ⟨List.mem_of_getElem? (i := 650) (by decide +kernel), by decide +kernel⟩⟩
set_option maxRecDepth 100000 in
theorem lk_X4_26 : LV RX4 26 jX5_clear 0 := ⟨kbX5_clear, rfl, List.mem_filter.mpr ⟨List.mem_of_getElem? (i := 652) (by decide +kernel), by decide +kernel⟩, List.mem_filter.mpr ⟨List.mem_of_getElem? (i := 591) (by decide +kernel), by decide +kernel⟩, List.mem_filter.mpr ⟨List.mem_of_getElem? (i := 592) (by decide +kernel), by decide +kernel⟩⟩
set_option maxRecDepth 100000 in
theorem lk_X4_31 : LV RX4 31 jX6_begin 0 := ⟨kbX6_begin, rfl, List.mem_filter.mpr ⟨List.mem_of_getElem? (i := 653) (by decide +kernel), by decide +kernel⟩, List.mem_filter.mpr ⟨List.mem_of_getElem? (i := 290) (by decide +kernel), by decide +kernel⟩, List.mem_filter.mpr ⟨List.mem_of_getElem? (i := 291) (by decide +kernel), by decide +kernel⟩⟩
set_option maxRecDepth 100000 in
theorem lk_X4_34 : LV RX4 34 jX6_takes 2 := ⟨kbX6_takes, rfl, List.mem_filter.mpr ⟨List.mem_of_getElem? (i := 654) (by decide +kernel), by decide +kernel⟩, List.mem_filter.mpr ⟨List.mem_of_getElem? (i := 655) (by decide +kernel), by decide +kernel⟩, List.mem_filter.mpr ⟨List.mem_of_getElem? (i := 656) (by decide +kernel), by decide +kernel⟩⟩
set_option maxRecDepth 100000 in
theorem lk_X6_59 : LV RX6 59 jX6_takesDigit 1 := ⟨kbX6_takesDigit, rfl, List.mem_filter.mpr ⟨List.mem_of_getElem? (i := 658) (by decide +kernel), by decide +kernel⟩, List.mem_filter.mpr ⟨List.mem_of_getElem? (i := 660) (by decide +kernel), by decide +kernel⟩, List.mem_filter.mpr ⟨List.mem_of_getElem? (i := 14) (by decide +kernel), by decide +kernel⟩⟩
set_option maxRecDepth 100000 in
theorem lk_X6_63 : LV RX6 63 jX6_takesMinus 0 := ⟨kbX6_takesMinus, rfl, List.mem_filter.mpr ⟨List.mem_of_getElem? (i := 662) (by decide +kernel), by decide +kernel⟩, List.mem_filter.mpr ⟨List.mem_of_getElem? (i := 664) (by decide +kernel), by decide +kernel⟩, List.mem_filter.mpr ⟨List.mem_of_getElem? (i := 15) (by decide +kernel), by decide +kernel⟩⟩
set_option maxRecDepth 100000 in
theorem lk_X6_67 : LV RX6 67 jX6_takesComma 0 := ⟨kbX6_takesComma, rfl, List.mem_filter.mpr ⟨List.mem_of_getElem? (i := 666) (by decide +kernel), by decide +kernel⟩, List.mem_filter.mpr ⟨List.mem_of_getElem? (i := 668) (by decide +kernel), by decide +kernel⟩, List.mem_filter.mpr ⟨List.mem_of_getElem? (i := 16) (by decide +kernel), by decide +kernel⟩⟩
set_option maxRecDepth 100000 in
theorem lk_X6_74 : LV RX6 74 jX6_finishNumber 0 := ⟨kbX6_finishNumber, rfl, List.mem_filter.mpr ⟨List.mem_of_getElem? (i := 670) (by decide +kernel), by decide +kernel⟩, List.mem_filter.mpr ⟨List.mem_of_getElem? (i := 672) (by decide +kernel), by decide +kernel⟩, List.mem_filter.mpr ⟨List.mem_of_getElem? (i := 17) (by decide +kernel), by decide +kernel⟩⟩
set_option maxRecDepth 100000 in
theorem lk_X6_70 : LV RX6 70 jX6_takesKind 2 := ⟨kbX6_takesKind, rfl, List.mem_filter.mpr ⟨List.mem_of_getElem? (i := 674) (by decide +kernel), by decide +kernel⟩, List.mem_filter.mpr ⟨List.mem_of_getElem? (i := 676) (by decide +kernel), by decide +kernel⟩, List.mem_filter.mpr ⟨List.mem_of_getElem? (i := 18) (by decide +kernel), by decide +kernel⟩⟩
set_option maxRecDepth 100000 in
theorem lk_X6_79 : LV RX6 79 jJ0_indexOf_0f7a4 1 := ⟨kbJ0_indexOf_0f7a4, rfl, List.mem_filter.mpr ⟨List.mem_of_getElem? (i := 679) (by decide +kernel), by decide +kernel⟩, List.mem_filter.mpr ⟨List.mem_of_getElem? (i := 680) (by decide +kernel), by decide +kernel⟩, List.mem_filter.mpr ⟨List.mem_of_getElem? (i := 681) (by decide +kernel), by decide +kernel⟩⟩
set_option maxRecDepth 100000 in
theorem lk_J0_633 : LV RJ0 633 jJ0_indexOf_7cf53 2 := ⟨kbJ0_indexOf_7cf53, rfl, List.mem_filter.mpr ⟨List.mem_of_getElem? (i := 683) (by decide +kernel), by decide +kernel⟩, List.mem_filter.mpr ⟨List.mem_of_getElem? (i := 684) (by decide +kernel), by decide +kernel⟩, List.mem_filter.mpr ⟨List.mem_of_getElem? (i := 685) (by decide +kernel), by decide +kernel⟩⟩
set_option maxRecDepth 100000 in
theorem lk_J0_492 : LV RJ0 492 jJ0_isLatin1_aae02 0 := ⟨kbJ0_isLatin1_aae02, rfl, List.mem_filter.mpr ⟨List.mem_of_getElem? (i := 687) (by decide +kernel), by decide +kernel⟩, List.mem_filter.mpr ⟨List.mem_of_getElem? (i := 688) (by decide +kernel), by decide +kernel⟩, List.mem_filter.mpr ⟨List.mem_of_getElem? (i := 689) (by decide +kernel), by decide +kernel⟩⟩
set_option maxRecDepth 100000 in
theorem lk_J0_505 : LV RJ0 505 jJ0_length_8abf5 0 := ⟨kbJ0_length_8abf5, rfl, List.mem_filter.mpr ⟨List.mem_of_getElem? (i := 693) (by decide +kernel), by decide +kernel⟩, List.mem_filter.mpr ⟨List.mem_of_getElem? (i := 694) (by decide +kernel), by decide +kernel⟩, List.mem_filter.mpr ⟨List.mem_of_getElem? (i := 695) (by decide +kernel), by decide +kernel⟩⟩
set_option maxRecDepth 100000 in
theorem lk_J0_335 : LV RJ0 335 jJ0_coder_7d493 0 := ⟨kbJ0_coder_7d493, rfl, List.mem_filter.mpr ⟨List.mem_of_getElem? (i := 697) (by decide +kernel), by decide +kernel⟩, List.mem_filter.mpr ⟨List.mem_of_getElem? (i := 698) (by decide +kernel), by decide +kernel⟩, List.mem_filter.mpr ⟨List.mem_of_getElem? (i := 699) (by decide +kernel), by decide +kernel⟩⟩
set_option maxRecDepth 100000 in
theorem lk_J0_637 : LT RJ0 637 jJ1_indexOf_4cfef 4 := ⟨kbJ1_indexOf_4cfef, List.mem_filter.mpr ⟨List.mem_of_getElem? (i := 701) (by decide +kernel), by decide +kernel⟩, List.mem_filter.mpr ⟨List.mem_of_getElem? (i := 702) (by decide +kernel), by decide +kernel⟩⟩
set_option maxRecDepth 100000 in
theorem lk_J1_88 : LT RJ1 88 jJ1_canEncode_9a6ad 1 := ⟨kbJ1_canEncode_9a6ad, List.mem_filter.mpr ⟨List.mem_of_getElem? (i := 704) (by decide +kernel), by decide +kernel⟩, List.mem_filter.mpr ⟨List.mem_of_getElem? (i := 705) (by decide +kernel), by decide +kernel⟩⟩
set_option maxRecDepth 100000 in
theorem lk_J1_92 : LT RJ1 92 jJ9_max_7cf53 2 := ⟨kbJ9_max_7cf53, List.mem_filter.mpr ⟨List.mem_of_getElem? (i := 707) (by decide +kernel), by decide +kernel⟩, List.mem_filter.mpr ⟨List.mem_of_getElem? (i := 708) (by decide +kernel), by decide +kernel⟩⟩
set_option maxRecDepth 100000 in
theorem lk_J1_38 : LT RJ1 38 jJ9_min_7cf53 2 := ⟨kbJ9_min_7cf53, List.mem_filter.mpr ⟨List.mem_of_getElem? (i := 710) (by decide +kernel), by decide +kernel⟩, List.mem_filter.mpr ⟨List.mem_of_getElem? (i := 711) (by decide +kernel), by decide +kernel⟩⟩
set_option maxRecDepth 100000 in
theorem lk_J1_95 : LT RJ1 95 jJ1_indexOfChar_4cfef 4 := ⟨kbJ1_indexOfChar_4cfef, List.mem_filter.mpr ⟨List.mem_of_getElem? (i := 713) (by decide +kernel), by decide +kernel⟩, List.mem_filter.mpr ⟨List.mem_of_getElem? (i := 714) (by decide +kernel), by decide +kernel⟩⟩
set_option maxRecDepth 100000 in
theorem lk_J0_640 : LT RJ0 640 jJ2_indexOf_4cfef 4 := ⟨kbJ2_indexOf_4cfef, List.mem_filter.mpr ⟨List.mem_of_getElem? (i := 716) (by decide +kernel), by decide +kernel⟩, List.mem_filter.mpr ⟨List.mem_of_getElem? (i := 717) (by decide +kernel), by decide +kernel⟩⟩
set_option maxRecDepth 100000 in
theorem lk_J2_224 : LT RJ2 224 jJ9_max_7cf53 2 := ⟨kbJ9_max_7cf53, List.mem_filter.mpr ⟨List.mem_of_getElem? (i := 719) (by decide +kernel), by decide +kernel⟩, List.mem_filter.mpr ⟨List.mem_of_getElem? (i := 708) (by decide +kernel), by decide +kernel⟩⟩
set_option maxRecDepth 100000 in
theorem lk_J2_183 : LT RJ2 183 jJ9_min_7cf53 2 := ⟨kbJ9_min_7cf53, List.mem_filter.mpr ⟨List.mem_of_getElem? (i := 720) (by decide +kernel), by decide +kernel⟩, List.mem_filter.mpr ⟨List.mem_of_getElem? (i := 711) (by decide +kernel), by decide +kernel⟩⟩
set_option maxRecDepth 100000 in
theorem ct_J2_227 : Cond.constant RJ2 227 (65536) ∈ wA := List.mem_filter.mpr ⟨List.mem_of_getElem? (i := 721) (by decide +kernel), by decide +kernel⟩
set_option maxRecDepth 100000 in
theorem lk_J2_228 : LT RJ2 228 jJ2_indexOfChar_4cfef 4 := ⟨kbJ2_indexOfChar_4cfef, List.mem_filter.mpr ⟨List.mem_of_getElem? (i := 722) (by decide +kernel), by decide +kernel⟩, List.mem_filter.mpr ⟨List.mem_of_getElem? (i := 723) (by decide +kernel), by decide +kernel⟩⟩
set_option maxRecDepth 100000 in
theorem lk_J2_96 : LT RJ2 96 jJ2_checkBoundsBeginEnd_d044e 3 := ⟨kbJ2_checkBoundsBeginEnd_d044e, List.mem_filter.mpr ⟨List.mem_of_getElem? (i := 725) (by decide +kernel), by decide +kernel⟩, List.mem_filter.mpr ⟨List.mem_of_getElem? (i := 726) (by decide +kernel), by decide +kernel⟩⟩
set_option maxRecDepth 100000 in
theorem lk_J2_48 : LT RJ2 48 jJ2_length_9d52b 1 := ⟨kbJ2_length_9d52b, List.mem_filter.mpr ⟨List.mem_of_getElem? (i := 728) (by decide +kernel), by decide +kernel⟩, List.mem_filter.mpr ⟨List.mem_of_getElem? (i := 729) (by decide +kernel), by decide +kernel⟩⟩
set_option maxRecDepth 100000 in
theorem lk_J2_241 : LT RJ2 241 jJ0_checkBoundsBeginEnd_23922 3 := ⟨kbJ0_checkBoundsBeginEnd_23922, List.mem_filter.mpr ⟨List.mem_of_getElem? (i := 731) (by decide +kernel), by decide +kernel⟩, List.mem_filter.mpr ⟨List.mem_of_getElem? (i := 732) (by decide +kernel), by decide +kernel⟩⟩
set_option maxRecDepth 100000 in
theorem lk_J0_1062 : LT RJ0 1062 jJ3_checkFromToIndex_8c36e 4 := ⟨kbJ3_checkFromToIndex_8c36e, List.mem_filter.mpr ⟨List.mem_of_getElem? (i := 736) (by decide +kernel), by decide +kernel⟩, List.mem_filter.mpr ⟨List.mem_of_getElem? (i := 737) (by decide +kernel), by decide +kernel⟩⟩
set_option maxRecDepth 100000 in
theorem lk_J2_244 : LT RJ2 244 jJ2_indexOfCharUnsafe_4cfef 4 := ⟨kbJ2_indexOfCharUnsafe_4cfef, List.mem_filter.mpr ⟨List.mem_of_getElem? (i := 739) (by decide +kernel), by decide +kernel⟩, List.mem_filter.mpr ⟨List.mem_of_getElem? (i := 740) (by decide +kernel), by decide +kernel⟩⟩
set_option maxRecDepth 100000 in
theorem lk_J2_71 : LT RJ2 71 jJ2_getChar_3b067 2 := ⟨kbJ2_getChar_3b067, List.mem_filter.mpr ⟨List.mem_of_getElem? (i := 742) (by decide +kernel), by decide +kernel⟩, List.mem_filter.mpr ⟨List.mem_of_getElem? (i := 743) (by decide +kernel), by decide +kernel⟩⟩
set_option maxRecDepth 100000 in
theorem lk_J2_232 : LT RJ2 232 jJ2_indexOfSupplementary_4cfef 4 := ⟨kbJ2_indexOfSupplementary_4cfef, List.mem_filter.mpr ⟨List.mem_of_getElem? (i := 751) (by decide +kernel), by decide +kernel⟩, List.mem_filter.mpr ⟨List.mem_of_getElem? (i := 752) (by decide +kernel), by decide +kernel⟩⟩
set_option maxRecDepth 100000 in
theorem lk_J2_164 : LT RJ2 164 jJ11_isValidCodePoint_9a6ad 1 := ⟨kbJ11_isValidCodePoint_9a6ad, List.mem_filter.mpr ⟨List.mem_of_getElem? (i := 754) (by decide +kernel), by decide +kernel⟩, List.mem_filter.mpr ⟨List.mem_of_getElem? (i := 755) (by decide +kernel), by decide +kernel⟩⟩
set_option maxRecDepth 100000 in
theorem lk_J2_157 : LT RJ2 157 jJ11_highSurrogate_5068e 1 := ⟨kbJ11_highSurrogate_5068e, List.mem_filter.mpr ⟨List.mem_of_getElem? (i := 757) (by decide +kernel), by decide +kernel⟩, List.mem_filter.mpr ⟨List.mem_of_getElem? (i := 758) (by decide +kernel), by decide +kernel⟩⟩
set_option maxRecDepth 100000 in
theorem ct_J11_110 : Cond.constant RJ11 110 (55232) ∈ wA := List.mem_filter.mpr ⟨List.mem_of_getElem? (i := 760) (by decide +kernel), by decide +kernel⟩
set_option maxRecDepth 100000 in
theorem lk_J2_161 : LT RJ2 161 jJ11_lowSurrogate_5068e 1 := ⟨kbJ11_lowSurrogate_5068e, List.mem_filter.mpr ⟨List.mem_of_getElem? (i := 761) (by decide +kernel), by decide +kernel⟩, List.mem_filter.mpr ⟨List.mem_of_getElem? (i := 762) (by decide +kernel), by decide +kernel⟩⟩
set_option maxRecDepth 100000 in
theorem ct_J11_76 : Cond.constant RJ11 76 (56320) ∈ wA := List.mem_filter.mpr ⟨List.mem_of_getElem? (i := 764) (by decide +kernel), by decide +kernel⟩
set_option maxRecDepth 100000 in
theorem lk_X6_87 : LV RX6 87 jX6_canBegin 1 := ⟨kbX6_canBegin, rfl, List.mem_filter.mpr ⟨List.mem_of_getElem? (i := 766) (by decide +kernel), by decide +kernel⟩, List.mem_filter.mpr ⟨List.mem_of_getElem? (i := 768) (by decide +kernel), by decide +kernel⟩, List.mem_filter.mpr ⟨List.mem_of_getElem? (i := 19) (by decide +kernel), by decide +kernel⟩⟩
set_option maxRecDepth 100000 in
theorem lk_X6_97 : LV RX6 97 jX6_isWhole 0 := ⟨kbX6_isWhole, rfl, List.mem_filter.mpr ⟨List.mem_of_getElem? (i := 770) (by decide +kernel), by decide +kernel⟩, List.mem_filter.mpr ⟨List.mem_of_getElem? (i := 771) (by decide +kernel), by decide +kernel⟩, List.mem_filter.mpr ⟨List.mem_of_getElem? (i := 772) (by decide +kernel), by decide +kernel⟩⟩
set_option maxRecDepth 100000 in
theorem lk_X6_90 : LV RX6 90 jX6_finishCommand 1 := ⟨kbX6_finishCommand, rfl, List.mem_filter.mpr ⟨List.mem_of_getElem? (i := 774) (by decide +kernel), by decide +kernel⟩, List.mem_filter.mpr ⟨List.mem_of_getElem? (i := 775) (by decide +kernel), by decide +kernel⟩, List.mem_filter.mpr ⟨List.mem_of_getElem? (i := 776) (by decide +kernel), by decide +kernel⟩⟩
set_option maxRecDepth 100000 in
theorem lk_X6_100 : LV RX6 100 jX5_add 7 := ⟨kbX5_add, rfl, List.mem_filter.mpr ⟨List.mem_of_getElem? (i := 778) (by decide +kernel), by decide +kernel⟩, List.mem_filter.mpr ⟨List.mem_of_getElem? (i := 421) (by decide +kernel), by decide +kernel⟩, List.mem_filter.mpr ⟨List.mem_of_getElem? (i := 422) (by decide +kernel), by decide +kernel⟩⟩
set_option maxRecDepth 100000 in
theorem lk_X6_106 : LV RX6 106 jX6_shiftNumbers 0 := ⟨kbX6_shiftNumbers, rfl, List.mem_filter.mpr ⟨List.mem_of_getElem? (i := 779) (by decide +kernel), by decide +kernel⟩, List.mem_filter.mpr ⟨List.mem_of_getElem? (i := 781) (by decide +kernel), by decide +kernel⟩, List.mem_filter.mpr ⟨List.mem_of_getElem? (i := 20) (by decide +kernel), by decide +kernel⟩⟩
set_option maxRecDepth 100000 in
theorem lk_X4_38 : LV RX4 38 jX6_isWhole 0 := ⟨kbX6_isWhole, rfl, List.mem_filter.mpr ⟨List.mem_of_getElem? (i := 784) (by decide +kernel), by decide +kernel⟩, List.mem_filter.mpr ⟨List.mem_of_getElem? (i := 771) (by decide +kernel), by decide +kernel⟩, List.mem_filter.mpr ⟨List.mem_of_getElem? (i := 772) (by decide +kernel), by decide +kernel⟩⟩
set_option maxRecDepth 100000 in
theorem lk_X4_42 : LV RX4 42 jX6_finishCommand 1 := ⟨kbX6_finishCommand, rfl, List.mem_filter.mpr ⟨List.mem_of_getElem? (i := 785) (by decide +kernel), by decide +kernel⟩, List.mem_filter.mpr ⟨List.mem_of_getElem? (i := 775) (by decide +kernel), by decide +kernel⟩, List.mem_filter.mpr ⟨List.mem_of_getElem? (i := 776) (by decide +kernel), by decide +kernel⟩⟩
set_option maxRecDepth 100000 in
theorem ct_X4_46 : Cond.constant RX4 46 (-1000006) ∈ wA := List.mem_filter.mpr ⟨List.mem_of_getElem? (i := 786) (by decide +kernel), by decide +kernel⟩
set_option maxRecDepth 100000 in
theorem lk_L_70 : LV RL 70 jX9_load 0 := ⟨kbX9_load, rfl, List.mem_filter.mpr ⟨List.mem_of_getElem? (i := 788) (by decide +kernel), by decide +kernel⟩, List.mem_filter.mpr ⟨List.mem_of_getElem? (i := 789) (by decide +kernel), by decide +kernel⟩, List.mem_filter.mpr ⟨List.mem_of_getElem? (i := 790) (by decide +kernel), by decide +kernel⟩⟩
set_option maxRecDepth 100000 in
theorem ct_X9_164 : Cond.constant RX9 164 (-1000006) ∈ wA := List.mem_filter.mpr ⟨List.mem_of_getElem? (i := 792) (by decide +kernel), by decide +kernel⟩
set_option maxRecDepth 100000 in
theorem ct_X9_165 : Cond.constant RX9 165 (-1000003) ∈ wA := List.mem_filter.mpr ⟨List.mem_of_getElem? (i := 793) (by decide +kernel), by decide +kernel⟩
set_option maxRecDepth 100000 in
theorem lk_X9_166 : LV RX9 166 jX4_commandsRead 0 := ⟨kbX4_commandsRead, rfl, List.mem_filter.mpr ⟨List.mem_of_getElem? (i := 794) (by decide +kernel), by decide +kernel⟩, List.mem_filter.mpr ⟨List.mem_of_getElem? (i := 795) (by decide +kernel), by decide +kernel⟩, List.mem_filter.mpr ⟨List.mem_of_getElem? (i := 796) (by decide +kernel), by decide +kernel⟩⟩
set_option maxRecDepth 100000 in
theorem lk_L_74 : LV RL 74 jX9_spell 1 := ⟨kbX9_spell, rfl, List.mem_filter.mpr ⟨List.mem_of_getElem? (i := 798) (by decide +kernel), by decide +kernel⟩, List.mem_filter.mpr ⟨List.mem_of_getElem? (i := 799) (by decide +kernel), by decide +kernel⟩, List.mem_filter.mpr ⟨List.mem_of_getElem? (i := 800) (by decide +kernel), by decide +kernel⟩⟩
set_option maxRecDepth 100000 in
theorem lk_X9_170 : LV RX9 170 jX8_spellOut 1 := ⟨kbX8_spellOut, rfl, List.mem_filter.mpr ⟨List.mem_of_getElem? (i := 802) (by decide +kernel), by decide +kernel⟩, List.mem_filter.mpr ⟨List.mem_of_getElem? (i := 803) (by decide +kernel), by decide +kernel⟩, List.mem_filter.mpr ⟨List.mem_of_getElem? (i := 804) (by decide +kernel), by decide +kernel⟩⟩
set_option maxRecDepth 100000 in
theorem lk_X8_23 : LV RX8 23 jX5_kindOf 1 := ⟨kbX5_kindOf, rfl, List.mem_filter.mpr ⟨List.mem_of_getElem? (i := 806) (by decide +kernel), by decide +kernel⟩, List.mem_filter.mpr ⟨List.mem_of_getElem? (i := 468) (by decide +kernel), by decide +kernel⟩, List.mem_filter.mpr ⟨List.mem_of_getElem? (i := 469) (by decide +kernel), by decide +kernel⟩⟩
set_option maxRecDepth 100000 in
theorem lk_X8_29 : LV RX8 29 jJ0_charAt_5068e 1 := ⟨kbJ0_charAt_5068e, rfl, List.mem_filter.mpr ⟨List.mem_of_getElem? (i := 808) (by decide +kernel), by decide +kernel⟩, List.mem_filter.mpr ⟨List.mem_of_getElem? (i := 809) (by decide +kernel), by decide +kernel⟩, List.mem_filter.mpr ⟨List.mem_of_getElem? (i := 810) (by decide +kernel), by decide +kernel⟩⟩
set_option maxRecDepth 100000 in
theorem lk_J0_495 : LT RJ0 495 jJ1_charAt_3b067 2 := ⟨kbJ1_charAt_3b067, List.mem_filter.mpr ⟨List.mem_of_getElem? (i := 812) (by decide +kernel), by decide +kernel⟩, List.mem_filter.mpr ⟨List.mem_of_getElem? (i := 813) (by decide +kernel), by decide +kernel⟩⟩
set_option maxRecDepth 100000 in
theorem lk_J1_9 : LT RJ1 9 jJ0_checkIndex_df160 2 := ⟨kbJ0_checkIndex_df160, List.mem_filter.mpr ⟨List.mem_of_getElem? (i := 815) (by decide +kernel), by decide +kernel⟩, List.mem_filter.mpr ⟨List.mem_of_getElem? (i := 816) (by decide +kernel), by decide +kernel⟩⟩
set_option maxRecDepth 100000 in
theorem lk_J0_1059 : LT RJ0 1059 jJ3_checkIndex_8e157 3 := ⟨kbJ3_checkIndex_8e157, List.mem_filter.mpr ⟨List.mem_of_getElem? (i := 818) (by decide +kernel), by decide +kernel⟩, List.mem_filter.mpr ⟨List.mem_of_getElem? (i := 819) (by decide +kernel), by decide +kernel⟩⟩
set_option maxRecDepth 100000 in
theorem lk_J0_498 : LT RJ0 498 jJ2_charAt_3b067 2 := ⟨kbJ2_charAt_3b067, List.mem_filter.mpr ⟨List.mem_of_getElem? (i := 821) (by decide +kernel), by decide +kernel⟩, List.mem_filter.mpr ⟨List.mem_of_getElem? (i := 822) (by decide +kernel), by decide +kernel⟩⟩
set_option maxRecDepth 100000 in
theorem lk_J2_67 : LT RJ2 67 jJ2_checkIndex_2214a 2 := ⟨kbJ2_checkIndex_2214a, List.mem_filter.mpr ⟨List.mem_of_getElem? (i := 824) (by decide +kernel), by decide +kernel⟩, List.mem_filter.mpr ⟨List.mem_of_getElem? (i := 825) (by decide +kernel), by decide +kernel⟩⟩
set_option maxRecDepth 100000 in
theorem lk_J2_414 : LT RJ2 414 jJ0_checkIndex_df160 2 := ⟨kbJ0_checkIndex_df160, List.mem_filter.mpr ⟨List.mem_of_getElem? (i := 827) (by decide +kernel), by decide +kernel⟩, List.mem_filter.mpr ⟨List.mem_of_getElem? (i := 816) (by decide +kernel), by decide +kernel⟩⟩
set_option maxRecDepth 100000 in
theorem lk_X8_35 : LV RX8 35 jX8_append 1 := ⟨kbX8_append, rfl, List.mem_filter.mpr ⟨List.mem_of_getElem? (i := 828) (by decide +kernel), by decide +kernel⟩, List.mem_filter.mpr ⟨List.mem_of_getElem? (i := 830) (by decide +kernel), by decide +kernel⟩, List.mem_filter.mpr ⟨List.mem_of_getElem? (i := 21) (by decide +kernel), by decide +kernel⟩⟩
set_option maxRecDepth 100000 in
theorem lk_X8_39 : LV RX8 39 jX8_spellNumbers 2 := ⟨kbX8_spellNumbers, rfl, List.mem_filter.mpr ⟨List.mem_of_getElem? (i := 832) (by decide +kernel), by decide +kernel⟩, List.mem_filter.mpr ⟨List.mem_of_getElem? (i := 834) (by decide +kernel), by decide +kernel⟩, List.mem_filter.mpr ⟨List.mem_of_getElem? (i := 22) (by decide +kernel), by decide +kernel⟩⟩
set_option maxRecDepth 100000 in
theorem lk_X8_43 : LV RX8 43 jX5_pointsOf 1 := ⟨kbX5_pointsOf, rfl, List.mem_filter.mpr ⟨List.mem_of_getElem? (i := 836) (by decide +kernel), by decide +kernel⟩, List.mem_filter.mpr ⟨List.mem_of_getElem? (i := 462) (by decide +kernel), by decide +kernel⟩, List.mem_filter.mpr ⟨List.mem_of_getElem? (i := 463) (by decide +kernel), by decide +kernel⟩⟩
set_option maxRecDepth 100000 in
theorem lk_X8_46 : LV RX8 46 jX5_numberOf 2 := ⟨kbX5_numberOf, rfl, List.mem_filter.mpr ⟨List.mem_of_getElem? (i := 837) (by decide +kernel), by decide +kernel⟩, List.mem_filter.mpr ⟨List.mem_of_getElem? (i := 472) (by decide +kernel), by decide +kernel⟩, List.mem_filter.mpr ⟨List.mem_of_getElem? (i := 473) (by decide +kernel), by decide +kernel⟩⟩
set_option maxRecDepth 100000 in
theorem lk_X8_50 : LV RX8 50 jX8_spellNumber 1 := ⟨kbX8_spellNumber, rfl, List.mem_filter.mpr ⟨List.mem_of_getElem? (i := 838) (by decide +kernel), by decide +kernel⟩, List.mem_filter.mpr ⟨List.mem_of_getElem? (i := 840) (by decide +kernel), by decide +kernel⟩, List.mem_filter.mpr ⟨List.mem_of_getElem? (i := 23) (by decide +kernel), by decide +kernel⟩⟩
set_option maxRecDepth 100000 in
theorem lk_X8_54 : LT RX8 54 jJ9_abs_0f7a4 1 := ⟨kbJ9_abs_0f7a4, List.mem_filter.mpr ⟨List.mem_of_getElem? (i := 842) (by decide +kernel), by decide +kernel⟩, List.mem_filter.mpr ⟨List.mem_of_getElem? (i := 539) (by decide +kernel), by decide +kernel⟩⟩
set_option maxRecDepth 100000 in
theorem lk_X9_174 : LV RX9 174 jX8_characterAt 1 := ⟨kbX8_characterAt, rfl, List.mem_filter.mpr ⟨List.mem_of_getElem? (i := 843) (by decide +kernel), by decide +kernel⟩, List.mem_filter.mpr ⟨List.mem_of_getElem? (i := 844) (by decide +kernel), by decide +kernel⟩, List.mem_filter.mpr ⟨List.mem_of_getElem? (i := 845) (by decide +kernel), by decide +kernel⟩⟩
set_option maxRecDepth 100000 in
theorem ct_X8_19 : Cond.constant RX8 19 (-1000006) ∈ wA := List.mem_filter.mpr ⟨List.mem_of_getElem? (i := 847) (by decide +kernel), by decide +kernel⟩
set_option maxRecDepth 100000 in
theorem lk_L_78 : LV RL 78 jX9_measure 2 := ⟨kbX9_measure, rfl, List.mem_filter.mpr ⟨List.mem_of_getElem? (i := 848) (by decide +kernel), by decide +kernel⟩, List.mem_filter.mpr ⟨List.mem_of_getElem? (i := 849) (by decide +kernel), by decide +kernel⟩, List.mem_filter.mpr ⟨List.mem_of_getElem? (i := 850) (by decide +kernel), by decide +kernel⟩⟩
set_option maxRecDepth 100000 in
theorem lk_X9_177 : LV RX9 177 jX1_verticesIn 2 := ⟨kbX1_verticesIn, rfl, List.mem_filter.mpr ⟨List.mem_of_getElem? (i := 852) (by decide +kernel), by decide +kernel⟩, List.mem_filter.mpr ⟨List.mem_of_getElem? (i := 853) (by decide +kernel), by decide +kernel⟩, List.mem_filter.mpr ⟨List.mem_of_getElem? (i := 854) (by decide +kernel), by decide +kernel⟩⟩
set_option maxRecDepth 100000 in
theorem lk_X1_101 : LV RX1 101 jX1_firstOf 1 := ⟨kbX1_firstOf, rfl, List.mem_filter.mpr ⟨List.mem_of_getElem? (i := 856) (by decide +kernel), by decide +kernel⟩, List.mem_filter.mpr ⟨List.mem_of_getElem? (i := 857) (by decide +kernel), by decide +kernel⟩, List.mem_filter.mpr ⟨List.mem_of_getElem? (i := 858) (by decide +kernel), by decide +kernel⟩⟩
set_option maxRecDepth 100000 in
theorem lk_X9_180 : LV RX9 180 jX1_segmentsIn 2 := ⟨kbX1_segmentsIn, rfl, List.mem_filter.mpr ⟨List.mem_of_getElem? (i := 860) (by decide +kernel), by decide +kernel⟩, List.mem_filter.mpr ⟨List.mem_of_getElem? (i := 861) (by decide +kernel), by decide +kernel⟩, List.mem_filter.mpr ⟨List.mem_of_getElem? (i := 862) (by decide +kernel), by decide +kernel⟩⟩
set_option maxRecDepth 100000 in
theorem lk_X1_104 : LV RX1 104 jX1_verticesIn 2 := ⟨kbX1_verticesIn, rfl, List.mem_filter.mpr ⟨List.mem_of_getElem? (i := 864) (by decide +kernel), by decide +kernel⟩, List.mem_filter.mpr ⟨List.mem_of_getElem? (i := 853) (by decide +kernel), by decide +kernel⟩, List.mem_filter.mpr ⟨List.mem_of_getElem? (i := 854) (by decide +kernel), by decide +kernel⟩⟩
set_option maxRecDepth 100000 in
theorem lk_X9_183 : LV RX9 183 jX1_lengthIn 2 := ⟨kbX1_lengthIn, rfl, List.mem_filter.mpr ⟨List.mem_of_getElem? (i := 865) (by decide +kernel), by decide +kernel⟩, List.mem_filter.mpr ⟨List.mem_of_getElem? (i := 866) (by decide +kernel), by decide +kernel⟩, List.mem_filter.mpr ⟨List.mem_of_getElem? (i := 867) (by decide +kernel), by decide +kernel⟩⟩
set_option maxRecDepth 100000 in
theorem lk_X1_107 : LV RX1 107 jX1_lengthOf 1 := ⟨kbX1_lengthOf, rfl, List.mem_filter.mpr ⟨List.mem_of_getElem? (i := 869) (by decide +kernel), by decide +kernel⟩, List.mem_filter.mpr ⟨List.mem_of_getElem? (i := 870) (by decide +kernel), by decide +kernel⟩, List.mem_filter.mpr ⟨List.mem_of_getElem? (i := 871) (by decide +kernel), by decide +kernel⟩⟩
set_option maxRecDepth 100000 in
theorem lk_X1_110 : LV RX1 110 jX1_has 1 := ⟨kbX1_has, rfl, List.mem_filter.mpr ⟨List.mem_of_getElem? (i := 873) (by decide +kernel), by decide +kernel⟩, List.mem_filter.mpr ⟨List.mem_of_getElem? (i := 874) (by decide +kernel), by decide +kernel⟩, List.mem_filter.mpr ⟨List.mem_of_getElem? (i := 875) (by decide +kernel), by decide +kernel⟩⟩
set_option maxRecDepth 100000 in
theorem lk_X9_186 : LV RX9 186 jX5_areClosed 2 := ⟨kbX5_areClosed, rfl, List.mem_filter.mpr ⟨List.mem_of_getElem? (i := 877) (by decide +kernel), by decide +kernel⟩, List.mem_filter.mpr ⟨List.mem_of_getElem? (i := 878) (by decide +kernel), by decide +kernel⟩, List.mem_filter.mpr ⟨List.mem_of_getElem? (i := 879) (by decide +kernel), by decide +kernel⟩⟩
set_option maxRecDepth 100000 in
theorem lk_L_82 : LV RL 82 jX9_vertex 3 := ⟨kbX9_vertex, rfl, List.mem_filter.mpr ⟨List.mem_of_getElem? (i := 881) (by decide +kernel), by decide +kernel⟩, List.mem_filter.mpr ⟨List.mem_of_getElem? (i := 882) (by decide +kernel), by decide +kernel⟩, List.mem_filter.mpr ⟨List.mem_of_getElem? (i := 883) (by decide +kernel), by decide +kernel⟩⟩
set_option maxRecDepth 100000 in
theorem lk_X9_190 : LV RX9 190 jX1_firstOf 1 := ⟨kbX1_firstOf, rfl, List.mem_filter.mpr ⟨List.mem_of_getElem? (i := 885) (by decide +kernel), by decide +kernel⟩, List.mem_filter.mpr ⟨List.mem_of_getElem? (i := 857) (by decide +kernel), by decide +kernel⟩, List.mem_filter.mpr ⟨List.mem_of_getElem? (i := 858) (by decide +kernel), by decide +kernel⟩⟩
set_option maxRecDepth 100000 in
theorem lk_X9_191 : LV RX9 191 jX1_vertexNumber 2 := ⟨kbX1_vertexNumber, rfl, List.mem_filter.mpr ⟨List.mem_of_getElem? (i := 886) (by decide +kernel), by decide +kernel⟩, List.mem_filter.mpr ⟨List.mem_of_getElem? (i := 887) (by decide +kernel), by decide +kernel⟩, List.mem_filter.mpr ⟨List.mem_of_getElem? (i := 888) (by decide +kernel), by decide +kernel⟩⟩
set_option maxRecDepth 100000 in
theorem ct_X1_117 : Cond.constant RX1 117 (-1000001) ∈ wA := List.mem_filter.mpr ⟨List.mem_of_getElem? (i := 890) (by decide +kernel), by decide +kernel⟩
set_option maxRecDepth 100000 in
theorem ct_X1_118 : Cond.constant RX1 118 (-1000002) ∈ wA := List.mem_filter.mpr ⟨List.mem_of_getElem? (i := 891) (by decide +kernel), by decide +kernel⟩
set_option maxRecDepth 100000 in
theorem lk_L_87 : LV RL 87 jX9_at 3 := ⟨kbX9_at, rfl, List.mem_filter.mpr ⟨List.mem_of_getElem? (i := 892) (by decide +kernel), by decide +kernel⟩, List.mem_filter.mpr ⟨List.mem_of_getElem? (i := 893) (by decide +kernel), by decide +kernel⟩, List.mem_filter.mpr ⟨List.mem_of_getElem? (i := 894) (by decide +kernel), by decide +kernel⟩⟩
set_option maxRecDepth 100000 in
theorem lk_X9_194 : LV RX9 194 jX1_hasSegments 1 := ⟨kbX1_hasSegments, rfl, List.mem_filter.mpr ⟨List.mem_of_getElem? (i := 896) (by decide +kernel), by decide +kernel⟩, List.mem_filter.mpr ⟨List.mem_of_getElem? (i := 897) (by decide +kernel), by decide +kernel⟩, List.mem_filter.mpr ⟨List.mem_of_getElem? (i := 898) (by decide +kernel), by decide +kernel⟩⟩
set_option maxRecDepth 100000 in
theorem lk_X1_114 : LV RX1 114 jX1_segmentsIn 2 := ⟨kbX1_segmentsIn, rfl, List.mem_filter.mpr ⟨List.mem_of_getElem? (i := 900) (by decide +kernel), by decide +kernel⟩, List.mem_filter.mpr ⟨List.mem_of_getElem? (i := 861) (by decide +kernel), by decide +kernel⟩, List.mem_filter.mpr ⟨List.mem_of_getElem? (i := 862) (by decide +kernel), by decide +kernel⟩⟩
set_option maxRecDepth 100000 in
theorem lk_X9_197 : LV RX9 197 jX1_lengthOf 1 := ⟨kbX1_lengthOf, rfl, List.mem_filter.mpr ⟨List.mem_of_getElem? (i := 901) (by decide +kernel), by decide +kernel⟩, List.mem_filter.mpr ⟨List.mem_of_getElem? (i := 870) (by decide +kernel), by decide +kernel⟩, List.mem_filter.mpr ⟨List.mem_of_getElem? (i := 871) (by decide +kernel), by decide +kernel⟩⟩
set_option maxRecDepth 100000 in
theorem lk_X9_200 : LV RX9 200 jX1_pointNumber 3 := ⟨kbX1_pointNumber, rfl, List.mem_filter.mpr ⟨List.mem_of_getElem? (i := 902) (by decide +kernel), by decide +kernel⟩, List.mem_filter.mpr ⟨List.mem_of_getElem? (i := 903) (by decide +kernel), by decide +kernel⟩, List.mem_filter.mpr ⟨List.mem_of_getElem? (i := 904) (by decide +kernel), by decide +kernel⟩⟩
set_option maxRecDepth 100000 in
theorem lk_X1_119 : LV RX1 119 jX1_segmentAt 2 := ⟨kbX1_segmentAt, rfl, List.mem_filter.mpr ⟨List.mem_of_getElem? (i := 906) (by decide +kernel), by decide +kernel⟩, List.mem_filter.mpr ⟨List.mem_of_getElem? (i := 907) (by decide +kernel), by decide +kernel⟩, List.mem_filter.mpr ⟨List.mem_of_getElem? (i := 908) (by decide +kernel), by decide +kernel⟩⟩
set_option maxRecDepth 100000 in
theorem lk_X1_122 : LV RX1 122 jX1_along 3 := ⟨kbX1_along, rfl, List.mem_filter.mpr ⟨List.mem_of_getElem? (i := 910) (by decide +kernel), by decide +kernel⟩, List.mem_filter.mpr ⟨List.mem_of_getElem? (i := 912) (by decide +kernel), by decide +kernel⟩, List.mem_filter.mpr ⟨List.mem_of_getElem? (i := 24) (by decide +kernel), by decide +kernel⟩⟩
set_option maxRecDepth 100000 in
theorem lk_X1_129 : LV RX1 129 jX1_difference 2 := ⟨kbX1_difference, rfl, List.mem_filter.mpr ⟨List.mem_of_getElem? (i := 914) (by decide +kernel), by decide +kernel⟩, List.mem_filter.mpr ⟨List.mem_of_getElem? (i := 916) (by decide +kernel), by decide +kernel⟩, List.mem_filter.mpr ⟨List.mem_of_getElem? (i := 25) (by decide +kernel), by decide +kernel⟩⟩
set_option maxRecDepth 100000 in
theorem lk_X1_126 : LT RX1 126 jX1_numberOf 2 := ⟨kbX1_numberOf, List.mem_filter.mpr ⟨List.mem_of_getElem? (i := 918) (by decide +kernel), by decide +kernel⟩, List.mem_filter.mpr ⟨List.mem_of_getElem? (i := 919) (by decide +kernel), by decide +kernel⟩⟩
set_option maxRecDepth 100000 in
theorem lk_L_91 : LV RL 91 jX9_nearest 3 := ⟨kbX9_nearest, rfl, List.mem_filter.mpr ⟨List.mem_of_getElem? (i := 921) (by decide +kernel), by decide +kernel⟩, List.mem_filter.mpr ⟨List.mem_of_getElem? (i := 922) (by decide +kernel), by decide +kernel⟩, List.mem_filter.mpr ⟨List.mem_of_getElem? (i := 923) (by decide +kernel), by decide +kernel⟩⟩
set_option maxRecDepth 100000 in
theorem lk_X9_204 : LV RX9 204 jX1_nearestNumber 3 := ⟨kbX1_nearestNumber, rfl, List.mem_filter.mpr ⟨List.mem_of_getElem? (i := 925) (by decide +kernel), by decide +kernel⟩, List.mem_filter.mpr ⟨List.mem_of_getElem? (i := 926) (by decide +kernel), by decide +kernel⟩, List.mem_filter.mpr ⟨List.mem_of_getElem? (i := 927) (by decide +kernel), by decide +kernel⟩⟩
set_option maxRecDepth 100000 in
theorem ct_X1_135 : Cond.constant RX1 135 (2147483647) ∈ wA := List.mem_filter.mpr ⟨List.mem_of_getElem? (i := 929) (by decide +kernel), by decide +kernel⟩
set_option maxRecDepth 100000 in
theorem lk_X1_136 : LV RX1 136 jX1_squareTo 3 := ⟨kbX1_squareTo, rfl, List.mem_filter.mpr ⟨List.mem_of_getElem? (i := 930) (by decide +kernel), by decide +kernel⟩, List.mem_filter.mpr ⟨List.mem_of_getElem? (i := 932) (by decide +kernel), by decide +kernel⟩, List.mem_filter.mpr ⟨List.mem_of_getElem? (i := 26) (by decide +kernel), by decide +kernel⟩⟩
set_option maxRecDepth 100000 in
theorem lk_X1_140 : LV RX1 140 jX1_nearestOn 4 := ⟨kbX1_nearestOn, rfl, List.mem_filter.mpr ⟨List.mem_of_getElem? (i := 934) (by decide +kernel), by decide +kernel⟩, List.mem_filter.mpr ⟨List.mem_of_getElem? (i := 936) (by decide +kernel), by decide +kernel⟩, List.mem_filter.mpr ⟨List.mem_of_getElem? (i := 27) (by decide +kernel), by decide +kernel⟩⟩
set_option maxRecDepth 100000 in
theorem lk_X1_144 : LT RX1 144 jJ9_max_f86c9 2 := ⟨kbJ9_max_f86c9, List.mem_filter.mpr ⟨List.mem_of_getElem? (i := 938) (by decide +kernel), by decide +kernel⟩, List.mem_filter.mpr ⟨List.mem_of_getElem? (i := 939) (by decide +kernel), by decide +kernel⟩⟩
set_option maxRecDepth 100000 in
theorem lk_X1_150 : LT RX1 150 jJ9_min_f86c9 2 := ⟨kbJ9_min_f86c9, List.mem_filter.mpr ⟨List.mem_of_getElem? (i := 941) (by decide +kernel), by decide +kernel⟩, List.mem_filter.mpr ⟨List.mem_of_getElem? (i := 942) (by decide +kernel), by decide +kernel⟩⟩
set_option maxRecDepth 100000 in
theorem lk_L_95 : LV RL 95 jX9_winding 2 := ⟨kbX9_winding, rfl, List.mem_filter.mpr ⟨List.mem_of_getElem? (i := 944) (by decide +kernel), by decide +kernel⟩, List.mem_filter.mpr ⟨List.mem_of_getElem? (i := 945) (by decide +kernel), by decide +kernel⟩, List.mem_filter.mpr ⟨List.mem_of_getElem? (i := 946) (by decide +kernel), by decide +kernel⟩⟩
set_option maxRecDepth 100000 in
theorem lk_X9_207 : LV RX9 207 jX1_windingAround 2 := ⟨kbX1_windingAround, rfl, List.mem_filter.mpr ⟨List.mem_of_getElem? (i := 948) (by decide +kernel), by decide +kernel⟩, List.mem_filter.mpr ⟨List.mem_of_getElem? (i := 949) (by decide +kernel), by decide +kernel⟩, List.mem_filter.mpr ⟨List.mem_of_getElem? (i := 950) (by decide +kernel), by decide +kernel⟩⟩
set_option maxRecDepth 100000 in
theorem lk_X1_153 : LV RX1 153 jX1_vertexBefore 2 := ⟨kbX1_vertexBefore, rfl, List.mem_filter.mpr ⟨List.mem_of_getElem? (i := 952) (by decide +kernel), by decide +kernel⟩, List.mem_filter.mpr ⟨List.mem_of_getElem? (i := 954) (by decide +kernel), by decide +kernel⟩, List.mem_filter.mpr ⟨List.mem_of_getElem? (i := 28) (by decide +kernel), by decide +kernel⟩⟩
set_option maxRecDepth 100000 in
theorem lk_X1_156 : LV RX1 156 jX1_crossing 4 := ⟨kbX1_crossing, rfl, List.mem_filter.mpr ⟨List.mem_of_getElem? (i := 956) (by decide +kernel), by decide +kernel⟩, List.mem_filter.mpr ⟨List.mem_of_getElem? (i := 958) (by decide +kernel), by decide +kernel⟩, List.mem_filter.mpr ⟨List.mem_of_getElem? (i := 29) (by decide +kernel), by decide +kernel⟩⟩
set_option maxRecDepth 100000 in
theorem lk_L_99 : LV RL 99 jX9_area 1 := ⟨kbX9_area, rfl, List.mem_filter.mpr ⟨List.mem_of_getElem? (i := 960) (by decide +kernel), by decide +kernel⟩, List.mem_filter.mpr ⟨List.mem_of_getElem? (i := 961) (by decide +kernel), by decide +kernel⟩, List.mem_filter.mpr ⟨List.mem_of_getElem? (i := 962) (by decide +kernel), by decide +kernel⟩⟩
set_option maxRecDepth 100000 in
theorem ct_X9_210 : Cond.constantLong RX9 210 (-1000000000000000000) ∈ wA := List.mem_filter.mpr ⟨List.mem_of_getElem? (i := 964) (by decide +kernel), by decide +kernel⟩
set_option maxRecDepth 100000 in
theorem lk_X9_212 : LV RX9 212 jX1_twiceTheArea 1 := ⟨kbX1_twiceTheArea, rfl, List.mem_filter.mpr ⟨List.mem_of_getElem? (i := 965) (by decide +kernel), by decide +kernel⟩, List.mem_filter.mpr ⟨List.mem_of_getElem? (i := 966) (by decide +kernel), by decide +kernel⟩, List.mem_filter.mpr ⟨List.mem_of_getElem? (i := 967) (by decide +kernel), by decide +kernel⟩⟩
set_option maxRecDepth 100000 in
theorem lk_L_104 : LV RL 104 jX9_bound 2 := ⟨kbX9_bound, rfl, List.mem_filter.mpr ⟨List.mem_of_getElem? (i := 969) (by decide +kernel), by decide +kernel⟩, List.mem_filter.mpr ⟨List.mem_of_getElem? (i := 970) (by decide +kernel), by decide +kernel⟩, List.mem_filter.mpr ⟨List.mem_of_getElem? (i := 971) (by decide +kernel), by decide +kernel⟩⟩
set_option maxRecDepth 100000 in
theorem lk_X9_216 : LV RX9 216 jX1_boundOf 3 := ⟨kbX1_boundOf, rfl, List.mem_filter.mpr ⟨List.mem_of_getElem? (i := 973) (by decide +kernel), by decide +kernel⟩, List.mem_filter.mpr ⟨List.mem_of_getElem? (i := 974) (by decide +kernel), by decide +kernel⟩, List.mem_filter.mpr ⟨List.mem_of_getElem? (i := 975) (by decide +kernel), by decide +kernel⟩⟩
set_option maxRecDepth 100000 in
theorem lk_X1_160 : LT RX1 160 jJ9_min_7cf53 2 := ⟨kbJ9_min_7cf53, List.mem_filter.mpr ⟨List.mem_of_getElem? (i := 977) (by decide +kernel), by decide +kernel⟩, List.mem_filter.mpr ⟨List.mem_of_getElem? (i := 711) (by decide +kernel), by decide +kernel⟩⟩
set_option maxRecDepth 100000 in
theorem lk_X1_162 : LT RX1 162 jJ9_max_7cf53 2 := ⟨kbJ9_max_7cf53, List.mem_filter.mpr ⟨List.mem_of_getElem? (i := 978) (by decide +kernel), by decide +kernel⟩, List.mem_filter.mpr ⟨List.mem_of_getElem? (i := 708) (by decide +kernel), by decide +kernel⟩⟩
set_option maxRecDepth 100000 in
theorem lk_L_108 : LV RL 108 jX9_simplified 3 := ⟨kbX9_simplified, rfl, List.mem_filter.mpr ⟨List.mem_of_getElem? (i := 979) (by decide +kernel), by decide +kernel⟩, List.mem_filter.mpr ⟨List.mem_of_getElem? (i := 980) (by decide +kernel), by decide +kernel⟩, List.mem_filter.mpr ⟨List.mem_of_getElem? (i := 981) (by decide +kernel), by decide +kernel⟩⟩
set_option maxRecDepth 100000 in
theorem lk_X9_219 : LV RX9 219 jX7_simplify 3 := ⟨kbX7_simplify, rfl, List.mem_filter.mpr ⟨List.mem_of_getElem? (i := 983) (by decide +kernel), by decide +kernel⟩, List.mem_filter.mpr ⟨List.mem_of_getElem? (i := 984) (by decide +kernel), by decide +kernel⟩, List.mem_filter.mpr ⟨List.mem_of_getElem? (i := 985) (by decide +kernel), by decide +kernel⟩⟩
set_option maxRecDepth 100000 in
theorem lk_X7_22 : LV RX7 22 jX1_firstOf 1 := ⟨kbX1_firstOf, rfl, List.mem_filter.mpr ⟨List.mem_of_getElem? (i := 987) (by decide +kernel), by decide +kernel⟩, List.mem_filter.mpr ⟨List.mem_of_getElem? (i := 857) (by decide +kernel), by decide +kernel⟩, List.mem_filter.mpr ⟨List.mem_of_getElem? (i := 858) (by decide +kernel), by decide +kernel⟩⟩
set_option maxRecDepth 100000 in
theorem lk_X7_28 : LV RX7 28 jX1_verticesIn 2 := ⟨kbX1_verticesIn, rfl, List.mem_filter.mpr ⟨List.mem_of_getElem? (i := 988) (by decide +kernel), by decide +kernel⟩, List.mem_filter.mpr ⟨List.mem_of_getElem? (i := 853) (by decide +kernel), by decide +kernel⟩, List.mem_filter.mpr ⟨List.mem_of_getElem? (i := 854) (by decide +kernel), by decide +kernel⟩⟩
set_option maxRecDepth 100000 in
theorem lk_X7_32 : LV RX7 32 jX7_nextKept 1 := ⟨kbX7_nextKept, rfl, List.mem_filter.mpr ⟨List.mem_of_getElem? (i := 989) (by decide +kernel), by decide +kernel⟩, List.mem_filter.mpr ⟨List.mem_of_getElem? (i := 991) (by decide +kernel), by decide +kernel⟩, List.mem_filter.mpr ⟨List.mem_of_getElem? (i := 30) (by decide +kernel), by decide +kernel⟩⟩
set_option maxRecDepth 100000 in
theorem lk_X7_35 : LV RX7 35 jX7_worstBetween 4 := ⟨kbX7_worstBetween, rfl, List.mem_filter.mpr ⟨List.mem_of_getElem? (i := 993) (by decide +kernel), by decide +kernel⟩, List.mem_filter.mpr ⟨List.mem_of_getElem? (i := 995) (by decide +kernel), by decide +kernel⟩, List.mem_filter.mpr ⟨List.mem_of_getElem? (i := 31) (by decide +kernel), by decide +kernel⟩⟩
set_option maxRecDepth 100000 in
theorem lk_X7_39 : LV RX7 39 jX1_deviationScale 2 := ⟨kbX1_deviationScale, rfl, List.mem_filter.mpr ⟨List.mem_of_getElem? (i := 997) (by decide +kernel), by decide +kernel⟩, List.mem_filter.mpr ⟨List.mem_of_getElem? (i := 998) (by decide +kernel), by decide +kernel⟩, List.mem_filter.mpr ⟨List.mem_of_getElem? (i := 999) (by decide +kernel), by decide +kernel⟩⟩
set_option maxRecDepth 100000 in
theorem lk_X7_43 : LV RX7 43 jX1_deviation 3 := ⟨kbX1_deviation, rfl, List.mem_filter.mpr ⟨List.mem_of_getElem? (i := 1001) (by decide +kernel), by decide +kernel⟩, List.mem_filter.mpr ⟨List.mem_of_getElem? (i := 1002) (by decide +kernel), by decide +kernel⟩, List.mem_filter.mpr ⟨List.mem_of_getElem? (i := 1003) (by decide +kernel), by decide +kernel⟩⟩
set_option maxRecDepth 100000 in
theorem lk_X9_223 : LV RX9 223 jX7_kept 0 := ⟨kbX7_kept, rfl, List.mem_filter.mpr ⟨List.mem_of_getElem? (i := 1005) (by decide +kernel), by decide +kernel⟩, List.mem_filter.mpr ⟨List.mem_of_getElem? (i := 1006) (by decide +kernel), by decide +kernel⟩, List.mem_filter.mpr ⟨List.mem_of_getElem? (i := 1007) (by decide +kernel), by decide +kernel⟩⟩
set_option maxRecDepth 100000 in
theorem lk_X9_226 : LV RX9 226 jX7_keptVertex 1 := ⟨kbX7_keptVertex, rfl, List.mem_filter.mpr ⟨List.mem_of_getElem? (i := 1009) (by decide +kernel), by decide +kernel⟩, List.mem_filter.mpr ⟨List.mem_of_getElem? (i := 1010) (by decide +kernel), by decide +kernel⟩, List.mem_filter.mpr ⟨List.mem_of_getElem? (i := 1011) (by decide +kernel), by decide +kernel⟩⟩
set_option maxRecDepth 100000 in
theorem ct_X7_47 : Cond.constant RX7 47 (-1000006) ∈ wA := List.mem_filter.mpr ⟨List.mem_of_getElem? (i := 1013) (by decide +kernel), by decide +kernel⟩
set_option maxRecDepth 100000 in
theorem lk_L_112 : LV RL 112 jX9_addDash 1 := ⟨kbX9_addDash, rfl, List.mem_filter.mpr ⟨List.mem_of_getElem? (i := 1014) (by decide +kernel), by decide +kernel⟩, List.mem_filter.mpr ⟨List.mem_of_getElem? (i := 1015) (by decide +kernel), by decide +kernel⟩, List.mem_filter.mpr ⟨List.mem_of_getElem? (i := 1016) (by decide +kernel), by decide +kernel⟩⟩
set_option maxRecDepth 100000 in
theorem ct_X9_229 : Cond.constant RX9 229 (100000) ∈ wA := List.mem_filter.mpr ⟨List.mem_of_getElem? (i := 1018) (by decide +kernel), by decide +kernel⟩
set_option maxRecDepth 100000 in
theorem lk_X9_231 : LV RX9 231 jX0_append 1 := ⟨kbX0_append, rfl, List.mem_filter.mpr ⟨List.mem_of_getElem? (i := 1019) (by decide +kernel), by decide +kernel⟩, List.mem_filter.mpr ⟨List.mem_of_getElem? (i := 1020) (by decide +kernel), by decide +kernel⟩, List.mem_filter.mpr ⟨List.mem_of_getElem? (i := 1021) (by decide +kernel), by decide +kernel⟩⟩
set_option maxRecDepth 100000 in
theorem lk_L_116 : LV RL 116 jX9_clearDashes 1 := ⟨kbX9_clearDashes, rfl, List.mem_filter.mpr ⟨List.mem_of_getElem? (i := 1023) (by decide +kernel), by decide +kernel⟩, List.mem_filter.mpr ⟨List.mem_of_getElem? (i := 1024) (by decide +kernel), by decide +kernel⟩, List.mem_filter.mpr ⟨List.mem_of_getElem? (i := 1025) (by decide +kernel), by decide +kernel⟩⟩
set_option maxRecDepth 100000 in
theorem lk_L_120 : LV RL 120 jX9_dash 3 := ⟨kbX9_dash, rfl, List.mem_filter.mpr ⟨List.mem_of_getElem? (i := 1027) (by decide +kernel), by decide +kernel⟩, List.mem_filter.mpr ⟨List.mem_of_getElem? (i := 1028) (by decide +kernel), by decide +kernel⟩, List.mem_filter.mpr ⟨List.mem_of_getElem? (i := 1029) (by decide +kernel), by decide +kernel⟩⟩
set_option maxRecDepth 100000 in
theorem lk_X9_237 : LV RX9 237 jX0_layAlong 1 := ⟨kbX0_layAlong, rfl, List.mem_filter.mpr ⟨List.mem_of_getElem? (i := 1031) (by decide +kernel), by decide +kernel⟩, List.mem_filter.mpr ⟨List.mem_of_getElem? (i := 1032) (by decide +kernel), by decide +kernel⟩, List.mem_filter.mpr ⟨List.mem_of_getElem? (i := 1033) (by decide +kernel), by decide +kernel⟩⟩
set_option maxRecDepth 100000 in
theorem lk_X0_31 : LV RX0 31 jX0_layPattern 2 := ⟨kbX0_layPattern, rfl, List.mem_filter.mpr ⟨List.mem_of_getElem? (i := 1035) (by decide +kernel), by decide +kernel⟩, List.mem_filter.mpr ⟨List.mem_of_getElem? (i := 1037) (by decide +kernel), by decide +kernel⟩, List.mem_filter.mpr ⟨List.mem_of_getElem? (i := 32) (by decide +kernel), by decide +kernel⟩⟩
set_option maxRecDepth 100000 in
theorem lk_X0_35 : LT RX0 35 jJ9_max_7cf53 2 := ⟨kbJ9_max_7cf53, List.mem_filter.mpr ⟨List.mem_of_getElem? (i := 1039) (by decide +kernel), by decide +kernel⟩, List.mem_filter.mpr ⟨List.mem_of_getElem? (i := 708) (by decide +kernel), by decide +kernel⟩⟩
set_option maxRecDepth 100000 in
theorem lk_X0_41 : LT RX0 41 jJ9_min_7cf53 2 := ⟨kbJ9_min_7cf53, List.mem_filter.mpr ⟨List.mem_of_getElem? (i := 1040) (by decide +kernel), by decide +kernel⟩, List.mem_filter.mpr ⟨List.mem_of_getElem? (i := 711) (by decide +kernel), by decide +kernel⟩⟩
set_option maxRecDepth 100000 in
theorem lk_X0_44 : LV RX0 44 jX0_keep 2 := ⟨kbX0_keep, rfl, List.mem_filter.mpr ⟨List.mem_of_getElem? (i := 1041) (by decide +kernel), by decide +kernel⟩, List.mem_filter.mpr ⟨List.mem_of_getElem? (i := 1043) (by decide +kernel), by decide +kernel⟩, List.mem_filter.mpr ⟨List.mem_of_getElem? (i := 33) (by decide +kernel), by decide +kernel⟩⟩
set_option maxRecDepth 100000 in
theorem lk_X9_240 : LV RX9 240 jX0_beginOf 1 := ⟨kbX0_beginOf, rfl, List.mem_filter.mpr ⟨List.mem_of_getElem? (i := 1045) (by decide +kernel), by decide +kernel⟩, List.mem_filter.mpr ⟨List.mem_of_getElem? (i := 1046) (by decide +kernel), by decide +kernel⟩, List.mem_filter.mpr ⟨List.mem_of_getElem? (i := 1047) (by decide +kernel), by decide +kernel⟩⟩
set_option maxRecDepth 100000 in
theorem lk_X0_47 : LV RX0 47 jX0_has 1 := ⟨kbX0_has, rfl, List.mem_filter.mpr ⟨List.mem_of_getElem? (i := 1049) (by decide +kernel), by decide +kernel⟩, List.mem_filter.mpr ⟨List.mem_of_getElem? (i := 1051) (by decide +kernel), by decide +kernel⟩, List.mem_filter.mpr ⟨List.mem_of_getElem? (i := 34) (by decide +kernel), by decide +kernel⟩⟩
set_option maxRecDepth 100000 in
theorem ct_X0_51 : Cond.constant RX0 51 (-1000006) ∈ wA := List.mem_filter.mpr ⟨List.mem_of_getElem? (i := 1053) (by decide +kernel), by decide +kernel⟩
set_option maxRecDepth 100000 in
theorem lk_X9_243 : LV RX9 243 jX0_endOf 1 := ⟨kbX0_endOf, rfl, List.mem_filter.mpr ⟨List.mem_of_getElem? (i := 1054) (by decide +kernel), by decide +kernel⟩, List.mem_filter.mpr ⟨List.mem_of_getElem? (i := 1055) (by decide +kernel), by decide +kernel⟩, List.mem_filter.mpr ⟨List.mem_of_getElem? (i := 1056) (by decide +kernel), by decide +kernel⟩⟩
set_option maxRecDepth 100000 in
theorem lk_L_124 : LV RL 124 jX9_setWidth 2 := ⟨kbX9_setWidth, rfl, List.mem_filter.mpr ⟨List.mem_of_getElem? (i := 1058) (by decide +kernel), by decide +kernel⟩, List.mem_filter.mpr ⟨List.mem_of_getElem? (i := 1059) (by decide +kernel), by decide +kernel⟩, List.mem_filter.mpr ⟨List.mem_of_getElem? (i := 1060) (by decide +kernel), by decide +kernel⟩⟩
set_option maxRecDepth 100000 in
theorem lk_X9_246 : LT RX9 246 jX9_isLetter 1 := ⟨kbX9_isLetter, List.mem_filter.mpr ⟨List.mem_of_getElem? (i := 1062) (by decide +kernel), by decide +kernel⟩, List.mem_filter.mpr ⟨List.mem_of_getElem? (i := 1063) (by decide +kernel), by decide +kernel⟩⟩
set_option maxRecDepth 100000 in
theorem lk_X9_249 : LV RX9 249 jX3_changeWidth 2 := ⟨kbX3_changeWidth, rfl, List.mem_filter.mpr ⟨List.mem_of_getElem? (i := 1065) (by decide +kernel), by decide +kernel⟩, List.mem_filter.mpr ⟨List.mem_of_getElem? (i := 1066) (by decide +kernel), by decide +kernel⟩, List.mem_filter.mpr ⟨List.mem_of_getElem? (i := 1067) (by decide +kernel), by decide +kernel⟩⟩
set_option maxRecDepth 100000 in
theorem ct_X3_47 : Cond.constant RX3 47 (-1000001) ∈ wA := List.mem_filter.mpr ⟨List.mem_of_getElem? (i := 1070) (by decide +kernel), by decide +kernel⟩
set_option maxRecDepth 100000 in
theorem lk_L_128 : LV RL 128 jX9_setKerning 3 := ⟨kbX9_setKerning, rfl, List.mem_filter.mpr ⟨List.mem_of_getElem? (i := 1071) (by decide +kernel), by decide +kernel⟩, List.mem_filter.mpr ⟨List.mem_of_getElem? (i := 1072) (by decide +kernel), by decide +kernel⟩, List.mem_filter.mpr ⟨List.mem_of_getElem? (i := 1073) (by decide +kernel), by decide +kernel⟩⟩
set_option maxRecDepth 100000 in
theorem lk_X9_252 : LV RX9 252 jX3_pairsBeside 2 := ⟨kbX3_pairsBeside, rfl, List.mem_filter.mpr ⟨List.mem_of_getElem? (i := 1075) (by decide +kernel), by decide +kernel⟩, List.mem_filter.mpr ⟨List.mem_of_getElem? (i := 1076) (by decide +kernel), by decide +kernel⟩, List.mem_filter.mpr ⟨List.mem_of_getElem? (i := 1077) (by decide +kernel), by decide +kernel⟩⟩
set_option maxRecDepth 100000 in
theorem lk_X3_48 : LV RX3 48 jX3_kerningOf 2 := ⟨kbX3_kerningOf, rfl, List.mem_filter.mpr ⟨List.mem_of_getElem? (i := 1079) (by decide +kernel), by decide +kernel⟩, List.mem_filter.mpr ⟨List.mem_of_getElem? (i := 1081) (by decide +kernel), by decide +kernel⟩, List.mem_filter.mpr ⟨List.mem_of_getElem? (i := 35) (by decide +kernel), by decide +kernel⟩⟩
set_option maxRecDepth 100000 in
theorem lk_X9_255 : LV RX9 255 jX3_changeKerning 3 := ⟨kbX3_changeKerning, rfl, List.mem_filter.mpr ⟨List.mem_of_getElem? (i := 1083) (by decide +kernel), by decide +kernel⟩, List.mem_filter.mpr ⟨List.mem_of_getElem? (i := 1084) (by decide +kernel), by decide +kernel⟩, List.mem_filter.mpr ⟨List.mem_of_getElem? (i := 1085) (by decide +kernel), by decide +kernel⟩⟩
set_option maxRecDepth 100000 in
theorem lk_X3_52 : LV RX3 52 jX3_pairsBeside 2 := ⟨kbX3_pairsBeside, rfl, List.mem_filter.mpr ⟨List.mem_of_getElem? (i := 1087) (by decide +kernel), by decide +kernel⟩, List.mem_filter.mpr ⟨List.mem_of_getElem? (i := 1076) (by decide +kernel), by decide +kernel⟩, List.mem_filter.mpr ⟨List.mem_of_getElem? (i := 1077) (by decide +kernel), by decide +kernel⟩⟩
set_option maxRecDepth 100000 in
theorem lk_L_132 : LV RL 132 jX9_write 1 := ⟨kbX9_write, rfl, List.mem_filter.mpr ⟨List.mem_of_getElem? (i := 1088) (by decide +kernel), by decide +kernel⟩, List.mem_filter.mpr ⟨List.mem_of_getElem? (i := 1089) (by decide +kernel), by decide +kernel⟩, List.mem_filter.mpr ⟨List.mem_of_getElem? (i := 1090) (by decide +kernel), by decide +kernel⟩⟩
set_option maxRecDepth 100000 in
theorem lk_X9_259 : LV RX9 259 jX3_append 1 := ⟨kbX3_append, rfl, List.mem_filter.mpr ⟨List.mem_of_getElem? (i := 1092) (by decide +kernel), by decide +kernel⟩, List.mem_filter.mpr ⟨List.mem_of_getElem? (i := 1093) (by decide +kernel), by decide +kernel⟩, List.mem_filter.mpr ⟨List.mem_of_getElem? (i := 1094) (by decide +kernel), by decide +kernel⟩⟩
set_option maxRecDepth 100000 in
theorem lk_L_136 : LV RL 136 jX9_erase 0 := ⟨kbX9_erase, rfl, List.mem_filter.mpr ⟨List.mem_of_getElem? (i := 1096) (by decide +kernel), by decide +kernel⟩, List.mem_filter.mpr ⟨List.mem_of_getElem? (i := 1097) (by decide +kernel), by decide +kernel⟩, List.mem_filter.mpr ⟨List.mem_of_getElem? (i := 1098) (by decide +kernel), by decide +kernel⟩⟩
set_option maxRecDepth 100000 in
theorem lk_L_140 : LV RL 140 jX9_arrange 3 := ⟨kbX9_arrange, rfl, List.mem_filter.mpr ⟨List.mem_of_getElem? (i := 1100) (by decide +kernel), by decide +kernel⟩, List.mem_filter.mpr ⟨List.mem_of_getElem? (i := 1101) (by decide +kernel), by decide +kernel⟩, List.mem_filter.mpr ⟨List.mem_of_getElem? (i := 1102) (by decide +kernel), by decide +kernel⟩⟩
set_option maxRecDepth 100000 in
theorem lk_L_144 : LV RL 144 jX9_letter 3 := ⟨kbX9_letter, rfl, List.mem_filter.mpr ⟨List.mem_of_getElem? (i := 1104) (by decide +kernel), by decide +kernel⟩, List.mem_filter.mpr ⟨List.mem_of_getElem? (i := 1105) (by decide +kernel), by decide +kernel⟩, List.mem_filter.mpr ⟨List.mem_of_getElem? (i := 1106) (by decide +kernel), by decide +kernel⟩⟩
set_option maxRecDepth 100000 in
theorem lk_X9_269 : LV RX9 269 jX3_layOn 2 := ⟨kbX3_layOn, rfl, List.mem_filter.mpr ⟨List.mem_of_getElem? (i := 1108) (by decide +kernel), by decide +kernel⟩, List.mem_filter.mpr ⟨List.mem_of_getElem? (i := 1109) (by decide +kernel), by decide +kernel⟩, List.mem_filter.mpr ⟨List.mem_of_getElem? (i := 1110) (by decide +kernel), by decide +kernel⟩⟩
set_option maxRecDepth 100000 in
theorem lk_X3_59 : LV RX3 59 jX3_layMovingOn 2 := ⟨kbX3_layMovingOn, rfl, List.mem_filter.mpr ⟨List.mem_of_getElem? (i := 1112) (by decide +kernel), by decide +kernel⟩, List.mem_filter.mpr ⟨List.mem_of_getElem? (i := 1114) (by decide +kernel), by decide +kernel⟩, List.mem_filter.mpr ⟨List.mem_of_getElem? (i := 36) (by decide +kernel), by decide +kernel⟩⟩
set_option maxRecDepth 100000 in
theorem lk_X3_55 : LV RX3 55 jX3_widthAt 1 := ⟨kbX3_widthAt, rfl, List.mem_filter.mpr ⟨List.mem_of_getElem? (i := 1116) (by decide +kernel), by decide +kernel⟩, List.mem_filter.mpr ⟨List.mem_of_getElem? (i := 1118) (by decide +kernel), by decide +kernel⟩, List.mem_filter.mpr ⟨List.mem_of_getElem? (i := 37) (by decide +kernel), by decide +kernel⟩⟩
set_option maxRecDepth 100000 in
theorem lk_X3_97 : LV RX3 97 jX1_has 1 := ⟨kbX1_has, rfl, List.mem_filter.mpr ⟨List.mem_of_getElem? (i := 1120) (by decide +kernel), by decide +kernel⟩, List.mem_filter.mpr ⟨List.mem_of_getElem? (i := 874) (by decide +kernel), by decide +kernel⟩, List.mem_filter.mpr ⟨List.mem_of_getElem? (i := 875) (by decide +kernel), by decide +kernel⟩⟩
set_option maxRecDepth 100000 in
theorem lk_X3_87 : LV RX3 87 jX1_hasSegments 1 := ⟨kbX1_hasSegments, rfl, List.mem_filter.mpr ⟨List.mem_of_getElem? (i := 1121) (by decide +kernel), by decide +kernel⟩, List.mem_filter.mpr ⟨List.mem_of_getElem? (i := 897) (by decide +kernel), by decide +kernel⟩, List.mem_filter.mpr ⟨List.mem_of_getElem? (i := 898) (by decide +kernel), by decide +kernel⟩⟩
set_option maxRecDepth 100000 in
theorem lk_X3_66 : LV RX3 66 jX1_lengthOf 1 := ⟨kbX1_lengthOf, rfl, List.mem_filter.mpr ⟨List.mem_of_getElem? (i := 1122) (by decide +kernel), by decide +kernel⟩, List.mem_filter.mpr ⟨List.mem_of_getElem? (i := 870) (by decide +kernel), by decide +kernel⟩, List.mem_filter.mpr ⟨List.mem_of_getElem? (i := 871) (by decide +kernel), by decide +kernel⟩⟩
set_option maxRecDepth 100000 in
theorem lk_X3_94 : LV RX3 94 jX3_stepAfter 1 := ⟨kbX3_stepAfter, rfl, List.mem_filter.mpr ⟨List.mem_of_getElem? (i := 1123) (by decide +kernel), by decide +kernel⟩, List.mem_filter.mpr ⟨List.mem_of_getElem? (i := 1125) (by decide +kernel), by decide +kernel⟩, List.mem_filter.mpr ⟨List.mem_of_getElem? (i := 38) (by decide +kernel), by decide +kernel⟩⟩
set_option maxRecDepth 100000 in
theorem lk_X3_63 : LV RX3 63 jX3_layOnOne 2 := ⟨kbX3_layOnOne, rfl, List.mem_filter.mpr ⟨List.mem_of_getElem? (i := 1127) (by decide +kernel), by decide +kernel⟩, List.mem_filter.mpr ⟨List.mem_of_getElem? (i := 1129) (by decide +kernel), by decide +kernel⟩, List.mem_filter.mpr ⟨List.mem_of_getElem? (i := 39) (by decide +kernel), by decide +kernel⟩⟩
set_option maxRecDepth 100000 in
theorem lk_X3_71 : LV RX3 71 jX1_isClosed 1 := ⟨kbX1_isClosed, rfl, List.mem_filter.mpr ⟨List.mem_of_getElem? (i := 1131) (by decide +kernel), by decide +kernel⟩, List.mem_filter.mpr ⟨List.mem_of_getElem? (i := 1132) (by decide +kernel), by decide +kernel⟩, List.mem_filter.mpr ⟨List.mem_of_getElem? (i := 1133) (by decide +kernel), by decide +kernel⟩⟩
set_option maxRecDepth 100000 in
theorem lk_X3_74 : LV RX3 74 jX3_endOfAll 0 := ⟨kbX3_endOfAll, rfl, List.mem_filter.mpr ⟨List.mem_of_getElem? (i := 1135) (by decide +kernel), by decide +kernel⟩, List.mem_filter.mpr ⟨List.mem_of_getElem? (i := 1137) (by decide +kernel), by decide +kernel⟩, List.mem_filter.mpr ⟨List.mem_of_getElem? (i := 40) (by decide +kernel), by decide +kernel⟩⟩
set_option maxRecDepth 100000 in
theorem lk_X3_78 : LT RX3 78 jJ9_floorMod_7cf53 2 := ⟨kbJ9_floorMod_7cf53, List.mem_filter.mpr ⟨List.mem_of_getElem? (i := 1139) (by decide +kernel), by decide +kernel⟩, List.mem_filter.mpr ⟨List.mem_of_getElem? (i := 1140) (by decide +kernel), by decide +kernel⟩⟩
set_option maxRecDepth 100000 in
theorem lk_X3_83 : LV RX3 83 jX3_squeeze 3 := ⟨kbX3_squeeze, rfl, List.mem_filter.mpr ⟨List.mem_of_getElem? (i := 1142) (by decide +kernel), by decide +kernel⟩, List.mem_filter.mpr ⟨List.mem_of_getElem? (i := 1144) (by decide +kernel), by decide +kernel⟩, List.mem_filter.mpr ⟨List.mem_of_getElem? (i := 41) (by decide +kernel), by decide +kernel⟩⟩
set_option maxRecDepth 100000 in
theorem lk_X9_273 : LV RX9 273 jX3_placeNumber 3 := ⟨kbX3_placeNumber, rfl, List.mem_filter.mpr ⟨List.mem_of_getElem? (i := 1147) (by decide +kernel), by decide +kernel⟩, List.mem_filter.mpr ⟨List.mem_of_getElem? (i := 1148) (by decide +kernel), by decide +kernel⟩, List.mem_filter.mpr ⟨List.mem_of_getElem? (i := 1149) (by decide +kernel), by decide +kernel⟩⟩
set_option maxRecDepth 100000 in
theorem ct_X3_100 : Cond.constant RX3 100 (-1000006) ∈ wA := List.mem_filter.mpr ⟨List.mem_of_getElem? (i := 1151) (by decide +kernel), by decide +kernel⟩
set_option maxRecDepth 100000 in
theorem lk_X3_101 : LV RX3 101 jX1_pointNumber 3 := ⟨kbX1_pointNumber, rfl, List.mem_filter.mpr ⟨List.mem_of_getElem? (i := 1152) (by decide +kernel), by decide +kernel⟩, List.mem_filter.mpr ⟨List.mem_of_getElem? (i := 903) (by decide +kernel), by decide +kernel⟩, List.mem_filter.mpr ⟨List.mem_of_getElem? (i := 904) (by decide +kernel), by decide +kernel⟩⟩
set_option maxRecDepth 100000 in
theorem lk_L_148 : LV RL 148 jX9_placed 2 := ⟨kbX9_placed, rfl, List.mem_filter.mpr ⟨List.mem_of_getElem? (i := 1153) (by decide +kernel), by decide +kernel⟩, List.mem_filter.mpr ⟨List.mem_of_getElem? (i := 1154) (by decide +kernel), by decide +kernel⟩, List.mem_filter.mpr ⟨List.mem_of_getElem? (i := 1155) (by decide +kernel), by decide +kernel⟩⟩
set_option maxRecDepth 100000 in
theorem lk_X9_277 : LV RX9 277 jX3_lettersPlaced 0 := ⟨kbX3_lettersPlaced, rfl, List.mem_filter.mpr ⟨List.mem_of_getElem? (i := 1157) (by decide +kernel), by decide +kernel⟩, List.mem_filter.mpr ⟨List.mem_of_getElem? (i := 1158) (by decide +kernel), by decide +kernel⟩, List.mem_filter.mpr ⟨List.mem_of_getElem? (i := 1159) (by decide +kernel), by decide +kernel⟩⟩
set_option maxRecDepth 100000 in
theorem lk_X9_280 : LV RX9 280 jX3_turnsBackward 1 := ⟨kbX3_turnsBackward, rfl, List.mem_filter.mpr ⟨List.mem_of_getElem? (i := 1161) (by decide +kernel), by decide +kernel⟩, List.mem_filter.mpr ⟨List.mem_of_getElem? (i := 1162) (by decide +kernel), by decide +kernel⟩, List.mem_filter.mpr ⟨List.mem_of_getElem? (i := 1163) (by decide +kernel), by decide +kernel⟩⟩
set_option maxRecDepth 100000 in
theorem lk_X3_104 : LV RX3 104 jX1_segmentAt 2 := ⟨kbX1_segmentAt, rfl, List.mem_filter.mpr ⟨List.mem_of_getElem? (i := 1165) (by decide +kernel), by decide +kernel⟩, List.mem_filter.mpr ⟨List.mem_of_getElem? (i := 907) (by decide +kernel), by decide +kernel⟩, List.mem_filter.mpr ⟨List.mem_of_getElem? (i := 908) (by decide +kernel), by decide +kernel⟩⟩
set_option maxRecDepth 100000 in
theorem lk_X3_107 : LV RX3 107 jX1_isBackward 2 := ⟨kbX1_isBackward, rfl, List.mem_filter.mpr ⟨List.mem_of_getElem? (i := 1166) (by decide +kernel), by decide +kernel⟩, List.mem_filter.mpr ⟨List.mem_of_getElem? (i := 1167) (by decide +kernel), by decide +kernel⟩, List.mem_filter.mpr ⟨List.mem_of_getElem? (i := 1168) (by decide +kernel), by decide +kernel⟩⟩
set_option maxRecDepth 100000 in
theorem lk_L_152 : LV RL 152 jX9_count 1 := ⟨kbX9_count, rfl, List.mem_filter.mpr ⟨List.mem_of_getElem? (i := 1170) (by decide +kernel), by decide +kernel⟩, List.mem_filter.mpr ⟨List.mem_of_getElem? (i := 1171) (by decide +kernel), by decide +kernel⟩, List.mem_filter.mpr ⟨List.mem_of_getElem? (i := 1172) (by decide +kernel), by decide +kernel⟩⟩
set_option maxRecDepth 100000 in
theorem lk_L_156 : LV RL 156 jX9_save 1 := ⟨kbX9_save, rfl, List.mem_filter.mpr ⟨List.mem_of_getElem? (i := 1174) (by decide +kernel), by decide +kernel⟩, List.mem_filter.mpr ⟨List.mem_of_getElem? (i := 1175) (by decide +kernel), by decide +kernel⟩, List.mem_filter.mpr ⟨List.mem_of_getElem? (i := 1176) (by decide +kernel), by decide +kernel⟩⟩
set_option maxRecDepth 100000 in
theorem lk_X9_287 : LV RX9 287 jX9_savedIn 1 := ⟨kbX9_savedIn, rfl, List.mem_filter.mpr ⟨List.mem_of_getElem? (i := 1178) (by decide +kernel), by decide +kernel⟩, List.mem_filter.mpr ⟨List.mem_of_getElem? (i := 1180) (by decide +kernel), by decide +kernel⟩, List.mem_filter.mpr ⟨List.mem_of_getElem? (i := 42) (by decide +kernel), by decide +kernel⟩⟩
set_option maxRecDepth 100000 in
theorem lk_L_160 : LV RL 160 jX9_restore 1 := ⟨kbX9_restore, rfl, List.mem_filter.mpr ⟨List.mem_of_getElem? (i := 1182) (by decide +kernel), by decide +kernel⟩, List.mem_filter.mpr ⟨List.mem_of_getElem? (i := 1183) (by decide +kernel), by decide +kernel⟩, List.mem_filter.mpr ⟨List.mem_of_getElem? (i := 1184) (by decide +kernel), by decide +kernel⟩⟩
set_option maxRecDepth 100000 in
theorem fl_X10_9 : FL RX10 9 10 0 := ⟨_, _, _, ck_10, by decide, List.mem_filter.mpr ⟨List.mem_of_getElem? (i := 1192) (by decide +kernel), by decide +kernel⟩⟩
set_option maxRecDepth 100000 in
theorem fl_X10_13 : FL RX10 13 10 1 := ⟨_, _, _, ck_10, by decide, List.mem_filter.mpr ⟨List.mem_of_getElem? (i := 1193) (by decide +kernel), by decide +kernel⟩⟩
set_option maxRecDepth 100000 in
theorem fl_X10_16 : FL RX10 16 10 2 := ⟨_, _, _, ck_10, by decide, List.mem_filter.mpr ⟨List.mem_of_getElem? (i := 1194) (by decide +kernel), by decide +kernel⟩⟩
set_option maxRecDepth 100000 in
theorem fl_X10_20 : FL RX10 20 10 3 := ⟨_, _, _, ck_10, by decide, List.mem_filter.mpr ⟨List.mem_of_getElem? (i := 1195) (by decide +kernel), by decide +kernel⟩⟩
set_option maxRecDepth 100000 in
theorem fl_X10_133 : FL RX10 133 10 4 := ⟨_, _, _, ck_10, by decide, List.mem_filter.mpr ⟨List.mem_of_getElem? (i := 1196) (by decide +kernel), by decide +kernel⟩⟩
set_option maxRecDepth 100000 in
theorem fp_X10_133 : FP RX10 133 10 4 .int := ⟨_, _, _, ck_10, by decide, List.mem_filter.mpr ⟨List.mem_of_getElem? (i := 1196) (by decide +kernel), by decide +kernel⟩, by decide +kernel, by decide +kernel⟩
set_option maxRecDepth 100000 in
theorem fl_X10_23 : FL RX10 23 10 5 := ⟨_, _, _, ck_10, by decide, List.mem_filter.mpr ⟨List.mem_of_getElem? (i := 1197) (by decide +kernel), by decide +kernel⟩⟩
set_option maxRecDepth 100000 in
theorem fl_X10_278 : FL RX10 278 10 6 := ⟨_, _, _, ck_10, by decide, List.mem_filter.mpr ⟨List.mem_of_getElem? (i := 1198) (by decide +kernel), by decide +kernel⟩⟩
set_option maxRecDepth 100000 in
theorem fp_X10_278 : FP RX10 278 10 6 .int := ⟨_, _, _, ck_10, by decide, List.mem_filter.mpr ⟨List.mem_of_getElem? (i := 1198) (by decide +kernel), by decide +kernel⟩, by decide +kernel, by decide +kernel⟩
set_option maxRecDepth 100000 in
theorem fl_X10_281 : FL RX10 281 10 7 := ⟨_, _, _, ck_10, by decide, List.mem_filter.mpr ⟨List.mem_of_getElem? (i := 1199) (by decide +kernel), by decide +kernel⟩⟩
set_option maxRecDepth 100000 in
theorem fp_X10_281 : FP RX10 281 10 7 .int := ⟨_, _, _, ck_10, by decide, List.mem_filter.mpr ⟨List.mem_of_getElem? (i := 1199) (by decide +kernel), by decide +kernel⟩, by decide +kernel, by decide +kernel⟩
set_option maxRecDepth 100000 in
theorem fl_X10_26 : FL RX10 26 10 8 := ⟨_, _, _, ck_10, by decide, List.mem_filter.mpr ⟨List.mem_of_getElem? (i := 1200) (by decide +kernel), by decide +kernel⟩⟩
set_option maxRecDepth 100000 in
theorem fl_X10_29 : FL RX10 29 10 9 := ⟨_, _, _, ck_10, by decide, List.mem_filter.mpr ⟨List.mem_of_getElem? (i := 1201) (by decide +kernel), by decide +kernel⟩⟩
set_option maxRecDepth 100000 in
theorem fl_X10_290 : FL RX10 290 10 10 := ⟨_, _, _, ck_10, by decide, List.mem_filter.mpr ⟨List.mem_of_getElem? (i := 1202) (by decide +kernel), by decide +kernel⟩⟩
set_option maxRecDepth 100000 in
theorem fp_X10_290 : FP RX10 290 10 10 .int := ⟨_, _, _, ck_10, by decide, List.mem_filter.mpr ⟨List.mem_of_getElem? (i := 1202) (by decide +kernel), by decide +kernel⟩, by decide +kernel, by decide +kernel⟩
set_option maxRecDepth 100000 in
theorem fl_X10_32 : FL RX10 32 10 11 := ⟨_, _, _, ck_10, by decide, List.mem_filter.mpr ⟨List.mem_of_getElem? (i := 1203) (by decide +kernel), by decide +kernel⟩⟩
set_option maxRecDepth 100000 in
theorem fl_X10_293 : FL RX10 293 10 12 := ⟨_, _, _, ck_10, by decide, List.mem_filter.mpr ⟨List.mem_of_getElem? (i := 1204) (by decide +kernel), by decide +kernel⟩⟩
set_option maxRecDepth 100000 in
theorem fp_X10_293 : FP RX10 293 10 12 .int := ⟨_, _, _, ck_10, by decide, List.mem_filter.mpr ⟨List.mem_of_getElem? (i := 1204) (by decide +kernel), by decide +kernel⟩, by decide +kernel, by decide +kernel⟩
set_option maxRecDepth 100000 in
theorem fl_X10_296 : FL RX10 296 10 13 := ⟨_, _, _, ck_10, by decide, List.mem_filter.mpr ⟨List.mem_of_getElem? (i := 1205) (by decide +kernel), by decide +kernel⟩⟩
set_option maxRecDepth 100000 in
theorem fp_X10_296 : FP RX10 296 10 13 .int := ⟨_, _, _, ck_10, by decide, List.mem_filter.mpr ⟨List.mem_of_getElem? (i := 1205) (by decide +kernel), by decide +kernel⟩, by decide +kernel, by decide +kernel⟩
set_option maxRecDepth 100000 in
theorem fl_X10_299 : FL RX10 299 10 14 := ⟨_, _, _, ck_10, by decide, List.mem_filter.mpr ⟨List.mem_of_getElem? (i := 1206) (by decide +kernel), by decide +kernel⟩⟩
set_option maxRecDepth 100000 in
theorem fp_X10_299 : FP RX10 299 10 14 .int := ⟨_, _, _, ck_10, by decide, List.mem_filter.mpr ⟨List.mem_of_getElem? (i := 1206) (by decide +kernel), by decide +kernel⟩, by decide +kernel, by decide +kernel⟩
set_option maxRecDepth 100000 in
theorem fl_X10_302 : FL RX10 302 10 15 := ⟨_, _, _, ck_10, by decide, List.mem_filter.mpr ⟨List.mem_of_getElem? (i := 1207) (by decide +kernel), by decide +kernel⟩⟩
set_option maxRecDepth 100000 in
theorem fp_X10_302 : FP RX10 302 10 15 .int := ⟨_, _, _, ck_10, by decide, List.mem_filter.mpr ⟨List.mem_of_getElem? (i := 1207) (by decide +kernel), by decide +kernel⟩, by decide +kernel, by decide +kernel⟩
set_option maxRecDepth 100000 in
theorem fl_X10_35 : FL RX10 35 10 16 := ⟨_, _, _, ck_10, by decide, List.mem_filter.mpr ⟨List.mem_of_getElem? (i := 1208) (by decide +kernel), by decide +kernel⟩⟩
set_option maxRecDepth 100000 in
theorem fl_X10_38 : FL RX10 38 10 17 := ⟨_, _, _, ck_10, by decide, List.mem_filter.mpr ⟨List.mem_of_getElem? (i := 1209) (by decide +kernel), by decide +kernel⟩⟩
set_option maxRecDepth 100000 in
theorem fl_X10_137 : FL RX10 137 10 18 := ⟨_, _, _, ck_10, by decide, List.mem_filter.mpr ⟨List.mem_of_getElem? (i := 1210) (by decide +kernel), by decide +kernel⟩⟩
set_option maxRecDepth 100000 in
theorem fp_X10_137 : FP RX10 137 10 18 .int := ⟨_, _, _, ck_10, by decide, List.mem_filter.mpr ⟨List.mem_of_getElem? (i := 1210) (by decide +kernel), by decide +kernel⟩, by decide +kernel, by decide +kernel⟩
set_option maxRecDepth 100000 in
theorem fl_X10_143 : FL RX10 143 10 19 := ⟨_, _, _, ck_10, by decide, List.mem_filter.mpr ⟨List.mem_of_getElem? (i := 1211) (by decide +kernel), by decide +kernel⟩⟩
set_option maxRecDepth 100000 in
theorem fp_X10_143 : FP RX10 143 10 19 .boolean := ⟨_, _, _, ck_10, by decide, List.mem_filter.mpr ⟨List.mem_of_getElem? (i := 1211) (by decide +kernel), by decide +kernel⟩, by decide +kernel, by decide +kernel⟩
set_option maxRecDepth 100000 in
theorem fl_X10_41 : FL RX10 41 10 20 := ⟨_, _, _, ck_10, by decide, List.mem_filter.mpr ⟨List.mem_of_getElem? (i := 1212) (by decide +kernel), by decide +kernel⟩⟩
set_option maxRecDepth 100000 in
theorem fl_X10_162 : FL RX10 162 10 21 := ⟨_, _, _, ck_10, by decide, List.mem_filter.mpr ⟨List.mem_of_getElem? (i := 1213) (by decide +kernel), by decide +kernel⟩⟩
set_option maxRecDepth 100000 in
theorem fp_X10_162 : FP RX10 162 10 21 .int := ⟨_, _, _, ck_10, by decide, List.mem_filter.mpr ⟨List.mem_of_getElem? (i := 1213) (by decide +kernel), by decide +kernel⟩, by decide +kernel, by decide +kernel⟩
set_option maxRecDepth 100000 in
theorem fl_X10_159 : FL RX10 159 10 22 := ⟨_, _, _, ck_10, by decide, List.mem_filter.mpr ⟨List.mem_of_getElem? (i := 1214) (by decide +kernel), by decide +kernel⟩⟩
set_option maxRecDepth 100000 in
theorem fp_X10_159 : FP RX10 159 10 22 .boolean := ⟨_, _, _, ck_10, by decide, List.mem_filter.mpr ⟨List.mem_of_getElem? (i := 1214) (by decide +kernel), by decide +kernel⟩, by decide +kernel, by decide +kernel⟩
set_option maxRecDepth 100000 in
theorem fl_X10_153 : FL RX10 153 10 23 := ⟨_, _, _, ck_10, by decide, List.mem_filter.mpr ⟨List.mem_of_getElem? (i := 1215) (by decide +kernel), by decide +kernel⟩⟩
set_option maxRecDepth 100000 in
theorem fp_X10_153 : FP RX10 153 10 23 .int := ⟨_, _, _, ck_10, by decide, List.mem_filter.mpr ⟨List.mem_of_getElem? (i := 1215) (by decide +kernel), by decide +kernel⟩, by decide +kernel, by decide +kernel⟩
set_option maxRecDepth 100000 in
theorem fl_X10_156 : FL RX10 156 10 24 := ⟨_, _, _, ck_10, by decide, List.mem_filter.mpr ⟨List.mem_of_getElem? (i := 1216) (by decide +kernel), by decide +kernel⟩⟩
set_option maxRecDepth 100000 in
theorem fp_X10_156 : FP RX10 156 10 24 .int := ⟨_, _, _, ck_10, by decide, List.mem_filter.mpr ⟨List.mem_of_getElem? (i := 1216) (by decide +kernel), by decide +kernel⟩, by decide +kernel, by decide +kernel⟩
set_option maxRecDepth 100000 in
theorem fl_X10_172 : FL RX10 172 10 25 := ⟨_, _, _, ck_10, by decide, List.mem_filter.mpr ⟨List.mem_of_getElem? (i := 1217) (by decide +kernel), by decide +kernel⟩⟩
set_option maxRecDepth 100000 in
theorem fp_X10_172 : FP RX10 172 10 25 .int := ⟨_, _, _, ck_10, by decide, List.mem_filter.mpr ⟨List.mem_of_getElem? (i := 1217) (by decide +kernel), by decide +kernel⟩, by decide +kernel, by decide +kernel⟩
set_option maxRecDepth 100000 in
theorem fl_X10_175 : FL RX10 175 10 26 := ⟨_, _, _, ck_10, by decide, List.mem_filter.mpr ⟨List.mem_of_getElem? (i := 1218) (by decide +kernel), by decide +kernel⟩⟩
set_option maxRecDepth 100000 in
theorem fp_X10_175 : FP RX10 175 10 26 .int := ⟨_, _, _, ck_10, by decide, List.mem_filter.mpr ⟨List.mem_of_getElem? (i := 1218) (by decide +kernel), by decide +kernel⟩, by decide +kernel, by decide +kernel⟩
set_option maxRecDepth 100000 in
theorem fl_X10_44 : FL RX10 44 10 27 := ⟨_, _, _, ck_10, by decide, List.mem_filter.mpr ⟨List.mem_of_getElem? (i := 1219) (by decide +kernel), by decide +kernel⟩⟩
set_option maxRecDepth 100000 in
theorem fl_X10_188 : FL RX10 188 10 28 := ⟨_, _, _, ck_10, by decide, List.mem_filter.mpr ⟨List.mem_of_getElem? (i := 1220) (by decide +kernel), by decide +kernel⟩⟩
set_option maxRecDepth 100000 in
theorem fp_X10_188 : FP RX10 188 10 28 .int := ⟨_, _, _, ck_10, by decide, List.mem_filter.mpr ⟨List.mem_of_getElem? (i := 1220) (by decide +kernel), by decide +kernel⟩, by decide +kernel, by decide +kernel⟩
set_option maxRecDepth 100000 in
theorem fl_X10_47 : FL RX10 47 10 29 := ⟨_, _, _, ck_10, by decide, List.mem_filter.mpr ⟨List.mem_of_getElem? (i := 1221) (by decide +kernel), by decide +kernel⟩⟩
set_option maxRecDepth 100000 in
theorem fl_X10_50 : FL RX10 50 10 30 := ⟨_, _, _, ck_10, by decide, List.mem_filter.mpr ⟨List.mem_of_getElem? (i := 1222) (by decide +kernel), by decide +kernel⟩⟩
set_option maxRecDepth 100000 in
theorem fl_X10_53 : FL RX10 53 10 31 := ⟨_, _, _, ck_10, by decide, List.mem_filter.mpr ⟨List.mem_of_getElem? (i := 1223) (by decide +kernel), by decide +kernel⟩⟩
set_option maxRecDepth 100000 in
theorem fl_X10_208 : FL RX10 208 10 32 := ⟨_, _, _, ck_10, by decide, List.mem_filter.mpr ⟨List.mem_of_getElem? (i := 1224) (by decide +kernel), by decide +kernel⟩⟩
set_option maxRecDepth 100000 in
theorem fp_X10_208 : FP RX10 208 10 32 .int := ⟨_, _, _, ck_10, by decide, List.mem_filter.mpr ⟨List.mem_of_getElem? (i := 1224) (by decide +kernel), by decide +kernel⟩, by decide +kernel, by decide +kernel⟩
set_option maxRecDepth 100000 in
theorem fl_X10_56 : FL RX10 56 10 33 := ⟨_, _, _, ck_10, by decide, List.mem_filter.mpr ⟨List.mem_of_getElem? (i := 1225) (by decide +kernel), by decide +kernel⟩⟩
set_option maxRecDepth 100000 in
theorem fl_X10_211 : FL RX10 211 10 34 := ⟨_, _, _, ck_10, by decide, List.mem_filter.mpr ⟨List.mem_of_getElem? (i := 1226) (by decide +kernel), by decide +kernel⟩⟩
set_option maxRecDepth 100000 in
theorem fp_X10_211 : FP RX10 211 10 34 .int := ⟨_, _, _, ck_10, by decide, List.mem_filter.mpr ⟨List.mem_of_getElem? (i := 1226) (by decide +kernel), by decide +kernel⟩, by decide +kernel, by decide +kernel⟩
set_option maxRecDepth 100000 in
theorem fl_X10_59 : FL RX10 59 10 35 := ⟨_, _, _, ck_10, by decide, List.mem_filter.mpr ⟨List.mem_of_getElem? (i := 1227) (by decide +kernel), by decide +kernel⟩⟩
set_option maxRecDepth 100000 in
theorem fl_X10_62 : FL RX10 62 10 36 := ⟨_, _, _, ck_10, by decide, List.mem_filter.mpr ⟨List.mem_of_getElem? (i := 1228) (by decide +kernel), by decide +kernel⟩⟩
set_option maxRecDepth 100000 in
theorem fl_X10_65 : FL RX10 65 10 37 := ⟨_, _, _, ck_10, by decide, List.mem_filter.mpr ⟨List.mem_of_getElem? (i := 1229) (by decide +kernel), by decide +kernel⟩⟩
set_option maxRecDepth 100000 in
theorem fl_X10_220 : FL RX10 220 10 38 := ⟨_, _, _, ck_10, by decide, List.mem_filter.mpr ⟨List.mem_of_getElem? (i := 1230) (by decide +kernel), by decide +kernel⟩⟩
set_option maxRecDepth 100000 in
theorem fp_X10_220 : FP RX10 220 10 38 .int := ⟨_, _, _, ck_10, by decide, List.mem_filter.mpr ⟨List.mem_of_getElem? (i := 1230) (by decide +kernel), by decide +kernel⟩, by decide +kernel, by decide +kernel⟩
set_option maxRecDepth 100000 in
theorem fl_X10_68 : FL RX10 68 10 39 := ⟨_, _, _, ck_10, by decide, List.mem_filter.mpr ⟨List.mem_of_getElem? (i := 1231) (by decide +kernel), by decide +kernel⟩⟩
set_option maxRecDepth 100000 in
theorem fl_X10_71 : FL RX10 71 10 40 := ⟨_, _, _, ck_10, by decide, List.mem_filter.mpr ⟨List.mem_of_getElem? (i := 1232) (by decide +kernel), by decide +kernel⟩⟩
set_option maxRecDepth 100000 in
theorem fl_X10_74 : FL RX10 74 10 41 := ⟨_, _, _, ck_10, by decide, List.mem_filter.mpr ⟨List.mem_of_getElem? (i := 1233) (by decide +kernel), by decide +kernel⟩⟩
set_option maxRecDepth 100000 in
theorem fl_X10_77 : FL RX10 77 10 42 := ⟨_, _, _, ck_10, by decide, List.mem_filter.mpr ⟨List.mem_of_getElem? (i := 1234) (by decide +kernel), by decide +kernel⟩⟩
set_option maxRecDepth 100000 in
theorem lk_L_17 : LV RL 17 jX10_move 2 := ⟨kbX10_move, rfl, List.mem_filter.mpr ⟨List.mem_of_getElem? (i := 1322) (by decide +kernel), by decide +kernel⟩, List.mem_filter.mpr ⟨List.mem_of_getElem? (i := 1323) (by decide +kernel), by decide +kernel⟩, List.mem_filter.mpr ⟨List.mem_of_getElem? (i := 1324) (by decide +kernel), by decide +kernel⟩⟩
set_option maxRecDepth 100000 in
theorem lk_X10_99 : LV RX10 99 jX10_append 7 := ⟨kbX10_append, rfl, List.mem_filter.mpr ⟨List.mem_of_getElem? (i := 1326) (by decide +kernel), by decide +kernel⟩, List.mem_filter.mpr ⟨List.mem_of_getElem? (i := 1328) (by decide +kernel), by decide +kernel⟩, List.mem_filter.mpr ⟨List.mem_of_getElem? (i := 43) (by decide +kernel), by decide +kernel⟩⟩
set_option maxRecDepth 100000 in
theorem lk_X10_84 : LT RX10 84 jX10_isPlace 1 := ⟨kbX10_isPlace, List.mem_filter.mpr ⟨List.mem_of_getElem? (i := 1330) (by decide +kernel), by decide +kernel⟩, List.mem_filter.mpr ⟨List.mem_of_getElem? (i := 1331) (by decide +kernel), by decide +kernel⟩⟩
set_option maxRecDepth 100000 in
theorem lk_X10_80 : LT RX10 80 jX10_in 3 := ⟨kbX10_in, List.mem_filter.mpr ⟨List.mem_of_getElem? (i := 1333) (by decide +kernel), by decide +kernel⟩, List.mem_filter.mpr ⟨List.mem_of_getElem? (i := 1334) (by decide +kernel), by decide +kernel⟩⟩
set_option maxRecDepth 100000 in
theorem ct_X10_88 : Cond.constant RX10 88 (-1000002) ∈ wA := List.mem_filter.mpr ⟨List.mem_of_getElem? (i := 1336) (by decide +kernel), by decide +kernel⟩
set_option maxRecDepth 100000 in
theorem lk_X10_89 : LV RX10 89 jX10_many 0 := ⟨kbX10_many, rfl, List.mem_filter.mpr ⟨List.mem_of_getElem? (i := 1337) (by decide +kernel), by decide +kernel⟩, List.mem_filter.mpr ⟨List.mem_of_getElem? (i := 1339) (by decide +kernel), by decide +kernel⟩, List.mem_filter.mpr ⟨List.mem_of_getElem? (i := 44) (by decide +kernel), by decide +kernel⟩⟩
set_option maxRecDepth 100000 in
theorem lk_X10_93 : LV RX10 93 jX10_kind 1 := ⟨kbX10_kind, rfl, List.mem_filter.mpr ⟨List.mem_of_getElem? (i := 1341) (by decide +kernel), by decide +kernel⟩, List.mem_filter.mpr ⟨List.mem_of_getElem? (i := 1343) (by decide +kernel), by decide +kernel⟩, List.mem_filter.mpr ⟨List.mem_of_getElem? (i := 45) (by decide +kernel), by decide +kernel⟩⟩
set_option maxRecDepth 100000 in
theorem ct_X10_97 : Cond.constant RX10 97 (-1000005) ∈ wA := List.mem_filter.mpr ⟨List.mem_of_getElem? (i := 1345) (by decide +kernel), by decide +kernel⟩
set_option maxRecDepth 100000 in
theorem ct_X10_98 : Cond.constant RX10 98 (-1000004) ∈ wA := List.mem_filter.mpr ⟨List.mem_of_getElem? (i := 1346) (by decide +kernel), by decide +kernel⟩
set_option maxRecDepth 100000 in
theorem lk_L_21 : LV RL 21 jX10_line 2 := ⟨kbX10_line, rfl, List.mem_filter.mpr ⟨List.mem_of_getElem? (i := 1347) (by decide +kernel), by decide +kernel⟩, List.mem_filter.mpr ⟨List.mem_of_getElem? (i := 1348) (by decide +kernel), by decide +kernel⟩, List.mem_filter.mpr ⟨List.mem_of_getElem? (i := 1349) (by decide +kernel), by decide +kernel⟩⟩
set_option maxRecDepth 100000 in
theorem lk_L_26 : LV RL 26 jX10_quad 4 := ⟨kbX10_quad, rfl, List.mem_filter.mpr ⟨List.mem_of_getElem? (i := 1351) (by decide +kernel), by decide +kernel⟩, List.mem_filter.mpr ⟨List.mem_of_getElem? (i := 1352) (by decide +kernel), by decide +kernel⟩, List.mem_filter.mpr ⟨List.mem_of_getElem? (i := 1353) (by decide +kernel), by decide +kernel⟩⟩
set_option maxRecDepth 100000 in
theorem lk_L_31 : LV RL 31 jX10_cubic 6 := ⟨kbX10_cubic, rfl, List.mem_filter.mpr ⟨List.mem_of_getElem? (i := 1355) (by decide +kernel), by decide +kernel⟩, List.mem_filter.mpr ⟨List.mem_of_getElem? (i := 1356) (by decide +kernel), by decide +kernel⟩, List.mem_filter.mpr ⟨List.mem_of_getElem? (i := 1357) (by decide +kernel), by decide +kernel⟩⟩
set_option maxRecDepth 100000 in
theorem lk_L_36 : LV RL 36 jX10_close 0 := ⟨kbX10_close, rfl, List.mem_filter.mpr ⟨List.mem_of_getElem? (i := 1359) (by decide +kernel), by decide +kernel⟩, List.mem_filter.mpr ⟨List.mem_of_getElem? (i := 1360) (by decide +kernel), by decide +kernel⟩, List.mem_filter.mpr ⟨List.mem_of_getElem? (i := 1361) (by decide +kernel), by decide +kernel⟩⟩
set_option maxRecDepth 100000 in
theorem lk_L_40 : LV RL 40 jX10_removeLast 0 := ⟨kbX10_removeLast, rfl, List.mem_filter.mpr ⟨List.mem_of_getElem? (i := 1363) (by decide +kernel), by decide +kernel⟩, List.mem_filter.mpr ⟨List.mem_of_getElem? (i := 1364) (by decide +kernel), by decide +kernel⟩, List.mem_filter.mpr ⟨List.mem_of_getElem? (i := 1365) (by decide +kernel), by decide +kernel⟩⟩
set_option maxRecDepth 100000 in
theorem lk_L_44 : LV RL 44 jX10_command 2 := ⟨kbX10_command, rfl, List.mem_filter.mpr ⟨List.mem_of_getElem? (i := 1367) (by decide +kernel), by decide +kernel⟩, List.mem_filter.mpr ⟨List.mem_of_getElem? (i := 1368) (by decide +kernel), by decide +kernel⟩, List.mem_filter.mpr ⟨List.mem_of_getElem? (i := 1369) (by decide +kernel), by decide +kernel⟩⟩
set_option maxRecDepth 100000 in
theorem ct_X10_107 : Cond.constant RX10 107 (-1000001) ∈ wA := List.mem_filter.mpr ⟨List.mem_of_getElem? (i := 1371) (by decide +kernel), by decide +kernel⟩
set_option maxRecDepth 100000 in
theorem lk_X10_108 : LV RX10 108 jX10_contourOf 1 := ⟨kbX10_contourOf, rfl, List.mem_filter.mpr ⟨List.mem_of_getElem? (i := 1372) (by decide +kernel), by decide +kernel⟩, List.mem_filter.mpr ⟨List.mem_of_getElem? (i := 1374) (by decide +kernel), by decide +kernel⟩, List.mem_filter.mpr ⟨List.mem_of_getElem? (i := 46) (by decide +kernel), by decide +kernel⟩⟩
set_option maxRecDepth 100000 in
theorem ct_X10_103 : Cond.constant RX10 103 (-1000006) ∈ wA := List.mem_filter.mpr ⟨List.mem_of_getElem? (i := 1376) (by decide +kernel), by decide +kernel⟩
set_option maxRecDepth 100000 in
theorem lk_X10_111 : LV RX10 111 jX10_flatten 0 := ⟨kbX10_flatten, rfl, List.mem_filter.mpr ⟨List.mem_of_getElem? (i := 1377) (by decide +kernel), by decide +kernel⟩, List.mem_filter.mpr ⟨List.mem_of_getElem? (i := 1379) (by decide +kernel), by decide +kernel⟩, List.mem_filter.mpr ⟨List.mem_of_getElem? (i := 47) (by decide +kernel), by decide +kernel⟩⟩
set_option maxRecDepth 100000 in
theorem lk_X10_114 : LV RX10 114 jX10_endX 1 := ⟨kbX10_endX, rfl, List.mem_filter.mpr ⟨List.mem_of_getElem? (i := 1381) (by decide +kernel), by decide +kernel⟩, List.mem_filter.mpr ⟨List.mem_of_getElem? (i := 1383) (by decide +kernel), by decide +kernel⟩, List.mem_filter.mpr ⟨List.mem_of_getElem? (i := 48) (by decide +kernel), by decide +kernel⟩⟩
set_option maxRecDepth 100000 in
theorem lk_X10_104 : LV RX10 104 jX10_moveOf 1 := ⟨kbX10_moveOf, rfl, List.mem_filter.mpr ⟨List.mem_of_getElem? (i := 1385) (by decide +kernel), by decide +kernel⟩, List.mem_filter.mpr ⟨List.mem_of_getElem? (i := 1387) (by decide +kernel), by decide +kernel⟩, List.mem_filter.mpr ⟨List.mem_of_getElem? (i := 49) (by decide +kernel), by decide +kernel⟩⟩
set_option maxRecDepth 100000 in
theorem lk_X10_117 : LV RX10 117 jX10_endY 1 := ⟨kbX10_endY, rfl, List.mem_filter.mpr ⟨List.mem_of_getElem? (i := 1389) (by decide +kernel), by decide +kernel⟩, List.mem_filter.mpr ⟨List.mem_of_getElem? (i := 1391) (by decide +kernel), by decide +kernel⟩, List.mem_filter.mpr ⟨List.mem_of_getElem? (i := 50) (by decide +kernel), by decide +kernel⟩⟩
set_option maxRecDepth 100000 in
theorem lk_X10_227 : LV RX10 227 jX10_addVertex 3 := ⟨kbX10_addVertex, rfl, List.mem_filter.mpr ⟨List.mem_of_getElem? (i := 1393) (by decide +kernel), by decide +kernel⟩, List.mem_filter.mpr ⟨List.mem_of_getElem? (i := 1395) (by decide +kernel), by decide +kernel⟩, List.mem_filter.mpr ⟨List.mem_of_getElem? (i := 51) (by decide +kernel), by decide +kernel⟩⟩
set_option maxRecDepth 100000 in
theorem ct_X10_214 : Cond.constantLong RX10 214 (256) ∈ wA := List.mem_filter.mpr ⟨List.mem_of_getElem? (i := 1397) (by decide +kernel), by decide +kernel⟩
set_option maxRecDepth 100000 in
theorem lk_X10_216 : LT RX10 216 jX10_root 1 := ⟨kbX10_root, List.mem_filter.mpr ⟨List.mem_of_getElem? (i := 1398) (by decide +kernel), by decide +kernel⟩, List.mem_filter.mpr ⟨List.mem_of_getElem? (i := 1399) (by decide +kernel), by decide +kernel⟩⟩
set_option maxRecDepth 100000 in
theorem ct_X10_204 : Cond.constantLong RX10 204 (200000) ∈ wA := List.mem_filter.mpr ⟨List.mem_of_getElem? (i := 1401) (by decide +kernel), by decide +kernel⟩
set_option maxRecDepth 100000 in
theorem ct_X10_206 : Cond.constantLong RX10 206 (2) ∈ wA := List.mem_filter.mpr ⟨List.mem_of_getElem? (i := 1402) (by decide +kernel), by decide +kernel⟩
set_option maxRecDepth 100000 in
theorem lk_X10_235 : LV RX10 235 jX10_push 9 := ⟨kbX10_push, rfl, List.mem_filter.mpr ⟨List.mem_of_getElem? (i := 1403) (by decide +kernel), by decide +kernel⟩, List.mem_filter.mpr ⟨List.mem_of_getElem? (i := 1405) (by decide +kernel), by decide +kernel⟩, List.mem_filter.mpr ⟨List.mem_of_getElem? (i := 52) (by decide +kernel), by decide +kernel⟩⟩
set_option maxRecDepth 100000 in
theorem lk_X10_239 : LV RX10 239 jX10_flattenQuad 1 := ⟨kbX10_flattenQuad, rfl, List.mem_filter.mpr ⟨List.mem_of_getElem? (i := 1407) (by decide +kernel), by decide +kernel⟩, List.mem_filter.mpr ⟨List.mem_of_getElem? (i := 1409) (by decide +kernel), by decide +kernel⟩, List.mem_filter.mpr ⟨List.mem_of_getElem? (i := 53) (by decide +kernel), by decide +kernel⟩⟩
set_option maxRecDepth 100000 in
theorem lk_X10_223 : LT RX10 223 jX10_bend 3 := ⟨kbX10_bend, List.mem_filter.mpr ⟨List.mem_of_getElem? (i := 1411) (by decide +kernel), by decide +kernel⟩, List.mem_filter.mpr ⟨List.mem_of_getElem? (i := 1412) (by decide +kernel), by decide +kernel⟩⟩
set_option maxRecDepth 100000 in
theorem lk_X10_195 : LT RX10 195 jX10_size 1 := ⟨kbX10_size, List.mem_filter.mpr ⟨List.mem_of_getElem? (i := 1414) (by decide +kernel), by decide +kernel⟩, List.mem_filter.mpr ⟨List.mem_of_getElem? (i := 1415) (by decide +kernel), by decide +kernel⟩⟩
set_option maxRecDepth 100000 in
theorem lk_X10_231 : LT RX10 231 jX10_mid 2 := ⟨kbX10_mid, List.mem_filter.mpr ⟨List.mem_of_getElem? (i := 1417) (by decide +kernel), by decide +kernel⟩, List.mem_filter.mpr ⟨List.mem_of_getElem? (i := 1418) (by decide +kernel), by decide +kernel⟩⟩
set_option maxRecDepth 100000 in
theorem lk_X10_242 : LV RX10 242 jX10_flattenCubic 1 := ⟨kbX10_flattenCubic, rfl, List.mem_filter.mpr ⟨List.mem_of_getElem? (i := 1420) (by decide +kernel), by decide +kernel⟩, List.mem_filter.mpr ⟨List.mem_of_getElem? (i := 1422) (by decide +kernel), by decide +kernel⟩, List.mem_filter.mpr ⟨List.mem_of_getElem? (i := 54) (by decide +kernel), by decide +kernel⟩⟩
set_option maxRecDepth 100000 in
theorem lk_L_49 : LV RL 49 jX10_setTolerance 1 := ⟨kbX10_setTolerance, rfl, List.mem_filter.mpr ⟨List.mem_of_getElem? (i := 1424) (by decide +kernel), by decide +kernel⟩, List.mem_filter.mpr ⟨List.mem_of_getElem? (i := 1425) (by decide +kernel), by decide +kernel⟩, List.mem_filter.mpr ⟨List.mem_of_getElem? (i := 1426) (by decide +kernel), by decide +kernel⟩⟩
set_option maxRecDepth 100000 in
theorem lk_L_53 : LV RL 53 jX10_reverse 1 := ⟨kbX10_reverse, rfl, List.mem_filter.mpr ⟨List.mem_of_getElem? (i := 1428) (by decide +kernel), by decide +kernel⟩, List.mem_filter.mpr ⟨List.mem_of_getElem? (i := 1429) (by decide +kernel), by decide +kernel⟩, List.mem_filter.mpr ⟨List.mem_of_getElem? (i := 1430) (by decide +kernel), by decide +kernel⟩⟩
set_option maxRecDepth 100000 in
theorem lk_X10_123 : LV RX10 123 jX10_isContour 1 := ⟨kbX10_isContour, rfl, List.mem_filter.mpr ⟨List.mem_of_getElem? (i := 1432) (by decide +kernel), by decide +kernel⟩, List.mem_filter.mpr ⟨List.mem_of_getElem? (i := 1434) (by decide +kernel), by decide +kernel⟩, List.mem_filter.mpr ⟨List.mem_of_getElem? (i := 55) (by decide +kernel), by decide +kernel⟩⟩
set_option maxRecDepth 100000 in
theorem lk_X10_120 : LV RX10 120 jX10_contours 0 := ⟨kbX10_contours, rfl, List.mem_filter.mpr ⟨List.mem_of_getElem? (i := 1436) (by decide +kernel), by decide +kernel⟩, List.mem_filter.mpr ⟨List.mem_of_getElem? (i := 1438) (by decide +kernel), by decide +kernel⟩, List.mem_filter.mpr ⟨List.mem_of_getElem? (i := 56) (by decide +kernel), by decide +kernel⟩⟩
set_option maxRecDepth 100000 in
theorem lk_X10_126 : LV RX10 126 jX10_firstOf 1 := ⟨kbX10_firstOf, rfl, List.mem_filter.mpr ⟨List.mem_of_getElem? (i := 1440) (by decide +kernel), by decide +kernel⟩, List.mem_filter.mpr ⟨List.mem_of_getElem? (i := 1442) (by decide +kernel), by decide +kernel⟩, List.mem_filter.mpr ⟨List.mem_of_getElem? (i := 57) (by decide +kernel), by decide +kernel⟩⟩
set_option maxRecDepth 100000 in
theorem lk_X10_129 : LV RX10 129 jX10_setTurned 4 := ⟨kbX10_setTurned, rfl, List.mem_filter.mpr ⟨List.mem_of_getElem? (i := 1444) (by decide +kernel), by decide +kernel⟩, List.mem_filter.mpr ⟨List.mem_of_getElem? (i := 1446) (by decide +kernel), by decide +kernel⟩, List.mem_filter.mpr ⟨List.mem_of_getElem? (i := 58) (by decide +kernel), by decide +kernel⟩⟩
set_option maxRecDepth 100000 in
theorem lk_L_57 : LV RL 57 jX10_transform 6 := ⟨kbX10_transform, rfl, List.mem_filter.mpr ⟨List.mem_of_getElem? (i := 1448) (by decide +kernel), by decide +kernel⟩, List.mem_filter.mpr ⟨List.mem_of_getElem? (i := 1449) (by decide +kernel), by decide +kernel⟩, List.mem_filter.mpr ⟨List.mem_of_getElem? (i := 1450) (by decide +kernel), by decide +kernel⟩⟩
set_option maxRecDepth 100000 in
theorem lk_L_61 : LV RL 61 jX10_say 1 := ⟨kbX10_say, rfl, List.mem_filter.mpr ⟨List.mem_of_getElem? (i := 1452) (by decide +kernel), by decide +kernel⟩, List.mem_filter.mpr ⟨List.mem_of_getElem? (i := 1453) (by decide +kernel), by decide +kernel⟩, List.mem_filter.mpr ⟨List.mem_of_getElem? (i := 1454) (by decide +kernel), by decide +kernel⟩⟩
set_option maxRecDepth 100000 in
theorem lk_L_65 : LV RL 65 jX10_wipe 0 := ⟨kbX10_wipe, rfl, List.mem_filter.mpr ⟨List.mem_of_getElem? (i := 1456) (by decide +kernel), by decide +kernel⟩, List.mem_filter.mpr ⟨List.mem_of_getElem? (i := 1457) (by decide +kernel), by decide +kernel⟩, List.mem_filter.mpr ⟨List.mem_of_getElem? (i := 1458) (by decide +kernel), by decide +kernel⟩⟩
set_option maxRecDepth 100000 in
theorem lk_L_69 : LV RL 69 jX10_fault 0 := ⟨kbX10_fault, rfl, List.mem_filter.mpr ⟨List.mem_of_getElem? (i := 1460) (by decide +kernel), by decide +kernel⟩, List.mem_filter.mpr ⟨List.mem_of_getElem? (i := 1461) (by decide +kernel), by decide +kernel⟩, List.mem_filter.mpr ⟨List.mem_of_getElem? (i := 1462) (by decide +kernel), by decide +kernel⟩⟩
set_option maxRecDepth 100000 in
theorem lk_X10_181 : LV RX10 181 jX10_readContour 0 := ⟨kbX10_readContour, rfl, List.mem_filter.mpr ⟨List.mem_of_getElem? (i := 1464) (by decide +kernel), by decide +kernel⟩, List.mem_filter.mpr ⟨List.mem_of_getElem? (i := 1466) (by decide +kernel), by decide +kernel⟩, List.mem_filter.mpr ⟨List.mem_of_getElem? (i := 59) (by decide +kernel), by decide +kernel⟩⟩
set_option maxRecDepth 100000 in
theorem lk_X10_140 : LV RX10 140 jX10_sign 0 := ⟨kbX10_sign, rfl, List.mem_filter.mpr ⟨List.mem_of_getElem? (i := 1468) (by decide +kernel), by decide +kernel⟩, List.mem_filter.mpr ⟨List.mem_of_getElem? (i := 1470) (by decide +kernel), by decide +kernel⟩, List.mem_filter.mpr ⟨List.mem_of_getElem? (i := 60) (by decide +kernel), by decide +kernel⟩⟩
set_option maxRecDepth 100000 in
theorem lk_X10_169 : LV RX10 169 jX10_readCommand 2 := ⟨kbX10_readCommand, rfl, List.mem_filter.mpr ⟨List.mem_of_getElem? (i := 1472) (by decide +kernel), by decide +kernel⟩, List.mem_filter.mpr ⟨List.mem_of_getElem? (i := 1474) (by decide +kernel), by decide +kernel⟩, List.mem_filter.mpr ⟨List.mem_of_getElem? (i := 61) (by decide +kernel), by decide +kernel⟩⟩
set_option maxRecDepth 100000 in
theorem lk_X10_165 : LV RX10 165 jX10_readPair 2 := ⟨kbX10_readPair, rfl, List.mem_filter.mpr ⟨List.mem_of_getElem? (i := 1476) (by decide +kernel), by decide +kernel⟩, List.mem_filter.mpr ⟨List.mem_of_getElem? (i := 1478) (by decide +kernel), by decide +kernel⟩, List.mem_filter.mpr ⟨List.mem_of_getElem? (i := 62) (by decide +kernel), by decide +kernel⟩⟩
set_option maxRecDepth 100000 in
theorem lk_X10_147 : LV RX10 147 jX10_readNumber 0 := ⟨kbX10_readNumber, rfl, List.mem_filter.mpr ⟨List.mem_of_getElem? (i := 1480) (by decide +kernel), by decide +kernel⟩, List.mem_filter.mpr ⟨List.mem_of_getElem? (i := 1482) (by decide +kernel), by decide +kernel⟩, List.mem_filter.mpr ⟨List.mem_of_getElem? (i := 63) (by decide +kernel), by decide +kernel⟩⟩
set_option maxRecDepth 100000 in
theorem lk_X10_150 : LV RX10 150 jX10_readComma 0 := ⟨kbX10_readComma, rfl, List.mem_filter.mpr ⟨List.mem_of_getElem? (i := 1484) (by decide +kernel), by decide +kernel⟩, List.mem_filter.mpr ⟨List.mem_of_getElem? (i := 1486) (by decide +kernel), by decide +kernel⟩, List.mem_filter.mpr ⟨List.mem_of_getElem? (i := 64) (by decide +kernel), by decide +kernel⟩⟩
set_option maxRecDepth 100000 in
theorem lk_X10_178 : LV RX10 178 jX10_kindAt 0 := ⟨kbX10_kindAt, rfl, List.mem_filter.mpr ⟨List.mem_of_getElem? (i := 1488) (by decide +kernel), by decide +kernel⟩, List.mem_filter.mpr ⟨List.mem_of_getElem? (i := 1490) (by decide +kernel), by decide +kernel⟩, List.mem_filter.mpr ⟨List.mem_of_getElem? (i := 65) (by decide +kernel), by decide +kernel⟩⟩
set_option maxRecDepth 100000 in
theorem lk_L_73 : LV RL 73 jX10_load 0 := ⟨kbX10_load, rfl, List.mem_filter.mpr ⟨List.mem_of_getElem? (i := 1492) (by decide +kernel), by decide +kernel⟩, List.mem_filter.mpr ⟨List.mem_of_getElem? (i := 1493) (by decide +kernel), by decide +kernel⟩, List.mem_filter.mpr ⟨List.mem_of_getElem? (i := 1494) (by decide +kernel), by decide +kernel⟩⟩
set_option maxRecDepth 100000 in
theorem lk_X10_184 : LV RX10 184 jX10_fault 0 := ⟨kbX10_fault, rfl, List.mem_filter.mpr ⟨List.mem_of_getElem? (i := 1496) (by decide +kernel), by decide +kernel⟩, List.mem_filter.mpr ⟨List.mem_of_getElem? (i := 1461) (by decide +kernel), by decide +kernel⟩, List.mem_filter.mpr ⟨List.mem_of_getElem? (i := 1462) (by decide +kernel), by decide +kernel⟩⟩
set_option maxRecDepth 100000 in
theorem ct_X10_187 : Cond.constant RX10 187 (-1000003) ∈ wA := List.mem_filter.mpr ⟨List.mem_of_getElem? (i := 1497) (by decide +kernel), by decide +kernel⟩
set_option maxRecDepth 100000 in
theorem lk_L_77 : LV RL 77 jX10_spell 1 := ⟨kbX10_spell, rfl, List.mem_filter.mpr ⟨List.mem_of_getElem? (i := 1498) (by decide +kernel), by decide +kernel⟩, List.mem_filter.mpr ⟨List.mem_of_getElem? (i := 1499) (by decide +kernel), by decide +kernel⟩, List.mem_filter.mpr ⟨List.mem_of_getElem? (i := 1500) (by decide +kernel), by decide +kernel⟩⟩
set_option maxRecDepth 100000 in
theorem lk_X10_191 : LV RX10 191 jX10_spellSign 1 := ⟨kbX10_spellSign, rfl, List.mem_filter.mpr ⟨List.mem_of_getElem? (i := 1502) (by decide +kernel), by decide +kernel⟩, List.mem_filter.mpr ⟨List.mem_of_getElem? (i := 1504) (by decide +kernel), by decide +kernel⟩, List.mem_filter.mpr ⟨List.mem_of_getElem? (i := 66) (by decide +kernel), by decide +kernel⟩⟩
set_option maxRecDepth 100000 in
theorem lk_X10_201 : LV RX10 201 jX10_spellPair 2 := ⟨kbX10_spellPair, rfl, List.mem_filter.mpr ⟨List.mem_of_getElem? (i := 1506) (by decide +kernel), by decide +kernel⟩, List.mem_filter.mpr ⟨List.mem_of_getElem? (i := 1508) (by decide +kernel), by decide +kernel⟩, List.mem_filter.mpr ⟨List.mem_of_getElem? (i := 67) (by decide +kernel), by decide +kernel⟩⟩
set_option maxRecDepth 100000 in
theorem lk_X10_198 : LV RX10 198 jX10_spellNumber 1 := ⟨kbX10_spellNumber, rfl, List.mem_filter.mpr ⟨List.mem_of_getElem? (i := 1510) (by decide +kernel), by decide +kernel⟩, List.mem_filter.mpr ⟨List.mem_of_getElem? (i := 1512) (by decide +kernel), by decide +kernel⟩, List.mem_filter.mpr ⟨List.mem_of_getElem? (i := 68) (by decide +kernel), by decide +kernel⟩⟩
set_option maxRecDepth 100000 in
theorem lk_L_81 : LV RL 81 jX10_measure 2 := ⟨kbX10_measure, rfl, List.mem_filter.mpr ⟨List.mem_of_getElem? (i := 1514) (by decide +kernel), by decide +kernel⟩, List.mem_filter.mpr ⟨List.mem_of_getElem? (i := 1515) (by decide +kernel), by decide +kernel⟩, List.mem_filter.mpr ⟨List.mem_of_getElem? (i := 1516) (by decide +kernel), by decide +kernel⟩⟩
set_option maxRecDepth 100000 in
theorem lk_X10_254 : LV RX10 254 jX10_measured 2 := ⟨kbX10_measured, rfl, List.mem_filter.mpr ⟨List.mem_of_getElem? (i := 1518) (by decide +kernel), by decide +kernel⟩, List.mem_filter.mpr ⟨List.mem_of_getElem? (i := 1520) (by decide +kernel), by decide +kernel⟩, List.mem_filter.mpr ⟨List.mem_of_getElem? (i := 69) (by decide +kernel), by decide +kernel⟩⟩
set_option maxRecDepth 100000 in
theorem lk_X10_245 : LV RX10 245 jX10_verticesOf 1 := ⟨kbX10_verticesOf, rfl, List.mem_filter.mpr ⟨List.mem_of_getElem? (i := 1522) (by decide +kernel), by decide +kernel⟩, List.mem_filter.mpr ⟨List.mem_of_getElem? (i := 1524) (by decide +kernel), by decide +kernel⟩, List.mem_filter.mpr ⟨List.mem_of_getElem? (i := 70) (by decide +kernel), by decide +kernel⟩⟩
set_option maxRecDepth 100000 in
theorem lk_X10_248 : LV RX10 248 jX10_lengthOfContour 1 := ⟨kbX10_lengthOfContour, rfl, List.mem_filter.mpr ⟨List.mem_of_getElem? (i := 1526) (by decide +kernel), by decide +kernel⟩, List.mem_filter.mpr ⟨List.mem_of_getElem? (i := 1528) (by decide +kernel), by decide +kernel⟩, List.mem_filter.mpr ⟨List.mem_of_getElem? (i := 71) (by decide +kernel), by decide +kernel⟩⟩
set_option maxRecDepth 100000 in
theorem lk_X10_251 : LV RX10 251 jX10_isClosed 1 := ⟨kbX10_isClosed, rfl, List.mem_filter.mpr ⟨List.mem_of_getElem? (i := 1530) (by decide +kernel), by decide +kernel⟩, List.mem_filter.mpr ⟨List.mem_of_getElem? (i := 1532) (by decide +kernel), by decide +kernel⟩, List.mem_filter.mpr ⟨List.mem_of_getElem? (i := 72) (by decide +kernel), by decide +kernel⟩⟩
set_option maxRecDepth 100000 in
theorem lk_L_86 : LV RL 86 jX10_vertex 3 := ⟨kbX10_vertex, rfl, List.mem_filter.mpr ⟨List.mem_of_getElem? (i := 1534) (by decide +kernel), by decide +kernel⟩, List.mem_filter.mpr ⟨List.mem_of_getElem? (i := 1535) (by decide +kernel), by decide +kernel⟩, List.mem_filter.mpr ⟨List.mem_of_getElem? (i := 1536) (by decide +kernel), by decide +kernel⟩⟩
set_option maxRecDepth 100000 in
theorem lk_L_90 : LV RL 90 jX10_at 3 := ⟨kbX10_at, rfl, List.mem_filter.mpr ⟨List.mem_of_getElem? (i := 1538) (by decide +kernel), by decide +kernel⟩, List.mem_filter.mpr ⟨List.mem_of_getElem? (i := 1539) (by decide +kernel), by decide +kernel⟩, List.mem_filter.mpr ⟨List.mem_of_getElem? (i := 1540) (by decide +kernel), by decide +kernel⟩⟩
set_option maxRecDepth 100000 in
theorem lk_X10_263 : LV RX10 263 jX10_placeAt 3 := ⟨kbX10_placeAt, rfl, List.mem_filter.mpr ⟨List.mem_of_getElem? (i := 1542) (by decide +kernel), by decide +kernel⟩, List.mem_filter.mpr ⟨List.mem_of_getElem? (i := 1544) (by decide +kernel), by decide +kernel⟩, List.mem_filter.mpr ⟨List.mem_of_getElem? (i := 73) (by decide +kernel), by decide +kernel⟩⟩
set_option maxRecDepth 100000 in
theorem lk_X10_257 : LV RX10 257 jX10_vertexFor 2 := ⟨kbX10_vertexFor, rfl, List.mem_filter.mpr ⟨List.mem_of_getElem? (i := 1546) (by decide +kernel), by decide +kernel⟩, List.mem_filter.mpr ⟨List.mem_of_getElem? (i := 1548) (by decide +kernel), by decide +kernel⟩, List.mem_filter.mpr ⟨List.mem_of_getElem? (i := 74) (by decide +kernel), by decide +kernel⟩⟩
set_option maxRecDepth 100000 in
theorem lk_X10_260 : LV RX10 260 jX10_segmentAt 2 := ⟨kbX10_segmentAt, rfl, List.mem_filter.mpr ⟨List.mem_of_getElem? (i := 1550) (by decide +kernel), by decide +kernel⟩, List.mem_filter.mpr ⟨List.mem_of_getElem? (i := 1552) (by decide +kernel), by decide +kernel⟩, List.mem_filter.mpr ⟨List.mem_of_getElem? (i := 75) (by decide +kernel), by decide +kernel⟩⟩
set_option maxRecDepth 100000 in
theorem lk_L_94 : LV RL 94 jX10_nearest 3 := ⟨kbX10_nearest, rfl, List.mem_filter.mpr ⟨List.mem_of_getElem? (i := 1554) (by decide +kernel), by decide +kernel⟩, List.mem_filter.mpr ⟨List.mem_of_getElem? (i := 1555) (by decide +kernel), by decide +kernel⟩, List.mem_filter.mpr ⟨List.mem_of_getElem? (i := 1556) (by decide +kernel), by decide +kernel⟩⟩
set_option maxRecDepth 100000 in
theorem ct_X10_266 : Cond.constantLong RX10 266 (-1) ∈ wA := List.mem_filter.mpr ⟨List.mem_of_getElem? (i := 1558) (by decide +kernel), by decide +kernel⟩
set_option maxRecDepth 100000 in
theorem lk_L_98 : LV RL 98 jX10_winding 2 := ⟨kbX10_winding, rfl, List.mem_filter.mpr ⟨List.mem_of_getElem? (i := 1559) (by decide +kernel), by decide +kernel⟩, List.mem_filter.mpr ⟨List.mem_of_getElem? (i := 1560) (by decide +kernel), by decide +kernel⟩, List.mem_filter.mpr ⟨List.mem_of_getElem? (i := 1561) (by decide +kernel), by decide +kernel⟩⟩
set_option maxRecDepth 100000 in
theorem lk_X10_268 : LT RX10 268 jX10_turnsRound 6 := ⟨kbX10_turnsRound, List.mem_filter.mpr ⟨List.mem_of_getElem? (i := 1563) (by decide +kernel), by decide +kernel⟩, List.mem_filter.mpr ⟨List.mem_of_getElem? (i := 1564) (by decide +kernel), by decide +kernel⟩⟩
set_option maxRecDepth 100000 in
theorem lk_L_103 : LV RL 103 jX10_area 1 := ⟨kbX10_area, rfl, List.mem_filter.mpr ⟨List.mem_of_getElem? (i := 1566) (by decide +kernel), by decide +kernel⟩, List.mem_filter.mpr ⟨List.mem_of_getElem? (i := 1567) (by decide +kernel), by decide +kernel⟩, List.mem_filter.mpr ⟨List.mem_of_getElem? (i := 1568) (by decide +kernel), by decide +kernel⟩⟩
set_option maxRecDepth 100000 in
theorem ct_X10_272 : Cond.constantLong RX10 272 (-1000000000000000000) ∈ wA := List.mem_filter.mpr ⟨List.mem_of_getElem? (i := 1570) (by decide +kernel), by decide +kernel⟩
set_option maxRecDepth 100000 in
theorem lk_L_107 : LV RL 107 jX10_bound 2 := ⟨kbX10_bound, rfl, List.mem_filter.mpr ⟨List.mem_of_getElem? (i := 1571) (by decide +kernel), by decide +kernel⟩, List.mem_filter.mpr ⟨List.mem_of_getElem? (i := 1572) (by decide +kernel), by decide +kernel⟩, List.mem_filter.mpr ⟨List.mem_of_getElem? (i := 1573) (by decide +kernel), by decide +kernel⟩⟩
set_option maxRecDepth 100000 in
theorem lk_L_111 : LV RL 111 jX10_simplified 3 := ⟨kbX10_simplified, rfl, List.mem_filter.mpr ⟨List.mem_of_getElem? (i := 1575) (by decide +kernel), by decide +kernel⟩, List.mem_filter.mpr ⟨List.mem_of_getElem? (i := 1576) (by decide +kernel), by decide +kernel⟩, List.mem_filter.mpr ⟨List.mem_of_getElem? (i := 1577) (by decide +kernel), by decide +kernel⟩⟩
set_option maxRecDepth 100000 in
theorem lk_X10_274 : LV RX10 274 jX10_farthest 3 := ⟨kbX10_farthest, rfl, List.mem_filter.mpr ⟨List.mem_of_getElem? (i := 1579) (by decide +kernel), by decide +kernel⟩, List.mem_filter.mpr ⟨List.mem_of_getElem? (i := 1581) (by decide +kernel), by decide +kernel⟩, List.mem_filter.mpr ⟨List.mem_of_getElem? (i := 76) (by decide +kernel), by decide +kernel⟩⟩
set_option maxRecDepth 100000 in
theorem lk_L_115 : LV RL 115 jX10_addDash 1 := ⟨kbX10_addDash, rfl, List.mem_filter.mpr ⟨List.mem_of_getElem? (i := 1583) (by decide +kernel), by decide +kernel⟩, List.mem_filter.mpr ⟨List.mem_of_getElem? (i := 1584) (by decide +kernel), by decide +kernel⟩, List.mem_filter.mpr ⟨List.mem_of_getElem? (i := 1585) (by decide +kernel), by decide +kernel⟩⟩
set_option maxRecDepth 100000 in
theorem ct_X10_277 : Cond.constant RX10 277 (100000) ∈ wA := List.mem_filter.mpr ⟨List.mem_of_getElem? (i := 1587) (by decide +kernel), by decide +kernel⟩
set_option maxRecDepth 100000 in
theorem lk_L_119 : LV RL 119 jX10_clearDashes 1 := ⟨kbX10_clearDashes, rfl, List.mem_filter.mpr ⟨List.mem_of_getElem? (i := 1588) (by decide +kernel), by decide +kernel⟩, List.mem_filter.mpr ⟨List.mem_of_getElem? (i := 1589) (by decide +kernel), by decide +kernel⟩, List.mem_filter.mpr ⟨List.mem_of_getElem? (i := 1590) (by decide +kernel), by decide +kernel⟩⟩
set_option maxRecDepth 100000 in
theorem lk_L_123 : LV RL 123 jX10_dash 3 := ⟨kbX10_dash, rfl, List.mem_filter.mpr ⟨List.mem_of_getElem? (i := 1592) (by decide +kernel), by decide +kernel⟩, List.mem_filter.mpr ⟨List.mem_of_getElem? (i := 1593) (by decide +kernel), by decide +kernel⟩, List.mem_filter.mpr ⟨List.mem_of_getElem? (i := 1594) (by decide +kernel), by decide +kernel⟩⟩
set_option maxRecDepth 100000 in
theorem lk_X10_284 : LV RX10 284 jX10_layDashes 1 := ⟨kbX10_layDashes, rfl, List.mem_filter.mpr ⟨List.mem_of_getElem? (i := 1596) (by decide +kernel), by decide +kernel⟩, List.mem_filter.mpr ⟨List.mem_of_getElem? (i := 1598) (by decide +kernel), by decide +kernel⟩, List.mem_filter.mpr ⟨List.mem_of_getElem? (i := 77) (by decide +kernel), by decide +kernel⟩⟩
set_option maxRecDepth 100000 in
theorem lk_L_127 : LV RL 127 jX10_setWidth 2 := ⟨kbX10_setWidth, rfl, List.mem_filter.mpr ⟨List.mem_of_getElem? (i := 1600) (by decide +kernel), by decide +kernel⟩, List.mem_filter.mpr ⟨List.mem_of_getElem? (i := 1601) (by decide +kernel), by decide +kernel⟩, List.mem_filter.mpr ⟨List.mem_of_getElem? (i := 1602) (by decide +kernel), by decide +kernel⟩⟩
set_option maxRecDepth 100000 in
theorem lk_X10_287 : LT RX10 287 jX10_isLetter 1 := ⟨kbX10_isLetter, List.mem_filter.mpr ⟨List.mem_of_getElem? (i := 1604) (by decide +kernel), by decide +kernel⟩, List.mem_filter.mpr ⟨List.mem_of_getElem? (i := 1605) (by decide +kernel), by decide +kernel⟩⟩
set_option maxRecDepth 100000 in
theorem lk_L_131 : LV RL 131 jX10_setKerning 3 := ⟨kbX10_setKerning, rfl, List.mem_filter.mpr ⟨List.mem_of_getElem? (i := 1607) (by decide +kernel), by decide +kernel⟩, List.mem_filter.mpr ⟨List.mem_of_getElem? (i := 1608) (by decide +kernel), by decide +kernel⟩, List.mem_filter.mpr ⟨List.mem_of_getElem? (i := 1609) (by decide +kernel), by decide +kernel⟩⟩
set_option maxRecDepth 100000 in
theorem lk_L_135 : LV RL 135 jX10_write 1 := ⟨kbX10_write, rfl, List.mem_filter.mpr ⟨List.mem_of_getElem? (i := 1611) (by decide +kernel), by decide +kernel⟩, List.mem_filter.mpr ⟨List.mem_of_getElem? (i := 1612) (by decide +kernel), by decide +kernel⟩, List.mem_filter.mpr ⟨List.mem_of_getElem? (i := 1613) (by decide +kernel), by decide +kernel⟩⟩
set_option maxRecDepth 100000 in
theorem lk_L_139 : LV RL 139 jX10_erase 0 := ⟨kbX10_erase, rfl, List.mem_filter.mpr ⟨List.mem_of_getElem? (i := 1615) (by decide +kernel), by decide +kernel⟩, List.mem_filter.mpr ⟨List.mem_of_getElem? (i := 1616) (by decide +kernel), by decide +kernel⟩, List.mem_filter.mpr ⟨List.mem_of_getElem? (i := 1617) (by decide +kernel), by decide +kernel⟩⟩
set_option maxRecDepth 100000 in
theorem lk_L_143 : LV RL 143 jX10_arrange 3 := ⟨kbX10_arrange, rfl, List.mem_filter.mpr ⟨List.mem_of_getElem? (i := 1619) (by decide +kernel), by decide +kernel⟩, List.mem_filter.mpr ⟨List.mem_of_getElem? (i := 1620) (by decide +kernel), by decide +kernel⟩, List.mem_filter.mpr ⟨List.mem_of_getElem? (i := 1621) (by decide +kernel), by decide +kernel⟩⟩
set_option maxRecDepth 100000 in
theorem lk_L_147 : LV RL 147 jX10_letter 3 := ⟨kbX10_letter, rfl, List.mem_filter.mpr ⟨List.mem_of_getElem? (i := 1623) (by decide +kernel), by decide +kernel⟩, List.mem_filter.mpr ⟨List.mem_of_getElem? (i := 1624) (by decide +kernel), by decide +kernel⟩, List.mem_filter.mpr ⟨List.mem_of_getElem? (i := 1625) (by decide +kernel), by decide +kernel⟩⟩
set_option maxRecDepth 100000 in
theorem lk_X10_320 : LV RX10 320 jX10_layLetters 1 := ⟨kbX10_layLetters, rfl, List.mem_filter.mpr ⟨List.mem_of_getElem? (i := 1627) (by decide +kernel), by decide +kernel⟩, List.mem_filter.mpr ⟨List.mem_of_getElem? (i := 1629) (by decide +kernel), by decide +kernel⟩, List.mem_filter.mpr ⟨List.mem_of_getElem? (i := 78) (by decide +kernel), by decide +kernel⟩⟩
set_option maxRecDepth 100000 in
theorem lk_X10_314 : LV RX10 314 jX10_layOn 1 := ⟨kbX10_layOn, rfl, List.mem_filter.mpr ⟨List.mem_of_getElem? (i := 1631) (by decide +kernel), by decide +kernel⟩, List.mem_filter.mpr ⟨List.mem_of_getElem? (i := 1633) (by decide +kernel), by decide +kernel⟩, List.mem_filter.mpr ⟨List.mem_of_getElem? (i := 79) (by decide +kernel), by decide +kernel⟩⟩
set_option maxRecDepth 100000 in
theorem lk_X10_311 : LV RX10 311 jX10_hasSegments 1 := ⟨kbX10_hasSegments, rfl, List.mem_filter.mpr ⟨List.mem_of_getElem? (i := 1635) (by decide +kernel), by decide +kernel⟩, List.mem_filter.mpr ⟨List.mem_of_getElem? (i := 1637) (by decide +kernel), by decide +kernel⟩, List.mem_filter.mpr ⟨List.mem_of_getElem? (i := 80) (by decide +kernel), by decide +kernel⟩⟩
set_option maxRecDepth 100000 in
theorem lk_X10_305 : LV RX10 305 jX10_widthOf 1 := ⟨kbX10_widthOf, rfl, List.mem_filter.mpr ⟨List.mem_of_getElem? (i := 1639) (by decide +kernel), by decide +kernel⟩, List.mem_filter.mpr ⟨List.mem_of_getElem? (i := 1641) (by decide +kernel), by decide +kernel⟩, List.mem_filter.mpr ⟨List.mem_of_getElem? (i := 81) (by decide +kernel), by decide +kernel⟩⟩
set_option maxRecDepth 100000 in
theorem lk_X10_308 : LV RX10 308 jX10_advance 1 := ⟨kbX10_advance, rfl, List.mem_filter.mpr ⟨List.mem_of_getElem? (i := 1643) (by decide +kernel), by decide +kernel⟩, List.mem_filter.mpr ⟨List.mem_of_getElem? (i := 1645) (by decide +kernel), by decide +kernel⟩, List.mem_filter.mpr ⟨List.mem_of_getElem? (i := 82) (by decide +kernel), by decide +kernel⟩⟩
set_option maxRecDepth 100000 in
theorem lk_X10_317 : LV RX10 317 jX10_layOne 1 := ⟨kbX10_layOne, rfl, List.mem_filter.mpr ⟨List.mem_of_getElem? (i := 1647) (by decide +kernel), by decide +kernel⟩, List.mem_filter.mpr ⟨List.mem_of_getElem? (i := 1649) (by decide +kernel), by decide +kernel⟩, List.mem_filter.mpr ⟨List.mem_of_getElem? (i := 83) (by decide +kernel), by decide +kernel⟩⟩
set_option maxRecDepth 100000 in
theorem lk_L_151 : LV RL 151 jX10_placed 2 := ⟨kbX10_placed, rfl, List.mem_filter.mpr ⟨List.mem_of_getElem? (i := 1651) (by decide +kernel), by decide +kernel⟩, List.mem_filter.mpr ⟨List.mem_of_getElem? (i := 1652) (by decide +kernel), by decide +kernel⟩, List.mem_filter.mpr ⟨List.mem_of_getElem? (i := 1653) (by decide +kernel), by decide +kernel⟩⟩
set_option maxRecDepth 100000 in
theorem lk_X10_323 : LV RX10 323 jX10_turnsBack 2 := ⟨kbX10_turnsBack, rfl, List.mem_filter.mpr ⟨List.mem_of_getElem? (i := 1655) (by decide +kernel), by decide +kernel⟩, List.mem_filter.mpr ⟨List.mem_of_getElem? (i := 1657) (by decide +kernel), by decide +kernel⟩, List.mem_filter.mpr ⟨List.mem_of_getElem? (i := 84) (by decide +kernel), by decide +kernel⟩⟩
set_option maxRecDepth 100000 in
theorem lk_L_155 : LV RL 155 jX10_count 1 := ⟨kbX10_count, rfl, List.mem_filter.mpr ⟨List.mem_of_getElem? (i := 1659) (by decide +kernel), by decide +kernel⟩, List.mem_filter.mpr ⟨List.mem_of_getElem? (i := 1660) (by decide +kernel), by decide +kernel⟩, List.mem_filter.mpr ⟨List.mem_of_getElem? (i := 1661) (by decide +kernel), by decide +kernel⟩⟩
set_option maxRecDepth 100000 in
theorem lk_L_159 : LV RL 159 jX10_save 1 := ⟨kbX10_save, rfl, List.mem_filter.mpr ⟨List.mem_of_getElem? (i := 1663) (by decide +kernel), by decide +kernel⟩, List.mem_filter.mpr ⟨List.mem_of_getElem? (i := 1664) (by decide +kernel), by decide +kernel⟩, List.mem_filter.mpr ⟨List.mem_of_getElem? (i := 1665) (by decide +kernel), by decide +kernel⟩⟩
set_option maxRecDepth 100000 in
theorem lk_L_163 : LV RL 163 jX10_restore 1 := ⟨kbX10_restore, rfl, List.mem_filter.mpr ⟨List.mem_of_getElem? (i := 1667) (by decide +kernel), by decide +kernel⟩, List.mem_filter.mpr ⟨List.mem_of_getElem? (i := 1668) (by decide +kernel), by decide +kernel⟩, List.mem_filter.mpr ⟨List.mem_of_getElem? (i := 1669) (by decide +kernel), by decide +kernel⟩⟩
set_option maxRecDepth 100000 in
theorem pr_mmax_st : Cond.static Lib.Math.max.name ∈ wA := List.mem_filter.mpr ⟨List.mem_of_getElem? (i := 708) (by decide +kernel), by decide +kernel⟩
set_option maxRecDepth 100000 in
theorem pr_mmax_code : Cond.code Lib.Math.max.name Lib.Math.max.code 2 (some .int) ∈ wA := List.mem_filter.mpr ⟨List.mem_of_getElem? (i := 709) (by decide +kernel), by decide +kernel⟩
set_option maxRecDepth 100000 in
theorem pr_mmax_J1_92 : Cond.methodLink RJ1 92 Lib.Math.max.name ∈ wA := List.mem_filter.mpr ⟨List.mem_of_getElem? (i := 707) (by decide +kernel), by decide +kernel⟩
set_option maxRecDepth 100000 in
theorem pr_mmax_J2_224 : Cond.methodLink RJ2 224 Lib.Math.max.name ∈ wA := List.mem_filter.mpr ⟨List.mem_of_getElem? (i := 719) (by decide +kernel), by decide +kernel⟩
set_option maxRecDepth 100000 in
theorem pr_mmax_X1_162 : Cond.methodLink RX1 162 Lib.Math.max.name ∈ wA := List.mem_filter.mpr ⟨List.mem_of_getElem? (i := 978) (by decide +kernel), by decide +kernel⟩
set_option maxRecDepth 100000 in
theorem pr_mmax_X0_35 : Cond.methodLink RX0 35 Lib.Math.max.name ∈ wA := List.mem_filter.mpr ⟨List.mem_of_getElem? (i := 1039) (by decide +kernel), by decide +kernel⟩
set_option maxRecDepth 100000 in
theorem pr_mmin_st : Cond.static Lib.Math.min.name ∈ wA := List.mem_filter.mpr ⟨List.mem_of_getElem? (i := 711) (by decide +kernel), by decide +kernel⟩
set_option maxRecDepth 100000 in
theorem pr_mmin_code : Cond.code Lib.Math.min.name Lib.Math.min.code 2 (some .int) ∈ wA := List.mem_filter.mpr ⟨List.mem_of_getElem? (i := 712) (by decide +kernel), by decide +kernel⟩
set_option maxRecDepth 100000 in
theorem pr_mmin_J1_38 : Cond.methodLink RJ1 38 Lib.Math.min.name ∈ wA := List.mem_filter.mpr ⟨List.mem_of_getElem? (i := 710) (by decide +kernel), by decide +kernel⟩
set_option maxRecDepth 100000 in
theorem pr_mmin_J2_183 : Cond.methodLink RJ2 183 Lib.Math.min.name ∈ wA := List.mem_filter.mpr ⟨List.mem_of_getElem? (i := 720) (by decide +kernel), by decide +kernel⟩
set_option maxRecDepth 100000 in
theorem pr_mmin_X1_160 : Cond.methodLink RX1 160 Lib.Math.min.name ∈ wA := List.mem_filter.mpr ⟨List.mem_of_getElem? (i := 977) (by decide +kernel), by decide +kernel⟩
set_option maxRecDepth 100000 in
theorem pr_mmin_X0_41 : Cond.methodLink RX0 41 Lib.Math.min.name ∈ wA := List.mem_filter.mpr ⟨List.mem_of_getElem? (i := 1040) (by decide +kernel), by decide +kernel⟩
set_option maxRecDepth 100000 in
theorem pr_mabs_st : Cond.static Lib.Math.abs.name ∈ wA := List.mem_filter.mpr ⟨List.mem_of_getElem? (i := 539) (by decide +kernel), by decide +kernel⟩
set_option maxRecDepth 100000 in
theorem pr_mabs_code : Cond.code Lib.Math.abs.name Lib.Math.abs.code 1 (some .int) ∈ wA := List.mem_filter.mpr ⟨List.mem_of_getElem? (i := 540) (by decide +kernel), by decide +kernel⟩
set_option maxRecDepth 100000 in
theorem pr_mabs_X2_45 : Cond.methodLink RX2 45 Lib.Math.abs.name ∈ wA := List.mem_filter.mpr ⟨List.mem_of_getElem? (i := 538) (by decide +kernel), by decide +kernel⟩
set_option maxRecDepth 100000 in
theorem pr_mabs_X8_54 : Cond.methodLink RX8 54 Lib.Math.abs.name ∈ wA := List.mem_filter.mpr ⟨List.mem_of_getElem? (i := 842) (by decide +kernel), by decide +kernel⟩
set_option maxRecDepth 100000 in
theorem pr_mmaxL_st : Cond.static Lib.MathLoose.max_long.x ∈ wA := List.mem_filter.mpr ⟨List.mem_of_getElem? (i := 939) (by decide +kernel), by decide +kernel⟩
set_option maxRecDepth 100000 in
theorem pr_mmaxL_code : Cond.code Lib.MathLoose.max_long.x Lib.MathLoose.max_long.code 4 (some .long) ∈ wA := List.mem_filter.mpr ⟨List.mem_of_getElem? (i := 940) (by decide +kernel), by decide +kernel⟩
set_option maxRecDepth 100000 in
theorem pr_mmaxL_X1_144 : Cond.methodLink RX1 144 Lib.MathLoose.max_long.x ∈ wA := List.mem_filter.mpr ⟨List.mem_of_getElem? (i := 938) (by decide +kernel), by decide +kernel⟩
set_option maxRecDepth 100000 in
theorem pr_mminL_st : Cond.static Lib.MathLoose.min_long.x ∈ wA := List.mem_filter.mpr ⟨List.mem_of_getElem? (i := 942) (by decide +kernel), by decide +kernel⟩
set_option maxRecDepth 100000 in
theorem pr_mminL_code : Cond.code Lib.MathLoose.min_long.x Lib.MathLoose.min_long.code 4 (some .long) ∈ wA := List.mem_filter.mpr ⟨List.mem_of_getElem? (i := 943) (by decide +kernel), by decide +kernel⟩
set_option maxRecDepth 100000 in
theorem pr_mminL_X1_150 : Cond.methodLink RX1 150 Lib.MathLoose.min_long.x ∈ wA := List.mem_filter.mpr ⟨List.mem_of_getElem? (i := 941) (by decide +kernel), by decide +kernel⟩
set_option maxRecDepth 100000 in
theorem pr_math : Cond.initialized "java/lang/Math" ∈ wA := List.mem_filter.mpr ⟨List.mem_of_getElem? (i := 97) (by decide +kernel), by decide +kernel⟩
set_option maxRecDepth 100000 in
theorem pr_ac_nat : Cond.native arraycopyName ∈ wA := List.mem_filter.mpr ⟨List.mem_of_getElem? (i := 616) (by decide +kernel), by decide +kernel⟩
set_option maxRecDepth 100000 in
theorem pr_ac_st : Cond.static arraycopyName ∈ wA := List.mem_filter.mpr ⟨List.mem_of_getElem? (i := 615) (by decide +kernel), by decide +kernel⟩
set_option maxRecDepth 100000 in
theorem pr_sys : Cond.initialized "java/lang/System" ∈ wA := List.mem_filter.mpr ⟨List.mem_of_getElem? (i := 98) (by decide +kernel), by decide +kernel⟩
set_option maxRecDepth 100000 in
theorem pr_ac_X5_29 : Cond.methodLink RX5 29 arraycopyName ∈ wA := List.mem_filter.mpr ⟨List.mem_of_getElem? (i := 614) (by decide +kernel), by decide +kernel⟩
set_option maxRecDepth 100000 in
theorem st_fits : Cond.static yX9_fits ∈ wA := List.mem_filter.mpr ⟨List.mem_of_getElem? (i := 409) (by decide +kernel), by decide +kernel⟩
set_option maxRecDepth 100000 in
theorem st_isLetter : Cond.static yX9_isLetter ∈ wA := List.mem_filter.mpr ⟨List.mem_of_getElem? (i := 1063) (by decide +kernel), by decide +kernel⟩
set_option maxRecDepth 100000 in
theorem st_between : Cond.static yX9_between ∈ wA := List.mem_filter.mpr ⟨List.mem_of_getElem? (i := 412) (by decide +kernel), by decide +kernel⟩
theorem nwr1 : ∀ {g : gX} (U : State), wrd g U → va_Nw (.methodLinkNest RX5 56 yX9_fits "PathFlattener") U := fun _ h => h.1
theorem nwr2 : ∀ {g : gX} (U : State), wrd g U → va_Nw (.methodLinkNest RX3 43 yX9_isLetter "PathFlattener") U := fun _ h => h.2.1
theorem nwr3 : ∀ {g : gX} (U : State), wrd g U → va_Nw (.methodLinkNest RX3 90 yX9_between "PathFlattener") U := fun _ h => h.2.2.1
theorem nwr4 : ∀ {g : gX} (U : State), wrd g U → va_Nw (.fieldLinkNest RX5 35 "PathFlattener" "POINTS" "[I" "PathFlattener") U := fun _ h => h.2.2.2.1.1
theorem nwr5 : ∀ {g : gX} (U : State), wrd g U → va_Nw (.fieldLinkNest RX6 94 "PathFlattener" "POINTS" "[I" "PathFlattener") U := fun _ h => h.2.2.2.1.2
