set_option maxRecDepth 100000 in
theorem ck_0 : CK 0 RX0 TX0 6 := ⟨rfl, List.all_eq_true.mp (show (u_ws RX0 TX0 6).all (fun w => decide (w ∈ lw_tbl) && goodWord w) = true by decide +kernel) |> fun h w hw => List.mem_filter.mpr (by have := h w hw; simp only [Bool.and_eq_true, decide_eq_true_eq] at this; exact this), ⟨tyX0, tyX0_ok⟩, nmX0⟩
set_option maxRecDepth 100000 in
theorem ck_1 : CK 1 RX1 TX1 9 := ⟨rfl, List.all_eq_true.mp (show (u_ws RX1 TX1 9).all (fun w => decide (w ∈ lw_tbl) && goodWord w) = true by decide +kernel) |> fun h w hw => List.mem_filter.mpr (by have := h w hw; simp only [Bool.and_eq_true, decide_eq_true_eq] at this; exact this), ⟨tyX1, tyX1_ok⟩, nmX1⟩
set_option maxRecDepth 100000 in
theorem ck_2 : CK 2 RX2 TX2 4 := ⟨rfl, List.all_eq_true.mp (show (u_ws RX2 TX2 4).all (fun w => decide (w ∈ lw_tbl) && goodWord w) = true by decide +kernel) |> fun h w hw => List.mem_filter.mpr (by have := h w hw; simp only [Bool.and_eq_true, decide_eq_true_eq] at this; exact this), ⟨tyX2, tyX2_ok⟩, nmX2⟩
set_option maxRecDepth 100000 in
theorem ck_3 : CK 3 RX3 TX3 10 := ⟨rfl, List.all_eq_true.mp (show (u_ws RX3 TX3 10).all (fun w => decide (w ∈ lw_tbl) && goodWord w) = true by decide +kernel) |> fun h w hw => List.mem_filter.mpr (by have := h w hw; simp only [Bool.and_eq_true, decide_eq_true_eq] at this; exact this), ⟨tyX3, tyX3_ok⟩, nmX3⟩
set_option maxRecDepth 100000 in
theorem ck_4 : CK 4 RX4 TX4 3 := ⟨rfl, List.all_eq_true.mp (show (u_ws RX4 TX4 3).all (fun w => decide (w ∈ lw_tbl) && goodWord w) = true by decide +kernel) |> fun h w hw => List.mem_filter.mpr (by have := h w hw; simp only [Bool.and_eq_true, decide_eq_true_eq] at this; exact this), ⟨tyX4, tyX4_ok⟩, nmX4⟩
set_option maxRecDepth 100000 in
theorem ck_5 : CK 5 RX5 TX5 4 := ⟨rfl, List.all_eq_true.mp (show (u_ws RX5 TX5 4).all (fun w => decide (w ∈ lw_tbl) && goodWord w) = true by decide +kernel) |> fun h w hw => List.mem_filter.mpr (by have := h w hw; simp only [Bool.and_eq_true, decide_eq_true_eq] at this; exact this), ⟨tyX5, tyX5_ok⟩, nmX5⟩
set_option maxRecDepth 100000 in
theorem ck_6 : CK 6 RX6 TX6 13 := ⟨rfl, List.all_eq_true.mp (show (u_ws RX6 TX6 13).all (fun w => decide (w ∈ lw_tbl) && goodWord w) = true by decide +kernel) |> fun h w hw => List.mem_filter.mpr (by have := h w hw; simp only [Bool.and_eq_true, decide_eq_true_eq] at this; exact this), ⟨tyX6, tyX6_ok⟩, nmX6⟩
set_option maxRecDepth 100000 in
theorem ck_7 : CK 7 RX7 TX7 3 := ⟨rfl, List.all_eq_true.mp (show (u_ws RX7 TX7 3).all (fun w => decide (w ∈ lw_tbl) && goodWord w) = true by decide +kernel) |> fun h w hw => List.mem_filter.mpr (by have := h w hw; simp only [Bool.and_eq_true, decide_eq_true_eq] at this; exact this), ⟨tyX7, tyX7_ok⟩, nmX7⟩
set_option maxRecDepth 100000 in
theorem ck_8 : CK 8 RX8 TX8 2 := ⟨rfl, List.all_eq_true.mp (show (u_ws RX8 TX8 2).all (fun w => decide (w ∈ lw_tbl) && goodWord w) = true by decide +kernel) |> fun h w hw => List.mem_filter.mpr (by have := h w hw; simp only [Bool.and_eq_true, decide_eq_true_eq] at this; exact this), ⟨tyX8, tyX8_ok⟩, nmX8⟩
set_option maxRecDepth 100000 in
theorem ck_9 : CK 9 RX9 TX9 13 := ⟨rfl, List.all_eq_true.mp (show (u_ws RX9 TX9 13).all (fun w => decide (w ∈ lw_tbl) && goodWord w) = true by decide +kernel) |> fun h w hw => List.mem_filter.mpr (by have := h w hw; simp only [Bool.and_eq_true, decide_eq_true_eq] at this; exact this), ⟨tyX9, tyX9_ok⟩, nmX9⟩
set_option maxRecDepth 100000 in
theorem ck_10 : CK 10 RX10 TX10 43 := ⟨rfl, List.all_eq_true.mp (show (u_ws RX10 TX10 43).all (fun w => decide (w ∈ lw_tbl) && goodWord w) = true by decide +kernel) |> fun h w hw => List.mem_filter.mpr (by have := h w hw; simp only [Bool.and_eq_true, decide_eq_true_eq] at this; exact this), ⟨tyX10, tyX10_ok⟩, nmX10⟩
abbrev jX0_init : MD := (RX0, yX0_init, cX0_init, 1, none, { frames := 0, cells := 0, slots := 0, locals := 0 }, fun _ _ => True)
theorem plX0_init : pln jX0_init := ⟨by decide +kernel, rfl, rfl, rfl, fun _ _ => trivial⟩
set_option maxRecDepth 100000 in
theorem kbX0_init : KB jX0_init 0 := ⟨List.mem_filter.mpr ⟨List.mem_of_getElem? (i := 216) (by decide +kernel), by decide +kernel⟩, List.mem_filter.mpr ⟨List.mem_of_getElem? (i := 94) (by decide +kernel), by decide +kernel⟩, by decide +kernel⟩
abbrev jX0_append : MD := (RX0, yX0_append, cX0_append, 2, none, { frames := 0, cells := 0, slots := 0, locals := 0 }, fun _ _ => True)
theorem plX0_append : pln jX0_append := ⟨by decide +kernel, rfl, rfl, rfl, fun _ _ => trivial⟩
set_option maxRecDepth 100000 in
theorem kbX0_append : KB jX0_append 1 := ⟨List.mem_filter.mpr ⟨List.mem_of_getElem? (i := 1034) (by decide +kernel), by decide +kernel⟩, List.mem_filter.mpr ⟨List.mem_of_getElem? (i := 94) (by decide +kernel), by decide +kernel⟩, by decide +kernel⟩
abbrev jX0_layAlong : MD := (RX0, yX0_layAlong, cX0_layAlong, 5, some .int, { frames := 2, cells := 0, slots := 0, locals := 65 }, fun _ _ => True)
theorem plX0_layAlong : pln jX0_layAlong := ⟨by decide +kernel, rfl, rfl, rfl, fun _ _ => trivial⟩
set_option maxRecDepth 100000 in
theorem kbX0_layAlong : KB jX0_layAlong 1 := ⟨List.mem_filter.mpr ⟨List.mem_of_getElem? (i := 1046) (by decide +kernel), by decide +kernel⟩, List.mem_filter.mpr ⟨List.mem_of_getElem? (i := 94) (by decide +kernel), by decide +kernel⟩, by decide +kernel⟩
abbrev jX0_layPattern : MD := (RX0, yX0_layPattern, cX0_layPattern, 6, none, { frames := 1, cells := 0, slots := 0, locals := 40 }, fun _ _ => True)
theorem plX0_layPattern : pln jX0_layPattern := ⟨by decide +kernel, rfl, rfl, rfl, fun _ _ => trivial⟩
set_option maxRecDepth 100000 in
theorem kbX0_layPattern : KB jX0_layPattern 2 := ⟨List.mem_filter.mpr ⟨List.mem_of_getElem? (i := 1050) (by decide +kernel), by decide +kernel⟩, List.mem_filter.mpr ⟨List.mem_of_getElem? (i := 94) (by decide +kernel), by decide +kernel⟩, by decide +kernel⟩
abbrev jX0_keep : MD := (RX0, yX0_keep, cX0_keep, 3, none, { frames := 0, cells := 0, slots := 0, locals := 0 }, fun _ _ => True)
theorem plX0_keep : pln jX0_keep := ⟨by decide +kernel, rfl, rfl, rfl, fun _ _ => trivial⟩
set_option maxRecDepth 100000 in
theorem kbX0_keep : KB jX0_keep 2 := ⟨List.mem_filter.mpr ⟨List.mem_of_getElem? (i := 1056) (by decide +kernel), by decide +kernel⟩, List.mem_filter.mpr ⟨List.mem_of_getElem? (i := 94) (by decide +kernel), by decide +kernel⟩, by decide +kernel⟩
abbrev jX0_has : MD := (RX0, yX0_has, cX0_has, 2, some .boolean, { frames := 0, cells := 0, slots := 0, locals := 0 }, fun _ _ => True)
theorem plX0_has : pln jX0_has := ⟨by decide +kernel, rfl, rfl, rfl, fun _ _ => trivial⟩
set_option maxRecDepth 100000 in
theorem kbX0_has : KB jX0_has 1 := ⟨List.mem_filter.mpr ⟨List.mem_of_getElem? (i := 1064) (by decide +kernel), by decide +kernel⟩, List.mem_filter.mpr ⟨List.mem_of_getElem? (i := 94) (by decide +kernel), by decide +kernel⟩, by decide +kernel⟩
abbrev jX0_beginOf : MD := (RX0, yX0_beginOf, cX0_beginOf, 2, some .int, { frames := 1, cells := 0, slots := 0, locals := 21 }, fun _ _ => True)
theorem plX0_beginOf : pln jX0_beginOf := ⟨by decide +kernel, rfl, rfl, rfl, fun _ _ => trivial⟩
set_option maxRecDepth 100000 in
theorem kbX0_beginOf : KB jX0_beginOf 1 := ⟨List.mem_filter.mpr ⟨List.mem_of_getElem? (i := 1060) (by decide +kernel), by decide +kernel⟩, List.mem_filter.mpr ⟨List.mem_of_getElem? (i := 94) (by decide +kernel), by decide +kernel⟩, by decide +kernel⟩
abbrev jX0_endOf : MD := (RX0, yX0_endOf, cX0_endOf, 2, some .int, { frames := 1, cells := 0, slots := 0, locals := 21 }, fun _ _ => True)
theorem plX0_endOf : pln jX0_endOf := ⟨by decide +kernel, rfl, rfl, rfl, fun _ _ => trivial⟩
set_option maxRecDepth 100000 in
theorem kbX0_endOf : KB jX0_endOf 1 := ⟨List.mem_filter.mpr ⟨List.mem_of_getElem? (i := 1069) (by decide +kernel), by decide +kernel⟩, List.mem_filter.mpr ⟨List.mem_of_getElem? (i := 94) (by decide +kernel), by decide +kernel⟩, by decide +kernel⟩
abbrev jX1_init : MD := (RX1, yX1_init, cX1_init, 1, none, { frames := 1, cells := 0, slots := 0, locals := 20 }, fun _ _ => True)
theorem plX1_init : pln jX1_init := ⟨by decide +kernel, rfl, rfl, rfl, fun _ _ => trivial⟩
set_option maxRecDepth 100000 in
theorem kbX1_init : KB jX1_init 0 := ⟨List.mem_filter.mpr ⟨List.mem_of_getElem? (i := 143) (by decide +kernel), by decide +kernel⟩, List.mem_filter.mpr ⟨List.mem_of_getElem? (i := 91) (by decide +kernel), by decide +kernel⟩, by decide +kernel⟩
abbrev jX1_flatten : MD := (RX1, yX1_flatten, cX1_flatten, 5, none, { frames := 4, cells := 0, slots := 0, locals := 114 }, fun _ _ => True)
theorem plX1_flatten : pln jX1_flatten := ⟨by decide +kernel, rfl, rfl, rfl, fun _ _ => trivial⟩
set_option maxRecDepth 100000 in
theorem kbX1_flatten : KB jX1_flatten 2 := ⟨List.mem_filter.mpr ⟨List.mem_of_getElem? (i := 508) (by decide +kernel), by decide +kernel⟩, List.mem_filter.mpr ⟨List.mem_of_getElem? (i := 91) (by decide +kernel), by decide +kernel⟩, by decide +kernel⟩
abbrev jX1_beginContour : MD := (RX1, yX1_beginContour, cX1_beginContour, 4, none, { frames := 1, cells := 0, slots := 0, locals := 24 }, fun _ _ => True)
theorem plX1_beginContour : pln jX1_beginContour := ⟨by decide +kernel, rfl, rfl, rfl, fun _ _ => trivial⟩
set_option maxRecDepth 100000 in
theorem kbX1_beginContour : KB jX1_beginContour 3 := ⟨List.mem_filter.mpr ⟨List.mem_of_getElem? (i := 515) (by decide +kernel), by decide +kernel⟩, List.mem_filter.mpr ⟨List.mem_of_getElem? (i := 91) (by decide +kernel), by decide +kernel⟩, by decide +kernel⟩
abbrev jX1_addCurve : MD := (RX1, yX1_addCurve, cX1_addCurve, 5, none, { frames := 3, cells := 0, slots := 0, locals := 90 }, fun _ _ => True)
theorem plX1_addCurve : pln jX1_addCurve := ⟨by decide +kernel, rfl, rfl, rfl, fun _ _ => trivial⟩
set_option maxRecDepth 100000 in
theorem kbX1_addCurve : KB jX1_addCurve 3 := ⟨List.mem_filter.mpr ⟨List.mem_of_getElem? (i := 523) (by decide +kernel), by decide +kernel⟩, List.mem_filter.mpr ⟨List.mem_of_getElem? (i := 91) (by decide +kernel), by decide +kernel⟩, by decide +kernel⟩
abbrev jX1_addVertex : MD := (RX1, yX1_addVertex, cX1_addVertex, 6, none, { frames := 1, cells := 0, slots := 0, locals := 28 }, fun _ _ => True)
theorem plX1_addVertex : pln jX1_addVertex := ⟨by decide +kernel, rfl, rfl, rfl, fun _ _ => trivial⟩
set_option maxRecDepth 100000 in
theorem kbX1_addVertex : KB jX1_addVertex 3 := ⟨List.mem_filter.mpr ⟨List.mem_of_getElem? (i := 560) (by decide +kernel), by decide +kernel⟩, List.mem_filter.mpr ⟨List.mem_of_getElem? (i := 91) (by decide +kernel), by decide +kernel⟩, by decide +kernel⟩
abbrev jX1_append : MD := (RX1, yX1_append, cX1_append, 5, none, { frames := 0, cells := 0, slots := 0, locals := 0 }, fun _ _ => True)
theorem plX1_append : pln jX1_append := ⟨by decide +kernel, rfl, rfl, rfl, fun _ _ => trivial⟩
set_option maxRecDepth 100000 in
theorem kbX1_append : KB jX1_append 4 := ⟨List.mem_filter.mpr ⟨List.mem_of_getElem? (i := 519) (by decide +kernel), by decide +kernel⟩, List.mem_filter.mpr ⟨List.mem_of_getElem? (i := 91) (by decide +kernel), by decide +kernel⟩, by decide +kernel⟩
abbrev jX1_segmentLength : MD := (RX1, yX1_segmentLength, cX1_segmentLength, 9, some .int, { frames := 0, cells := 0, slots := 0, locals := 0 }, fun _ _ => True)
theorem plX1_segmentLength : pln jX1_segmentLength := ⟨by decide +kernel, rfl, rfl, rfl, fun _ _ => trivial⟩
set_option maxRecDepth 100000 in
theorem kbX1_segmentLength : KB jX1_segmentLength 2 := ⟨List.mem_filter.mpr ⟨List.mem_of_getElem? (i := 563) (by decide +kernel), by decide +kernel⟩, List.mem_filter.mpr ⟨List.mem_of_getElem? (i := 91) (by decide +kernel), by decide +kernel⟩, by decide +kernel⟩
abbrev jX1_firstOf : MD := (RX1, yX1_firstOf, cX1_firstOf, 2, some .int, { frames := 0, cells := 0, slots := 0, locals := 0 }, fun _ _ => True)
theorem plX1_firstOf : pln jX1_firstOf := ⟨by decide +kernel, rfl, rfl, rfl, fun _ _ => trivial⟩
set_option maxRecDepth 100000 in
theorem kbX1_firstOf : KB jX1_firstOf 1 := ⟨List.mem_filter.mpr ⟨List.mem_of_getElem? (i := 863) (by decide +kernel), by decide +kernel⟩, List.mem_filter.mpr ⟨List.mem_of_getElem? (i := 91) (by decide +kernel), by decide +kernel⟩, by decide +kernel⟩
abbrev jX1_verticesIn : MD := (RX1, yX1_verticesIn, cX1_verticesIn, 3, some .int, { frames := 1, cells := 0, slots := 0, locals := 21 }, fun _ _ => True)
theorem plX1_verticesIn : pln jX1_verticesIn := ⟨by decide +kernel, rfl, rfl, rfl, fun _ _ => trivial⟩
set_option maxRecDepth 100000 in
theorem kbX1_verticesIn : KB jX1_verticesIn 2 := ⟨List.mem_filter.mpr ⟨List.mem_of_getElem? (i := 859) (by decide +kernel), by decide +kernel⟩, List.mem_filter.mpr ⟨List.mem_of_getElem? (i := 91) (by decide +kernel), by decide +kernel⟩, by decide +kernel⟩
abbrev jX1_segmentsIn : MD := (RX1, yX1_segmentsIn, cX1_segmentsIn, 3, some .int, { frames := 2, cells := 0, slots := 0, locals := 43 }, fun _ _ => True)
theorem plX1_segmentsIn : pln jX1_segmentsIn := ⟨by decide +kernel, rfl, rfl, rfl, fun _ _ => trivial⟩
set_option maxRecDepth 100000 in
theorem kbX1_segmentsIn : KB jX1_segmentsIn 2 := ⟨List.mem_filter.mpr ⟨List.mem_of_getElem? (i := 867) (by decide +kernel), by decide +kernel⟩, List.mem_filter.mpr ⟨List.mem_of_getElem? (i := 91) (by decide +kernel), by decide +kernel⟩, by decide +kernel⟩
abbrev jX1_lengthIn : MD := (RX1, yX1_lengthIn, cX1_lengthIn, 5, some .int, { frames := 2, cells := 0, slots := 0, locals := 43 }, fun _ _ => True)
theorem plX1_lengthIn : pln jX1_lengthIn := ⟨by decide +kernel, rfl, rfl, rfl, fun _ _ => trivial⟩
set_option maxRecDepth 100000 in
theorem kbX1_lengthIn : KB jX1_lengthIn 2 := ⟨List.mem_filter.mpr ⟨List.mem_of_getElem? (i := 872) (by decide +kernel), by decide +kernel⟩, List.mem_filter.mpr ⟨List.mem_of_getElem? (i := 91) (by decide +kernel), by decide +kernel⟩, by decide +kernel⟩
abbrev jX1_has : MD := (RX1, yX1_has, cX1_has, 2, some .boolean, { frames := 0, cells := 0, slots := 0, locals := 0 }, fun _ _ => True)
theorem plX1_has : pln jX1_has := ⟨by decide +kernel, rfl, rfl, rfl, fun _ _ => trivial⟩
set_option maxRecDepth 100000 in
theorem kbX1_has : KB jX1_has 1 := ⟨List.mem_filter.mpr ⟨List.mem_of_getElem? (i := 880) (by decide +kernel), by decide +kernel⟩, List.mem_filter.mpr ⟨List.mem_of_getElem? (i := 91) (by decide +kernel), by decide +kernel⟩, by decide +kernel⟩
abbrev jX1_hasSegments : MD := (RX1, yX1_hasSegments, cX1_hasSegments, 2, some .boolean, { frames := 3, cells := 0, slots := 0, locals := 65 }, fun _ _ => True)
theorem plX1_hasSegments : pln jX1_hasSegments := ⟨by decide +kernel, rfl, rfl, rfl, fun _ _ => trivial⟩
set_option maxRecDepth 100000 in
theorem kbX1_hasSegments : KB jX1_hasSegments 1 := ⟨List.mem_filter.mpr ⟨List.mem_of_getElem? (i := 907) (by decide +kernel), by decide +kernel⟩, List.mem_filter.mpr ⟨List.mem_of_getElem? (i := 91) (by decide +kernel), by decide +kernel⟩, by decide +kernel⟩
abbrev jX1_isClosed : MD := (RX1, yX1_isClosed, cX1_isClosed, 2, some .boolean, { frames := 1, cells := 0, slots := 0, locals := 21 }, fun _ _ => True)
theorem plX1_isClosed : pln jX1_isClosed := ⟨by decide +kernel, rfl, rfl, rfl, fun _ _ => trivial⟩
set_option maxRecDepth 100000 in
theorem kbX1_isClosed : KB jX1_isClosed 1 := ⟨List.mem_filter.mpr ⟨List.mem_of_getElem? (i := 1150) (by decide +kernel), by decide +kernel⟩, List.mem_filter.mpr ⟨List.mem_of_getElem? (i := 91) (by decide +kernel), by decide +kernel⟩, by decide +kernel⟩
abbrev jX1_isVertex : MD := (RX1, yX1_isVertex, cX1_isVertex, 2, some .boolean, { frames := 0, cells := 0, slots := 0, locals := 0 }, fun _ _ => True)
theorem plX1_isVertex : pln jX1_isVertex := ⟨by decide +kernel, rfl, rfl, rfl, fun _ _ => trivial⟩
set_option maxRecDepth 100000 in
theorem kbX1_isVertex : KB jX1_isVertex 1 := ⟨List.mem_filter.mpr ⟨List.mem_of_getElem? (i := 884) (by decide +kernel), by decide +kernel⟩, List.mem_filter.mpr ⟨List.mem_of_getElem? (i := 91) (by decide +kernel), by decide +kernel⟩, by decide +kernel⟩
abbrev jX1_lengthOf : MD := (RX1, yX1_lengthOf, cX1_lengthOf, 3, some .int, { frames := 1, cells := 0, slots := 0, locals := 21 }, fun _ _ => True)
theorem plX1_lengthOf : pln jX1_lengthOf := ⟨by decide +kernel, rfl, rfl, rfl, fun _ _ => trivial⟩
set_option maxRecDepth 100000 in
theorem kbX1_lengthOf : KB jX1_lengthOf 1 := ⟨List.mem_filter.mpr ⟨List.mem_of_getElem? (i := 876) (by decide +kernel), by decide +kernel⟩, List.mem_filter.mpr ⟨List.mem_of_getElem? (i := 91) (by decide +kernel), by decide +kernel⟩, by decide +kernel⟩
abbrev jX1_lengthMadeBy : MD := (RX1, yX1_lengthMadeBy, cX1_lengthMadeBy, 4, some .int, { frames := 0, cells := 0, slots := 0, locals := 0 }, fun _ _ => True)
theorem plX1_lengthMadeBy : pln jX1_lengthMadeBy := ⟨by decide +kernel, rfl, rfl, rfl, fun _ _ => trivial⟩
set_option maxRecDepth 100000 in
theorem kbX1_lengthMadeBy : KB jX1_lengthMadeBy 1 := ⟨List.mem_filter.mpr ⟨List.mem_of_getElem? (i := 572) (by decide +kernel), by decide +kernel⟩, List.mem_filter.mpr ⟨List.mem_of_getElem? (i := 91) (by decide +kernel), by decide +kernel⟩, by decide +kernel⟩
abbrev jX1_vertexNumber : MD := (RX1, yX1_vertexNumber, cX1_vertexNumber, 3, some .int, { frames := 1, cells := 0, slots := 0, locals := 21 }, fun _ _ => True)
theorem plX1_vertexNumber : pln jX1_vertexNumber := ⟨by decide +kernel, rfl, rfl, rfl, fun _ _ => trivial⟩
set_option maxRecDepth 100000 in
theorem kbX1_vertexNumber : KB jX1_vertexNumber 2 := ⟨List.mem_filter.mpr ⟨List.mem_of_getElem? (i := 897) (by decide +kernel), by decide +kernel⟩, List.mem_filter.mpr ⟨List.mem_of_getElem? (i := 91) (by decide +kernel), by decide +kernel⟩, by decide +kernel⟩
abbrev jX1_segmentAt : MD := (RX1, yX1_segmentAt, cX1_segmentAt, 5, some .int, { frames := 1, cells := 0, slots := 0, locals := 21 }, fun _ _ => True)
theorem plX1_segmentAt : pln jX1_segmentAt := ⟨by decide +kernel, rfl, rfl, rfl, fun _ _ => trivial⟩
set_option maxRecDepth 100000 in
theorem kbX1_segmentAt : KB jX1_segmentAt 2 := ⟨List.mem_filter.mpr ⟨List.mem_of_getElem? (i := 917) (by decide +kernel), by decide +kernel⟩, List.mem_filter.mpr ⟨List.mem_of_getElem? (i := 91) (by decide +kernel), by decide +kernel⟩, by decide +kernel⟩
abbrev jX1_pointNumber : MD := (RX1, yX1_pointNumber, cX1_pointNumber, 5, some .int, { frames := 2, cells := 0, slots := 0, locals := 48 }, fun _ _ => True)
theorem plX1_pointNumber : pln jX1_pointNumber := ⟨by decide +kernel, rfl, rfl, rfl, fun _ _ => trivial⟩
set_option maxRecDepth 100000 in
theorem kbX1_pointNumber : KB jX1_pointNumber 3 := ⟨List.mem_filter.mpr ⟨List.mem_of_getElem? (i := 913) (by decide +kernel), by decide +kernel⟩, List.mem_filter.mpr ⟨List.mem_of_getElem? (i := 91) (by decide +kernel), by decide +kernel⟩, by decide +kernel⟩
abbrev jX1_numberOf : MD := (RX1, yX1_numberOf, cX1_numberOf, 2, some .int, { frames := 0, cells := 0, slots := 0, locals := 0 }, fun _ _ => True)
theorem plX1_numberOf : pln jX1_numberOf := ⟨by decide +kernel, rfl, rfl, rfl, fun _ _ => trivial⟩
set_option maxRecDepth 100000 in
theorem kbX1_numberOf : KB jX1_numberOf 2 := ⟨List.mem_filter.mpr ⟨List.mem_of_getElem? (i := 928) (by decide +kernel), by decide +kernel⟩, List.mem_filter.mpr ⟨List.mem_of_getElem? (i := 91) (by decide +kernel), by decide +kernel⟩, by decide +kernel⟩
abbrev jX1_difference : MD := (RX1, yX1_difference, cX1_difference, 3, some .int, { frames := 0, cells := 0, slots := 0, locals := 0 }, fun _ _ => True)
theorem plX1_difference : pln jX1_difference := ⟨by decide +kernel, rfl, rfl, rfl, fun _ _ => trivial⟩
set_option maxRecDepth 100000 in
theorem kbX1_difference : KB jX1_difference 2 := ⟨List.mem_filter.mpr ⟨List.mem_of_getElem? (i := 925) (by decide +kernel), by decide +kernel⟩, List.mem_filter.mpr ⟨List.mem_of_getElem? (i := 91) (by decide +kernel), by decide +kernel⟩, by decide +kernel⟩
abbrev jX1_along : MD := (RX1, yX1_along, cX1_along, 7, some .int, { frames := 1, cells := 0, slots := 0, locals := 22 }, fun _ _ => True)
theorem plX1_along : pln jX1_along := ⟨by decide +kernel, rfl, rfl, rfl, fun _ _ => trivial⟩
set_option maxRecDepth 100000 in
theorem kbX1_along : KB jX1_along 3 := ⟨List.mem_filter.mpr ⟨List.mem_of_getElem? (i := 921) (by decide +kernel), by decide +kernel⟩, List.mem_filter.mpr ⟨List.mem_of_getElem? (i := 91) (by decide +kernel), by decide +kernel⟩, by decide +kernel⟩
abbrev jX1_isBackward : MD := (RX1, yX1_isBackward, cX1_isBackward, 4, some .boolean, { frames := 1, cells := 0, slots := 0, locals := 22 }, fun _ _ => True)
theorem plX1_isBackward : pln jX1_isBackward := ⟨by decide +kernel, rfl, rfl, rfl, fun _ _ => trivial⟩
set_option maxRecDepth 100000 in
theorem kbX1_isBackward : KB jX1_isBackward 2 := ⟨List.mem_filter.mpr ⟨List.mem_of_getElem? (i := 1185) (by decide +kernel), by decide +kernel⟩, List.mem_filter.mpr ⟨List.mem_of_getElem? (i := 91) (by decide +kernel), by decide +kernel⟩, by decide +kernel⟩
abbrev jX1_nearestNumber : MD := (RX1, yX1_nearestNumber, cX1_nearestNumber, 10, some .int, { frames := 3, cells := 0, slots := 0, locals := 97 }, fun _ _ => True)
theorem plX1_nearestNumber : pln jX1_nearestNumber := ⟨by decide +kernel, rfl, rfl, rfl, fun _ _ => trivial⟩
set_option maxRecDepth 100000 in
theorem kbX1_nearestNumber : KB jX1_nearestNumber 3 := ⟨List.mem_filter.mpr ⟨List.mem_of_getElem? (i := 936) (by decide +kernel), by decide +kernel⟩, List.mem_filter.mpr ⟨List.mem_of_getElem? (i := 91) (by decide +kernel), by decide +kernel⟩, by decide +kernel⟩
abbrev jX1_squareTo : MD := (RX1, yX1_squareTo, cX1_squareTo, 6, some .int, { frames := 2, cells := 0, slots := 0, locals := 72 }, fun _ _ => True)
theorem plX1_squareTo : pln jX1_squareTo := ⟨by decide +kernel, rfl, rfl, rfl, fun _ _ => trivial⟩
set_option maxRecDepth 100000 in
theorem kbX1_squareTo : KB jX1_squareTo 3 := ⟨List.mem_filter.mpr ⟨List.mem_of_getElem? (i := 941) (by decide +kernel), by decide +kernel⟩, List.mem_filter.mpr ⟨List.mem_of_getElem? (i := 91) (by decide +kernel), by decide +kernel⟩, by decide +kernel⟩
abbrev jX1_nearestOn : MD := (RX1, yX1_nearestOn, cX1_nearestOn, 13, some .int, { frames := 1, cells := 0, slots := 0, locals := 40 }, fun _ _ => True)
theorem plX1_nearestOn : pln jX1_nearestOn := ⟨by decide +kernel, rfl, rfl, rfl, fun _ _ => trivial⟩
set_option maxRecDepth 100000 in
theorem kbX1_nearestOn : KB jX1_nearestOn 4 := ⟨List.mem_filter.mpr ⟨List.mem_of_getElem? (i := 945) (by decide +kernel), by decide +kernel⟩, List.mem_filter.mpr ⟨List.mem_of_getElem? (i := 91) (by decide +kernel), by decide +kernel⟩, by decide +kernel⟩
abbrev jX1_vertexBefore : MD := (RX1, yX1_vertexBefore, cX1_vertexBefore, 3, some .int, { frames := 1, cells := 0, slots := 0, locals := 21 }, fun _ _ => True)
theorem plX1_vertexBefore : pln jX1_vertexBefore := ⟨by decide +kernel, rfl, rfl, rfl, fun _ _ => trivial⟩
set_option maxRecDepth 100000 in
theorem kbX1_vertexBefore : KB jX1_vertexBefore 2 := ⟨List.mem_filter.mpr ⟨List.mem_of_getElem? (i := 963) (by decide +kernel), by decide +kernel⟩, List.mem_filter.mpr ⟨List.mem_of_getElem? (i := 91) (by decide +kernel), by decide +kernel⟩, by decide +kernel⟩
abbrev jX1_windingAround : MD := (RX1, yX1_windingAround, cX1_windingAround, 6, some .int, { frames := 2, cells := 0, slots := 0, locals := 48 }, fun _ _ => True)
theorem plX1_windingAround : pln jX1_windingAround := ⟨by decide +kernel, rfl, rfl, rfl, fun _ _ => trivial⟩
set_option maxRecDepth 100000 in
theorem kbX1_windingAround : KB jX1_windingAround 2 := ⟨List.mem_filter.mpr ⟨List.mem_of_getElem? (i := 959) (by decide +kernel), by decide +kernel⟩, List.mem_filter.mpr ⟨List.mem_of_getElem? (i := 91) (by decide +kernel), by decide +kernel⟩, by decide +kernel⟩
abbrev jX1_crossing : MD := (RX1, yX1_crossing, cX1_crossing, 8, some .int, { frames := 1, cells := 0, slots := 0, locals := 21 }, fun _ _ => True)
theorem plX1_crossing : pln jX1_crossing := ⟨by decide +kernel, rfl, rfl, rfl, fun _ _ => trivial⟩
set_option maxRecDepth 100000 in
theorem kbX1_crossing : KB jX1_crossing 4 := ⟨List.mem_filter.mpr ⟨List.mem_of_getElem? (i := 967) (by decide +kernel), by decide +kernel⟩, List.mem_filter.mpr ⟨List.mem_of_getElem? (i := 91) (by decide +kernel), by decide +kernel⟩, by decide +kernel⟩
abbrev jX1_twiceTheArea : MD := (RX1, yX1_twiceTheArea, cX1_twiceTheArea, 5, some .long, { frames := 2, cells := 0, slots := 0, locals := 43 }, fun _ _ => True)
theorem plX1_twiceTheArea : pln jX1_twiceTheArea := ⟨by decide +kernel, rfl, rfl, rfl, fun _ _ => trivial⟩
set_option maxRecDepth 100000 in
theorem kbX1_twiceTheArea : KB jX1_twiceTheArea 1 := ⟨List.mem_filter.mpr ⟨List.mem_of_getElem? (i := 976) (by decide +kernel), by decide +kernel⟩, List.mem_filter.mpr ⟨List.mem_of_getElem? (i := 91) (by decide +kernel), by decide +kernel⟩, by decide +kernel⟩
abbrev jX1_turn : MD := (RX1, yX1_turn, cX1_turn, 3, some .int, { frames := 1, cells := 0, slots := 0, locals := 21 }, fun _ _ => True)
theorem plX1_turn : pln jX1_turn := ⟨by decide +kernel, rfl, rfl, rfl, fun _ _ => trivial⟩
set_option maxRecDepth 100000 in
theorem kbX1_turn : KB jX1_turn 2 := ⟨List.mem_filter.mpr ⟨List.mem_of_getElem? (i := 980) (by decide +kernel), by decide +kernel⟩, List.mem_filter.mpr ⟨List.mem_of_getElem? (i := 91) (by decide +kernel), by decide +kernel⟩, by decide +kernel⟩
abbrev jX1_deviationScale : MD := (RX1, yX1_deviationScale, cX1_deviationScale, 7, some .long, { frames := 1, cells := 0, slots := 0, locals := 21 }, fun _ _ => True)
theorem plX1_deviationScale : pln jX1_deviationScale := ⟨by decide +kernel, rfl, rfl, rfl, fun _ _ => trivial⟩
set_option maxRecDepth 100000 in
theorem kbX1_deviationScale : KB jX1_deviationScale 2 := ⟨List.mem_filter.mpr ⟨List.mem_of_getElem? (i := 1012) (by decide +kernel), by decide +kernel⟩, List.mem_filter.mpr ⟨List.mem_of_getElem? (i := 91) (by decide +kernel), by decide +kernel⟩, by decide +kernel⟩
abbrev jX1_deviation : MD := (RX1, yX1_deviation, cX1_deviation, 14, some .long, { frames := 1, cells := 0, slots := 0, locals := 21 }, fun _ _ => True)
theorem plX1_deviation : pln jX1_deviation := ⟨by decide +kernel, rfl, rfl, rfl, fun _ _ => trivial⟩
set_option maxRecDepth 100000 in
theorem kbX1_deviation : KB jX1_deviation 3 := ⟨List.mem_filter.mpr ⟨List.mem_of_getElem? (i := 1016) (by decide +kernel), by decide +kernel⟩, List.mem_filter.mpr ⟨List.mem_of_getElem? (i := 91) (by decide +kernel), by decide +kernel⟩, by decide +kernel⟩
abbrev jX1_boundOf : MD := (RX1, yX1_boundOf, cX1_boundOf, 7, some .int, { frames := 1, cells := 0, slots := 0, locals := 40 }, fun _ _ => True)
theorem plX1_boundOf : pln jX1_boundOf := ⟨by decide +kernel, rfl, rfl, rfl, fun _ _ => trivial⟩
set_option maxRecDepth 100000 in
theorem kbX1_boundOf : KB jX1_boundOf 3 := ⟨List.mem_filter.mpr ⟨List.mem_of_getElem? (i := 988) (by decide +kernel), by decide +kernel⟩, List.mem_filter.mpr ⟨List.mem_of_getElem? (i := 91) (by decide +kernel), by decide +kernel⟩, by decide +kernel⟩
abbrev jX2_init : MD := (RX2, yX2_init, cX2_init, 1, none, { frames := 0, cells := 0, slots := 0, locals := 0 }, fun _ _ => True)
theorem plX2_init : pln jX2_init := ⟨by decide +kernel, rfl, rfl, rfl, fun _ _ => trivial⟩
set_option maxRecDepth 100000 in
theorem kbX2_init : KB jX2_init 0 := ⟨List.mem_filter.mpr ⟨List.mem_of_getElem? (i := 149) (by decide +kernel), by decide +kernel⟩, List.mem_filter.mpr ⟨List.mem_of_getElem? (i := 92) (by decide +kernel), by decide +kernel⟩, by decide +kernel⟩
abbrev jX2_begin : MD := (RX2, yX2_begin, cX2_begin, 7, none, { frames := 2, cells := 0, slots := 0, locals := 42 }, fun _ _ => True)
theorem plX2_begin : pln jX2_begin := ⟨by decide +kernel, rfl, rfl, rfl, fun _ _ => trivial⟩
set_option maxRecDepth 100000 in
theorem kbX2_begin : KB jX2_begin 4 := ⟨List.mem_filter.mpr ⟨List.mem_of_getElem? (i := 527) (by decide +kernel), by decide +kernel⟩, List.mem_filter.mpr ⟨List.mem_of_getElem? (i := 92) (by decide +kernel), by decide +kernel⟩, by decide +kernel⟩
abbrev jX2_hasMore : MD := (RX2, yX2_hasMore, cX2_hasMore, 1, some .boolean, { frames := 0, cells := 0, slots := 0, locals := 0 }, fun _ _ => True)
theorem plX2_hasMore : pln jX2_hasMore := ⟨by decide +kernel, rfl, rfl, rfl, fun _ _ => trivial⟩
set_option maxRecDepth 100000 in
theorem kbX2_hasMore : KB jX2_hasMore 0 := ⟨List.mem_filter.mpr ⟨List.mem_of_getElem? (i := 533) (by decide +kernel), by decide +kernel⟩, List.mem_filter.mpr ⟨List.mem_of_getElem? (i := 92) (by decide +kernel), by decide +kernel⟩, by decide +kernel⟩
abbrev jX2_halveNext : MD := (RX2, yX2_halveNext, cX2_halveNext, 5, none, { frames := 2, cells := 0, slots := 0, locals := 66 }, fun _ _ => True)
theorem plX2_halveNext : pln jX2_halveNext := ⟨by decide +kernel, rfl, rfl, rfl, fun _ _ => trivial⟩
set_option maxRecDepth 100000 in
theorem kbX2_halveNext : KB jX2_halveNext 1 := ⟨List.mem_filter.mpr ⟨List.mem_of_getElem? (i := 537) (by decide +kernel), by decide +kernel⟩, List.mem_filter.mpr ⟨List.mem_of_getElem? (i := 92) (by decide +kernel), by decide +kernel⟩, by decide +kernel⟩
abbrev jX2_nextX : MD := (RX2, yX2_nextX, cX2_nextX, 1, some .int, { frames := 0, cells := 0, slots := 0, locals := 0 }, fun _ _ => True)
theorem plX2_nextX : pln jX2_nextX := ⟨by decide +kernel, rfl, rfl, rfl, fun _ _ => trivial⟩
set_option maxRecDepth 100000 in
theorem kbX2_nextX : KB jX2_nextX 0 := ⟨List.mem_filter.mpr ⟨List.mem_of_getElem? (i := 552) (by decide +kernel), by decide +kernel⟩, List.mem_filter.mpr ⟨List.mem_of_getElem? (i := 92) (by decide +kernel), by decide +kernel⟩, by decide +kernel⟩
abbrev jX2_nextY : MD := (RX2, yX2_nextY, cX2_nextY, 1, some .int, { frames := 0, cells := 0, slots := 0, locals := 0 }, fun _ _ => True)
theorem plX2_nextY : pln jX2_nextY := ⟨by decide +kernel, rfl, rfl, rfl, fun _ _ => trivial⟩
set_option maxRecDepth 100000 in
theorem kbX2_nextY : KB jX2_nextY 0 := ⟨List.mem_filter.mpr ⟨List.mem_of_getElem? (i := 556) (by decide +kernel), by decide +kernel⟩, List.mem_filter.mpr ⟨List.mem_of_getElem? (i := 92) (by decide +kernel), by decide +kernel⟩, by decide +kernel⟩
abbrev jX2_dropNext : MD := (RX2, yX2_dropNext, cX2_dropNext, 1, none, { frames := 0, cells := 0, slots := 0, locals := 0 }, fun _ _ => True)
theorem plX2_dropNext : pln jX2_dropNext := ⟨by decide +kernel, rfl, rfl, rfl, fun _ _ => trivial⟩
set_option maxRecDepth 100000 in
theorem kbX2_dropNext : KB jX2_dropNext 0 := ⟨List.mem_filter.mpr ⟨List.mem_of_getElem? (i := 568) (by decide +kernel), by decide +kernel⟩, List.mem_filter.mpr ⟨List.mem_of_getElem? (i := 92) (by decide +kernel), by decide +kernel⟩, by decide +kernel⟩
abbrev jX2_isFlat : MD := (RX2, yX2_isFlat, cX2_isFlat, 7, some .boolean, { frames := 1, cells := 0, slots := 0, locals := 40 }, fun _ _ => True)
theorem plX2_isFlat : pln jX2_isFlat := ⟨by decide +kernel, rfl, rfl, rfl, fun _ _ => trivial⟩
set_option maxRecDepth 100000 in
theorem kbX2_isFlat : KB jX2_isFlat 2 := ⟨List.mem_filter.mpr ⟨List.mem_of_getElem? (i := 541) (by decide +kernel), by decide +kernel⟩, List.mem_filter.mpr ⟨List.mem_of_getElem? (i := 92) (by decide +kernel), by decide +kernel⟩, by decide +kernel⟩
abbrev jX2_halve : MD := (RX2, yX2_halve, cX2_halve, 5, none, { frames := 0, cells := 0, slots := 0, locals := 0 }, fun _ _ => True)
theorem plX2_halve : pln jX2_halve := ⟨by decide +kernel, rfl, rfl, rfl, fun _ _ => trivial⟩
set_option maxRecDepth 100000 in
theorem kbX2_halve : KB jX2_halve 2 := ⟨List.mem_filter.mpr ⟨List.mem_of_getElem? (i := 548) (by decide +kernel), by decide +kernel⟩, List.mem_filter.mpr ⟨List.mem_of_getElem? (i := 92) (by decide +kernel), by decide +kernel⟩, by decide +kernel⟩
abbrev jX3_init : MD := (RX3, yX3_init, cX3_init, 2, none, { frames := 0, cells := 0, slots := 0, locals := 0 }, fun _ _ => True)
theorem plX3_init : pln jX3_init := ⟨by decide +kernel, rfl, rfl, rfl, fun _ _ => trivial⟩
set_option maxRecDepth 100000 in
theorem kbX3_init : KB jX3_init 0 := ⟨List.mem_filter.mpr ⟨List.mem_of_getElem? (i := 243) (by decide +kernel), by decide +kernel⟩, List.mem_filter.mpr ⟨List.mem_of_getElem? (i := 95) (by decide +kernel), by decide +kernel⟩, by decide +kernel⟩
abbrev jX3_append : MD := (RX3, yX3_append, cX3_append, 2, none, { frames := 1, cells := 0, slots := 0, locals := 20 }, fun _ _ => True)
theorem plX3_append : pln jX3_append := ⟨by decide +kernel, rfl, rfl, rfl, fun _ _ => trivial⟩
set_option maxRecDepth 100000 in
theorem kbX3_append : KB jX3_append 1 := ⟨List.mem_filter.mpr ⟨List.mem_of_getElem? (i := 1107) (by decide +kernel), by decide +kernel⟩, List.mem_filter.mpr ⟨List.mem_of_getElem? (i := 95) (by decide +kernel), by decide +kernel⟩, by decide +kernel⟩
abbrev jX3_changeWidth : MD := (RX3, yX3_changeWidth, cX3_changeWidth, 4, some .int, { frames := 1, cells := 0, slots := 0, locals := 20 }, fun _ _ => True)
theorem plX3_changeWidth : pln jX3_changeWidth := ⟨by decide +kernel, rfl, rfl, rfl, fun _ _ => trivial⟩
set_option maxRecDepth 100000 in
theorem kbX3_changeWidth : KB jX3_changeWidth 2 := ⟨List.mem_filter.mpr ⟨List.mem_of_getElem? (i := 1080) (by decide +kernel), by decide +kernel⟩, List.mem_filter.mpr ⟨List.mem_of_getElem? (i := 95) (by decide +kernel), by decide +kernel⟩, by decide +kernel⟩
abbrev jX3_kerningOf : MD := (RX3, yX3_kerningOf, cX3_kerningOf, 3, some .int, { frames := 1, cells := 0, slots := 0, locals := 20 }, fun _ _ => True)
theorem plX3_kerningOf : pln jX3_kerningOf := ⟨by decide +kernel, rfl, rfl, rfl, fun _ _ => trivial⟩
set_option maxRecDepth 100000 in
theorem kbX3_kerningOf : KB jX3_kerningOf 2 := ⟨List.mem_filter.mpr ⟨List.mem_of_getElem? (i := 1094) (by decide +kernel), by decide +kernel⟩, List.mem_filter.mpr ⟨List.mem_of_getElem? (i := 95) (by decide +kernel), by decide +kernel⟩, by decide +kernel⟩
abbrev jX3_pairsBeside : MD := (RX3, yX3_pairsBeside, cX3_pairsBeside, 3, some .int, { frames := 2, cells := 0, slots := 0, locals := 42 }, fun _ _ => True)
theorem plX3_pairsBeside : pln jX3_pairsBeside := ⟨by decide +kernel, rfl, rfl, rfl, fun _ _ => trivial⟩
set_option maxRecDepth 100000 in
theorem kbX3_pairsBeside : KB jX3_pairsBeside 2 := ⟨List.mem_filter.mpr ⟨List.mem_of_getElem? (i := 1090) (by decide +kernel), by decide +kernel⟩, List.mem_filter.mpr ⟨List.mem_of_getElem? (i := 95) (by decide +kernel), by decide +kernel⟩, by decide +kernel⟩
abbrev jX3_changeKerning : MD := (RX3, yX3_changeKerning, cX3_changeKerning, 4, some .int, { frames := 3, cells := 0, slots := 0, locals := 64 }, fun _ _ => True)
theorem plX3_changeKerning : pln jX3_changeKerning := ⟨by decide +kernel, rfl, rfl, rfl, fun _ _ => trivial⟩
set_option maxRecDepth 100000 in
theorem kbX3_changeKerning : KB jX3_changeKerning 3 := ⟨List.mem_filter.mpr ⟨List.mem_of_getElem? (i := 1098) (by decide +kernel), by decide +kernel⟩, List.mem_filter.mpr ⟨List.mem_of_getElem? (i := 95) (by decide +kernel), by decide +kernel⟩, by decide +kernel⟩
abbrev jX3_letterAt : MD := (RX3, yX3_letterAt, cX3_letterAt, 2, some .int, { frames := 0, cells := 0, slots := 0, locals := 0 }, fun _ _ => True)
theorem plX3_letterAt : pln jX3_letterAt := ⟨by decide +kernel, rfl, rfl, rfl, fun _ _ => trivial⟩
set_option maxRecDepth 100000 in
theorem kbX3_letterAt : KB jX3_letterAt 1 := ⟨List.mem_filter.mpr ⟨List.mem_of_getElem? (i := 1135) (by decide +kernel), by decide +kernel⟩, List.mem_filter.mpr ⟨List.mem_of_getElem? (i := 95) (by decide +kernel), by decide +kernel⟩, by decide +kernel⟩
abbrev jX3_widthAt : MD := (RX3, yX3_widthAt, cX3_widthAt, 3, some .int, { frames := 1, cells := 0, slots := 0, locals := 21 }, fun _ _ => True)
theorem plX3_widthAt : pln jX3_widthAt := ⟨by decide +kernel, rfl, rfl, rfl, fun _ _ => trivial⟩
set_option maxRecDepth 100000 in
theorem kbX3_widthAt : KB jX3_widthAt 1 := ⟨List.mem_filter.mpr ⟨List.mem_of_getElem? (i := 1131) (by decide +kernel), by decide +kernel⟩, List.mem_filter.mpr ⟨List.mem_of_getElem? (i := 95) (by decide +kernel), by decide +kernel⟩, by decide +kernel⟩
abbrev jX3_stepAfter : MD := (RX3, yX3_stepAfter, cX3_stepAfter, 2, some .int, { frames := 2, cells := 0, slots := 0, locals := 43 }, fun _ _ => True)
theorem plX3_stepAfter : pln jX3_stepAfter := ⟨by decide +kernel, rfl, rfl, rfl, fun _ _ => trivial⟩
set_option maxRecDepth 100000 in
theorem kbX3_stepAfter : KB jX3_stepAfter 1 := ⟨List.mem_filter.mpr ⟨List.mem_of_getElem? (i := 1142) (by decide +kernel), by decide +kernel⟩, List.mem_filter.mpr ⟨List.mem_of_getElem? (i := 95) (by decide +kernel), by decide +kernel⟩, by decide +kernel⟩
abbrev jX3_layOn : MD := (RX3, yX3_layOn, cX3_layOn, 3, none, { frames := 5, cells := 0, slots := 0, locals := 116 }, fun _ _ => True)
theorem plX3_layOn : pln jX3_layOn := ⟨by decide +kernel, rfl, rfl, rfl, fun _ _ => trivial⟩
set_option maxRecDepth 100000 in
theorem kbX3_layOn : KB jX3_layOn 2 := ⟨List.mem_filter.mpr ⟨List.mem_of_getElem? (i := 1123) (by decide +kernel), by decide +kernel⟩, List.mem_filter.mpr ⟨List.mem_of_getElem? (i := 95) (by decide +kernel), by decide +kernel⟩, by decide +kernel⟩
abbrev jX3_layOnOne : MD := (RX3, yX3_layOnOne, cX3_layOnOne, 11, none, { frames := 4, cells := 0, slots := 0, locals := 86 }, fun _ _ => True)
theorem plX3_layOnOne : pln jX3_layOnOne := ⟨by decide +kernel, rfl, rfl, rfl, fun _ _ => trivial⟩
set_option maxRecDepth 100000 in
theorem kbX3_layOnOne : KB jX3_layOnOne 2 := ⟨List.mem_filter.mpr ⟨List.mem_of_getElem? (i := 1146) (by decide +kernel), by decide +kernel⟩, List.mem_filter.mpr ⟨List.mem_of_getElem? (i := 95) (by decide +kernel), by decide +kernel⟩, by decide +kernel⟩
abbrev jX3_endOfAll : MD := (RX3, yX3_endOfAll, cX3_endOfAll, 3, some .int, { frames := 3, cells := 0, slots := 0, locals := 64 }, fun _ _ => True)
theorem plX3_endOfAll : pln jX3_endOfAll := ⟨by decide +kernel, rfl, rfl, rfl, fun _ _ => trivial⟩
set_option maxRecDepth 100000 in
theorem kbX3_endOfAll : KB jX3_endOfAll 0 := ⟨List.mem_filter.mpr ⟨List.mem_of_getElem? (i := 1154) (by decide +kernel), by decide +kernel⟩, List.mem_filter.mpr ⟨List.mem_of_getElem? (i := 95) (by decide +kernel), by decide +kernel⟩, by decide +kernel⟩
abbrev jX3_squeeze : MD := (RX3, yX3_squeeze, cX3_squeeze, 5, some .int, { frames := 0, cells := 0, slots := 0, locals := 0 }, fun _ _ => True)
theorem plX3_squeeze : pln jX3_squeeze := ⟨by decide +kernel, rfl, rfl, rfl, fun _ _ => trivial⟩
set_option maxRecDepth 100000 in
theorem kbX3_squeeze : KB jX3_squeeze 3 := ⟨List.mem_filter.mpr ⟨List.mem_of_getElem? (i := 1161) (by decide +kernel), by decide +kernel⟩, List.mem_filter.mpr ⟨List.mem_of_getElem? (i := 95) (by decide +kernel), by decide +kernel⟩, by decide +kernel⟩
abbrev jX3_layMovingOn : MD := (RX3, yX3_layMovingOn, cX3_layMovingOn, 8, none, { frames := 4, cells := 0, slots := 0, locals := 86 }, fun _ _ => True)
theorem plX3_layMovingOn : pln jX3_layMovingOn := ⟨by decide +kernel, rfl, rfl, rfl, fun _ _ => trivial⟩
set_option maxRecDepth 100000 in
theorem kbX3_layMovingOn : KB jX3_layMovingOn 2 := ⟨List.mem_filter.mpr ⟨List.mem_of_getElem? (i := 1127) (by decide +kernel), by decide +kernel⟩, List.mem_filter.mpr ⟨List.mem_of_getElem? (i := 95) (by decide +kernel), by decide +kernel⟩, by decide +kernel⟩
abbrev jX3_placeNumber : MD := (RX3, yX3_placeNumber, cX3_placeNumber, 4, some .int, { frames := 3, cells := 0, slots := 0, locals := 72 }, fun _ _ => True)
theorem plX3_placeNumber : pln jX3_placeNumber := ⟨by decide +kernel, rfl, rfl, rfl, fun _ _ => trivial⟩
set_option maxRecDepth 100000 in
theorem kbX3_placeNumber : KB jX3_placeNumber 3 := ⟨List.mem_filter.mpr ⟨List.mem_of_getElem? (i := 1166) (by decide +kernel), by decide +kernel⟩, List.mem_filter.mpr ⟨List.mem_of_getElem? (i := 95) (by decide +kernel), by decide +kernel⟩, by decide +kernel⟩
abbrev jX3_lettersPlaced : MD := (RX3, yX3_lettersPlaced, cX3_lettersPlaced, 3, some .int, { frames := 0, cells := 0, slots := 0, locals := 0 }, fun _ _ => True)
theorem plX3_lettersPlaced : pln jX3_lettersPlaced := ⟨by decide +kernel, rfl, rfl, rfl, fun _ _ => trivial⟩
set_option maxRecDepth 100000 in
theorem kbX3_lettersPlaced : KB jX3_lettersPlaced 0 := ⟨List.mem_filter.mpr ⟨List.mem_of_getElem? (i := 1176) (by decide +kernel), by decide +kernel⟩, List.mem_filter.mpr ⟨List.mem_of_getElem? (i := 95) (by decide +kernel), by decide +kernel⟩, by decide +kernel⟩
abbrev jX3_turnsBackward : MD := (RX3, yX3_turnsBackward, cX3_turnsBackward, 7, some .int, { frames := 2, cells := 0, slots := 0, locals := 45 }, fun _ _ => True)
theorem plX3_turnsBackward : pln jX3_turnsBackward := ⟨by decide +kernel, rfl, rfl, rfl, fun _ _ => trivial⟩
set_option maxRecDepth 100000 in
theorem kbX3_turnsBackward : KB jX3_turnsBackward 1 := ⟨List.mem_filter.mpr ⟨List.mem_of_getElem? (i := 1180) (by decide +kernel), by decide +kernel⟩, List.mem_filter.mpr ⟨List.mem_of_getElem? (i := 95) (by decide +kernel), by decide +kernel⟩, by decide +kernel⟩
abbrev jX4_init : MD := (RX4, yX4_init, cX4_init, 1, none, { frames := 3, cells := 0, slots := 0, locals := 60 }, fun _ _ => True)
theorem plX4_init : pln jX4_init := ⟨by decide +kernel, rfl, rfl, rfl, fun _ _ => trivial⟩
set_option maxRecDepth 100000 in
theorem kbX4_init : KB jX4_init 0 := ⟨List.mem_filter.mpr ⟨List.mem_of_getElem? (i := 285) (by decide +kernel), by decide +kernel⟩, List.mem_filter.mpr ⟨List.mem_of_getElem? (i := 96) (by decide +kernel), by decide +kernel⟩, by decide +kernel⟩
abbrev jX4_append : MD := (RX4, yX4_append, cX4_append, 2, none, { frames := 0, cells := 0, slots := 0, locals := 0 }, fun _ _ => True)
theorem plX4_append : pln jX4_append := ⟨by decide +kernel, rfl, rfl, rfl, fun _ _ => trivial⟩
set_option maxRecDepth 100000 in
theorem kbX4_append : KB jX4_append 1 := ⟨List.mem_filter.mpr ⟨List.mem_of_getElem? (i := 643) (by decide +kernel), by decide +kernel⟩, List.mem_filter.mpr ⟨List.mem_of_getElem? (i := 96) (by decide +kernel), by decide +kernel⟩, by decide +kernel⟩
abbrev jX4_readInto : MD := (RX4, yX4_readInto, cX4_readInto, 3, some .int, { frames := 9, cells := 0, slots := 0, locals := 205 }, fun _ _ => True)
theorem plX4_readInto : pln jX4_readInto := ⟨by decide +kernel, rfl, rfl, rfl, fun _ _ => trivial⟩
set_option maxRecDepth 100000 in
theorem kbX4_readInto : KB jX4_readInto 1 := ⟨List.mem_filter.mpr ⟨List.mem_of_getElem? (i := 655) (by decide +kernel), by decide +kernel⟩, List.mem_filter.mpr ⟨List.mem_of_getElem? (i := 96) (by decide +kernel), by decide +kernel⟩, by decide +kernel⟩
abbrev jX4_commandsRead : MD := (RX4, yX4_commandsRead, cX4_commandsRead, 1, some .int, { frames := 0, cells := 0, slots := 0, locals := 0 }, fun _ _ => True)
theorem plX4_commandsRead : pln jX4_commandsRead := ⟨by decide +kernel, rfl, rfl, rfl, fun _ _ => trivial⟩
set_option maxRecDepth 100000 in
theorem kbX4_commandsRead : KB jX4_commandsRead 0 := ⟨List.mem_filter.mpr ⟨List.mem_of_getElem? (i := 801) (by decide +kernel), by decide +kernel⟩, List.mem_filter.mpr ⟨List.mem_of_getElem? (i := 96) (by decide +kernel), by decide +kernel⟩, by decide +kernel⟩
abbrev jX5_init : MD := (RX5, yX5_init, cX5_init, 1, none, { frames := 0, cells := 0, slots := 0, locals := 0 }, fun _ _ => True)
theorem plX5_init : pln jX5_init := ⟨by decide +kernel, rfl, rfl, rfl, fun _ _ => trivial⟩
set_option maxRecDepth 100000 in
theorem kbX5_init : KB jX5_init 0 := ⟨List.mem_filter.mpr ⟨List.mem_of_getElem? (i := 119) (by decide +kernel), by decide +kernel⟩, List.mem_filter.mpr ⟨List.mem_of_getElem? (i := 90) (by decide +kernel), by decide +kernel⟩, by decide +kernel⟩
abbrev jX5_clear : MD := (RX5, yX5_clear, cX5_clear, 1, none, { frames := 0, cells := 0, slots := 0, locals := 0 }, fun _ _ => True)
theorem plX5_clear : pln jX5_clear := ⟨by decide +kernel, rfl, rfl, rfl, fun _ _ => trivial⟩
set_option maxRecDepth 100000 in
theorem kbX5_clear : KB jX5_clear 0 := ⟨List.mem_filter.mpr ⟨List.mem_of_getElem? (i := 597) (by decide +kernel), by decide +kernel⟩, List.mem_filter.mpr ⟨List.mem_of_getElem? (i := 90) (by decide +kernel), by decide +kernel⟩, by decide +kernel⟩
abbrev jX5_add : MD := (RX5, yX5_add, cX5_add, 9, none, { frames := 1, cells := 0, slots := 0, locals := 21 }, fun _ _ => True)
theorem plX5_add : pln jX5_add := ⟨by decide +kernel, rfl, rfl, rfl, fun _ _ => trivial⟩
set_option maxRecDepth 100000 in
theorem kbX5_add : KB jX5_add 7 := ⟨List.mem_filter.mpr ⟨List.mem_of_getElem? (i := 427) (by decide +kernel), by decide +kernel⟩, List.mem_filter.mpr ⟨List.mem_of_getElem? (i := 90) (by decide +kernel), by decide +kernel⟩, by decide +kernel⟩
abbrev jX5_addKind : MD := (RX5, yX5_addKind, cX5_addKind, 2, some .boolean, { frames := 0, cells := 0, slots := 0, locals := 0 }, fun _ _ => True)
theorem plX5_addKind : pln jX5_addKind := ⟨by decide +kernel, rfl, rfl, rfl, fun _ _ => trivial⟩
set_option maxRecDepth 100000 in
theorem kbX5_addKind : KB jX5_addKind 1 := ⟨List.mem_filter.mpr ⟨List.mem_of_getElem? (i := 431) (by decide +kernel), by decide +kernel⟩, List.mem_filter.mpr ⟨List.mem_of_getElem? (i := 90) (by decide +kernel), by decide +kernel⟩, by decide +kernel⟩
abbrev jX5_dropLast : MD := (RX5, yX5_dropLast, cX5_dropLast, 1, none, { frames := 0, cells := 0, slots := 0, locals := 0 }, fun _ _ => True)
theorem plX5_dropLast : pln jX5_dropLast := ⟨by decide +kernel, rfl, rfl, rfl, fun _ _ => trivial⟩
set_option maxRecDepth 100000 in
theorem kbX5_dropLast : KB jX5_dropLast 0 := ⟨List.mem_filter.mpr ⟨List.mem_of_getElem? (i := 490) (by decide +kernel), by decide +kernel⟩, List.mem_filter.mpr ⟨List.mem_of_getElem? (i := 90) (by decide +kernel), by decide +kernel⟩, by decide +kernel⟩
abbrev jX5_become : MD := (RX5, yX5_become, cX5_become, 2, none, { frames := 1, cells := 0, slots := 0, locals := 40 }, fun _ _ => True)
theorem plX5_become : pln jX5_become := ⟨by decide +kernel, rfl, rfl, rfl, fun _ _ => trivial⟩
set_option maxRecDepth 100000 in
theorem kbX5_become : KB jX5_become 1 := ⟨List.mem_filter.mpr ⟨List.mem_of_getElem? (i := 617) (by decide +kernel), by decide +kernel⟩, List.mem_filter.mpr ⟨List.mem_of_getElem? (i := 90) (by decide +kernel), by decide +kernel⟩, by decide +kernel⟩
abbrev jX5_isOpen : MD := (RX5, yX5_isOpen, cX5_isOpen, 1, some .boolean, { frames := 0, cells := 0, slots := 0, locals := 0 }, fun _ _ => True)
theorem plX5_isOpen : pln jX5_isOpen := ⟨by decide +kernel, rfl, rfl, rfl, fun _ _ => trivial⟩
set_option maxRecDepth 100000 in
theorem kbX5_isOpen : KB jX5_isOpen 0 := ⟨List.mem_filter.mpr ⟨List.mem_of_getElem? (i := 443) (by decide +kernel), by decide +kernel⟩, List.mem_filter.mpr ⟨List.mem_of_getElem? (i := 90) (by decide +kernel), by decide +kernel⟩, by decide +kernel⟩
abbrev jX5_kindOf : MD := (RX5, yX5_kindOf, cX5_kindOf, 2, some .int, { frames := 0, cells := 0, slots := 0, locals := 0 }, fun _ _ => True)
theorem plX5_kindOf : pln jX5_kindOf := ⟨by decide +kernel, rfl, rfl, rfl, fun _ _ => trivial⟩
set_option maxRecDepth 100000 in
theorem kbX5_kindOf : KB jX5_kindOf 1 := ⟨List.mem_filter.mpr ⟨List.mem_of_getElem? (i := 474) (by decide +kernel), by decide +kernel⟩, List.mem_filter.mpr ⟨List.mem_of_getElem? (i := 90) (by decide +kernel), by decide +kernel⟩, by decide +kernel⟩
abbrev jX5_pointsOf : MD := (RX5, yX5_pointsOf, cX5_pointsOf, 2, some .int, { frames := 1, cells := 0, slots := 0, locals := 21 }, fun _ _ => True)
theorem plX5_pointsOf : pln jX5_pointsOf := ⟨by decide +kernel, rfl, rfl, rfl, fun _ _ => trivial⟩
set_option maxRecDepth 100000 in
theorem kbX5_pointsOf : KB jX5_pointsOf 1 := ⟨List.mem_filter.mpr ⟨List.mem_of_getElem? (i := 468) (by decide +kernel), by decide +kernel⟩, List.mem_filter.mpr ⟨List.mem_of_getElem? (i := 90) (by decide +kernel), by decide +kernel⟩, by decide +kernel⟩
abbrev jX5_numberOf : MD := (RX5, yX5_numberOf, cX5_numberOf, 4, some .int, { frames := 0, cells := 0, slots := 0, locals := 0 }, fun _ _ => True)
theorem plX5_numberOf : pln jX5_numberOf := ⟨by decide +kernel, rfl, rfl, rfl, fun _ _ => trivial⟩
set_option maxRecDepth 100000 in
theorem kbX5_numberOf : KB jX5_numberOf 2 := ⟨List.mem_filter.mpr ⟨List.mem_of_getElem? (i := 478) (by decide +kernel), by decide +kernel⟩, List.mem_filter.mpr ⟨List.mem_of_getElem? (i := 90) (by decide +kernel), by decide +kernel⟩, by decide +kernel⟩
abbrev jX5_endX : MD := (RX5, yX5_endX, cX5_endX, 2, some .int, { frames := 2, cells := 0, slots := 0, locals := 42 }, fun _ _ => True)
theorem plX5_endX : pln jX5_endX := ⟨by decide +kernel, rfl, rfl, rfl, fun _ _ => trivial⟩
set_option maxRecDepth 100000 in
theorem kbX5_endX : KB jX5_endX 1 := ⟨List.mem_filter.mpr ⟨List.mem_of_getElem? (i := 464) (by decide +kernel), by decide +kernel⟩, List.mem_filter.mpr ⟨List.mem_of_getElem? (i := 90) (by decide +kernel), by decide +kernel⟩, by decide +kernel⟩
abbrev jX5_endY : MD := (RX5, yX5_endY, cX5_endY, 2, some .int, { frames := 2, cells := 0, slots := 0, locals := 42 }, fun _ _ => True)
theorem plX5_endY : pln jX5_endY := ⟨by decide +kernel, rfl, rfl, rfl, fun _ _ => trivial⟩
set_option maxRecDepth 100000 in
theorem kbX5_endY : KB jX5_endY 1 := ⟨List.mem_filter.mpr ⟨List.mem_of_getElem? (i := 482) (by decide +kernel), by decide +kernel⟩, List.mem_filter.mpr ⟨List.mem_of_getElem? (i := 90) (by decide +kernel), by decide +kernel⟩, by decide +kernel⟩
abbrev jX5_control : MD := (RX5, yX5_control, cX5_control, 3, some .int, { frames := 2, cells := 0, slots := 0, locals := 42 }, fun _ _ => True)
theorem plX5_control : pln jX5_control := ⟨by decide +kernel, rfl, rfl, rfl, fun _ _ => trivial⟩
set_option maxRecDepth 100000 in
theorem kbX5_control : KB jX5_control 2 := ⟨List.mem_filter.mpr ⟨List.mem_of_getElem? (i := 576) (by decide +kernel), by decide +kernel⟩, List.mem_filter.mpr ⟨List.mem_of_getElem? (i := 90) (by decide +kernel), by decide +kernel⟩, by decide +kernel⟩
abbrev jX5_contourOf : MD := (RX5, yX5_contourOf, cX5_contourOf, 4, some .int, { frames := 0, cells := 0, slots := 0, locals := 0 }, fun _ _ => True)
theorem plX5_contourOf : pln jX5_contourOf := ⟨by decide +kernel, rfl, rfl, rfl, fun _ _ => trivial⟩
set_option maxRecDepth 100000 in
theorem kbX5_contourOf : KB jX5_contourOf 1 := ⟨List.mem_filter.mpr ⟨List.mem_of_getElem? (i := 500) (by decide +kernel), by decide +kernel⟩, List.mem_filter.mpr ⟨List.mem_of_getElem? (i := 90) (by decide +kernel), by decide +kernel⟩, by decide +kernel⟩
abbrev jX5_firstOf : MD := (RX5, yX5_firstOf, cX5_firstOf, 4, some .int, { frames := 0, cells := 0, slots := 0, locals := 0 }, fun _ _ => True)
theorem plX5_firstOf : pln jX5_firstOf := ⟨by decide +kernel, rfl, rfl, rfl, fun _ _ => trivial⟩
set_option maxRecDepth 100000 in
theorem kbX5_firstOf : KB jX5_firstOf 1 := ⟨List.mem_filter.mpr ⟨List.mem_of_getElem? (i := 460) (by decide +kernel), by decide +kernel⟩, List.mem_filter.mpr ⟨List.mem_of_getElem? (i := 90) (by decide +kernel), by decide +kernel⟩, by decide +kernel⟩
abbrev jX5_behind : MD := (RX5, yX5_behind, cX5_behind, 2, some .int, { frames := 1, cells := 0, slots := 0, locals := 23 }, fun _ _ => True)
theorem plX5_behind : pln jX5_behind := ⟨by decide +kernel, rfl, rfl, rfl, fun _ _ => trivial⟩
set_option maxRecDepth 100000 in
theorem kbX5_behind : KB jX5_behind 1 := ⟨List.mem_filter.mpr ⟨List.mem_of_getElem? (i := 602) (by decide +kernel), by decide +kernel⟩, List.mem_filter.mpr ⟨List.mem_of_getElem? (i := 90) (by decide +kernel), by decide +kernel⟩, by decide +kernel⟩
abbrev jX5_areClosed : MD := (RX5, yX5_areClosed, cX5_areClosed, 4, some .boolean, { frames := 2, cells := 0, slots := 0, locals := 44 }, fun _ _ => True)
theorem plX5_areClosed : pln jX5_areClosed := ⟨by decide +kernel, rfl, rfl, rfl, fun _ _ => trivial⟩
set_option maxRecDepth 100000 in
theorem kbX5_areClosed : KB jX5_areClosed 2 := ⟨List.mem_filter.mpr ⟨List.mem_of_getElem? (i := 888) (by decide +kernel), by decide +kernel⟩, List.mem_filter.mpr ⟨List.mem_of_getElem? (i := 90) (by decide +kernel), by decide +kernel⟩, by decide +kernel⟩
abbrev jX5_isInRange : MD := (RX5, yX5_isInRange, cX5_isInRange, 4, some .boolean, { frames := 2, cells := 0, slots := 0, locals := 42 }, fun _ _ => True)
theorem plX5_isInRange : pln jX5_isInRange := ⟨by decide +kernel, rfl, rfl, rfl, fun _ _ => trivial⟩
set_option maxRecDepth 100000 in
theorem kbX5_isInRange : KB jX5_isInRange 0 := ⟨List.mem_filter.mpr ⟨List.mem_of_getElem? (i := 634) (by decide +kernel), by decide +kernel⟩, List.mem_filter.mpr ⟨List.mem_of_getElem? (i := 90) (by decide +kernel), by decide +kernel⟩, by decide +kernel⟩
abbrev jX5_becomeTransformed : MD := (RX5, yX5_becomeTransformed, cX5_becomeTransformed, 11, none, { frames := 2, cells := 0, slots := 0, locals := 61 }, fun _ _ => True)
theorem plX5_becomeTransformed : pln jX5_becomeTransformed := ⟨by decide +kernel, rfl, rfl, rfl, fun _ _ => trivial⟩
set_option maxRecDepth 100000 in
theorem kbX5_becomeTransformed : KB jX5_becomeTransformed 7 := ⟨List.mem_filter.mpr ⟨List.mem_of_getElem? (i := 629) (by decide +kernel), by decide +kernel⟩, List.mem_filter.mpr ⟨List.mem_of_getElem? (i := 90) (by decide +kernel), by decide +kernel⟩, by decide +kernel⟩
abbrev jX5_becomeReversed : MD := (RX5, yX5_becomeReversed, cX5_becomeReversed, 8, none, { frames := 4, cells := 0, slots := 0, locals := 88 }, fun _ _ => True)
theorem plX5_becomeReversed : pln jX5_becomeReversed := ⟨by decide +kernel, rfl, rfl, rfl, fun _ _ => trivial⟩
set_option maxRecDepth 100000 in
theorem kbX5_becomeReversed : KB jX5_becomeReversed 2 := ⟨List.mem_filter.mpr ⟨List.mem_of_getElem? (i := 593) (by decide +kernel), by decide +kernel⟩, List.mem_filter.mpr ⟨List.mem_of_getElem? (i := 90) (by decide +kernel), by decide +kernel⟩, by decide +kernel⟩
abbrev jX5_addCopies : MD := (RX5, yX5_addCopies, cX5_addCopies, 5, none, { frames := 2, cells := 0, slots := 0, locals := 49 }, fun _ _ => True)
theorem plX5_addCopies : pln jX5_addCopies := ⟨by decide +kernel, rfl, rfl, rfl, fun _ _ => trivial⟩
set_option maxRecDepth 100000 in
theorem kbX5_addCopies : KB jX5_addCopies 3 := ⟨List.mem_filter.mpr ⟨List.mem_of_getElem? (i := 606) (by decide +kernel), by decide +kernel⟩, List.mem_filter.mpr ⟨List.mem_of_getElem? (i := 90) (by decide +kernel), by decide +kernel⟩, by decide +kernel⟩
abbrev jX5_addBackward : MD := (RX5, yX5_addBackward, cX5_addBackward, 6, none, { frames := 3, cells := 0, slots := 0, locals := 63 }, fun _ _ => True)
theorem plX5_addBackward : pln jX5_addBackward := ⟨by decide +kernel, rfl, rfl, rfl, fun _ _ => trivial⟩
set_option maxRecDepth 100000 in
theorem kbX5_addBackward : KB jX5_addBackward 2 := ⟨List.mem_filter.mpr ⟨List.mem_of_getElem? (i := 613) (by decide +kernel), by decide +kernel⟩, List.mem_filter.mpr ⟨List.mem_of_getElem? (i := 90) (by decide +kernel), by decide +kernel⟩, by decide +kernel⟩
abbrev jX6_init : MD := (RX6, yX6_init, cX6_init, 1, none, { frames := 2, cells := 0, slots := 0, locals := 40 }, fun _ _ => True)
theorem plX6_init : pln jX6_init := ⟨by decide +kernel, rfl, rfl, rfl, fun _ _ => trivial⟩
set_option maxRecDepth 100000 in
theorem kbX6_init : KB jX6_init 0 := ⟨List.mem_filter.mpr ⟨List.mem_of_getElem? (i := 291) (by decide +kernel), by decide +kernel⟩, List.mem_filter.mpr ⟨List.mem_of_getElem? (i := 97) (by decide +kernel), by decide +kernel⟩, by decide +kernel⟩
abbrev jX6_begin : MD := (RX6, yX6_begin, cX6_begin, 1, none, { frames := 1, cells := 0, slots := 0, locals := 20 }, fun _ _ => True)
theorem plX6_begin : pln jX6_begin := ⟨by decide +kernel, rfl, rfl, rfl, fun _ _ => trivial⟩
set_option maxRecDepth 100000 in
theorem kbX6_begin : KB jX6_begin 0 := ⟨List.mem_filter.mpr ⟨List.mem_of_getElem? (i := 296) (by decide +kernel), by decide +kernel⟩, List.mem_filter.mpr ⟨List.mem_of_getElem? (i := 97) (by decide +kernel), by decide +kernel⟩, by decide +kernel⟩
abbrev jX6_beginNumber : MD := (RX6, yX6_beginNumber, cX6_beginNumber, 1, none, { frames := 0, cells := 0, slots := 0, locals := 0 }, fun _ _ => True)
theorem plX6_beginNumber : pln jX6_beginNumber := ⟨by decide +kernel, rfl, rfl, rfl, fun _ _ => trivial⟩
set_option maxRecDepth 100000 in
theorem kbX6_beginNumber : KB jX6_beginNumber 0 := ⟨List.mem_filter.mpr ⟨List.mem_of_getElem? (i := 300) (by decide +kernel), by decide +kernel⟩, List.mem_filter.mpr ⟨List.mem_of_getElem? (i := 97) (by decide +kernel), by decide +kernel⟩, by decide +kernel⟩
abbrev jX6_takes : MD := (RX6, yX6_takes, cX6_takes, 3, some .boolean, { frames := 8, cells := 0, slots := 0, locals := 183 }, fun _ _ => True)
theorem plX6_takes : pln jX6_takes := ⟨by decide +kernel, rfl, rfl, rfl, fun _ _ => trivial⟩
set_option maxRecDepth 100000 in
theorem kbX6_takes : KB jX6_takes 2 := ⟨List.mem_filter.mpr ⟨List.mem_of_getElem? (i := 661) (by decide +kernel), by decide +kernel⟩, List.mem_filter.mpr ⟨List.mem_of_getElem? (i := 97) (by decide +kernel), by decide +kernel⟩, by decide +kernel⟩
abbrev jX6_takesDigit : MD := (RX6, yX6_takesDigit, cX6_takesDigit, 4, some .boolean, { frames := 0, cells := 0, slots := 0, locals := 0 }, fun _ _ => True)
theorem plX6_takesDigit : pln jX6_takesDigit := ⟨by decide +kernel, rfl, rfl, rfl, fun _ _ => trivial⟩
set_option maxRecDepth 100000 in
theorem kbX6_takesDigit : KB jX6_takesDigit 1 := ⟨List.mem_filter.mpr ⟨List.mem_of_getElem? (i := 665) (by decide +kernel), by decide +kernel⟩, List.mem_filter.mpr ⟨List.mem_of_getElem? (i := 97) (by decide +kernel), by decide +kernel⟩, by decide +kernel⟩
abbrev jX6_takesMinus : MD := (RX6, yX6_takesMinus, cX6_takesMinus, 1, some .boolean, { frames := 0, cells := 0, slots := 0, locals := 0 }, fun _ _ => True)
theorem plX6_takesMinus : pln jX6_takesMinus := ⟨by decide +kernel, rfl, rfl, rfl, fun _ _ => trivial⟩
set_option maxRecDepth 100000 in
theorem kbX6_takesMinus : KB jX6_takesMinus 0 := ⟨List.mem_filter.mpr ⟨List.mem_of_getElem? (i := 669) (by decide +kernel), by decide +kernel⟩, List.mem_filter.mpr ⟨List.mem_of_getElem? (i := 97) (by decide +kernel), by decide +kernel⟩, by decide +kernel⟩
abbrev jX6_takesComma : MD := (RX6, yX6_takesComma, cX6_takesComma, 1, some .boolean, { frames := 2, cells := 0, slots := 0, locals := 40 }, fun _ _ => True)
theorem plX6_takesComma : pln jX6_takesComma := ⟨by decide +kernel, rfl, rfl, rfl, fun _ _ => trivial⟩
set_option maxRecDepth 100000 in
theorem kbX6_takesComma : KB jX6_takesComma 0 := ⟨List.mem_filter.mpr ⟨List.mem_of_getElem? (i := 673) (by decide +kernel), by decide +kernel⟩, List.mem_filter.mpr ⟨List.mem_of_getElem? (i := 97) (by decide +kernel), by decide +kernel⟩, by decide +kernel⟩
abbrev jX6_takesKind : MD := (RX6, yX6_takesKind, cX6_takesKind, 5, some .boolean, { frames := 7, cells := 0, slots := 0, locals := 159 }, fun _ _ => True)
theorem plX6_takesKind : pln jX6_takesKind := ⟨by decide +kernel, rfl, rfl, rfl, fun _ _ => trivial⟩
set_option maxRecDepth 100000 in
theorem kbX6_takesKind : KB jX6_takesKind 2 := ⟨List.mem_filter.mpr ⟨List.mem_of_getElem? (i := 681) (by decide +kernel), by decide +kernel⟩, List.mem_filter.mpr ⟨List.mem_of_getElem? (i := 97) (by decide +kernel), by decide +kernel⟩, by decide +kernel⟩
abbrev jX6_canBegin : MD := (RX6, yX6_canBegin, cX6_canBegin, 2, some .boolean, { frames := 1, cells := 0, slots := 0, locals := 20 }, fun _ _ => True)
theorem plX6_canBegin : pln jX6_canBegin := ⟨by decide +kernel, rfl, rfl, rfl, fun _ _ => trivial⟩
set_option maxRecDepth 100000 in
theorem kbX6_canBegin : KB jX6_canBegin 1 := ⟨List.mem_filter.mpr ⟨List.mem_of_getElem? (i := 773) (by decide +kernel), by decide +kernel⟩, List.mem_filter.mpr ⟨List.mem_of_getElem? (i := 97) (by decide +kernel), by decide +kernel⟩, by decide +kernel⟩
abbrev jX6_isWhole : MD := (RX6, yX6_isWhole, cX6_isWhole, 1, some .boolean, { frames := 0, cells := 0, slots := 0, locals := 0 }, fun _ _ => True)
theorem plX6_isWhole : pln jX6_isWhole := ⟨by decide +kernel, rfl, rfl, rfl, fun _ _ => trivial⟩
set_option maxRecDepth 100000 in
theorem kbX6_isWhole : KB jX6_isWhole 0 := ⟨List.mem_filter.mpr ⟨List.mem_of_getElem? (i := 777) (by decide +kernel), by decide +kernel⟩, List.mem_filter.mpr ⟨List.mem_of_getElem? (i := 97) (by decide +kernel), by decide +kernel⟩, by decide +kernel⟩
abbrev jX6_finishNumber : MD := (RX6, yX6_finishNumber, cX6_finishNumber, 1, none, { frames := 1, cells := 0, slots := 0, locals := 20 }, fun _ _ => True)
theorem plX6_finishNumber : pln jX6_finishNumber := ⟨by decide +kernel, rfl, rfl, rfl, fun _ _ => trivial⟩
set_option maxRecDepth 100000 in
theorem kbX6_finishNumber : KB jX6_finishNumber 0 := ⟨List.mem_filter.mpr ⟨List.mem_of_getElem? (i := 677) (by decide +kernel), by decide +kernel⟩, List.mem_filter.mpr ⟨List.mem_of_getElem? (i := 97) (by decide +kernel), by decide +kernel⟩, by decide +kernel⟩
abbrev jX6_finishCommand : MD := (RX6, yX6_finishCommand, cX6_finishCommand, 2, none, { frames := 2, cells := 0, slots := 0, locals := 49 }, fun _ _ => True)
theorem plX6_finishCommand : pln jX6_finishCommand := ⟨by decide +kernel, rfl, rfl, rfl, fun _ _ => trivial⟩
set_option maxRecDepth 100000 in
theorem kbX6_finishCommand : KB jX6_finishCommand 1 := ⟨List.mem_filter.mpr ⟨List.mem_of_getElem? (i := 781) (by decide +kernel), by decide +kernel⟩, List.mem_filter.mpr ⟨List.mem_of_getElem? (i := 97) (by decide +kernel), by decide +kernel⟩, by decide +kernel⟩
abbrev jX6_shiftNumbers : MD := (RX6, yX6_shiftNumbers, cX6_shiftNumbers, 2, none, { frames := 0, cells := 0, slots := 0, locals := 0 }, fun _ _ => True)
theorem plX6_shiftNumbers : pln jX6_shiftNumbers := ⟨by decide +kernel, rfl, rfl, rfl, fun _ _ => trivial⟩
set_option maxRecDepth 100000 in
theorem kbX6_shiftNumbers : KB jX6_shiftNumbers 0 := ⟨List.mem_filter.mpr ⟨List.mem_of_getElem? (i := 786) (by decide +kernel), by decide +kernel⟩, List.mem_filter.mpr ⟨List.mem_of_getElem? (i := 97) (by decide +kernel), by decide +kernel⟩, by decide +kernel⟩
abbrev jX7_init : MD := (RX7, yX7_init, cX7_init, 1, none, { frames := 0, cells := 0, slots := 0, locals := 0 }, fun _ _ => True)
theorem plX7_init : pln jX7_init := ⟨by decide +kernel, rfl, rfl, rfl, fun _ _ => trivial⟩
set_option maxRecDepth 100000 in
theorem kbX7_init : KB jX7_init 0 := ⟨List.mem_filter.mpr ⟨List.mem_of_getElem? (i := 200) (by decide +kernel), by decide +kernel⟩, List.mem_filter.mpr ⟨List.mem_of_getElem? (i := 93) (by decide +kernel), by decide +kernel⟩, by decide +kernel⟩
abbrev jX7_simplify : MD := (RX7, yX7_simplify, cX7_simplify, 8, none, { frames := 3, cells := 0, slots := 0, locals := 84 }, fun _ _ => True)
theorem plX7_simplify : pln jX7_simplify := ⟨by decide +kernel, rfl, rfl, rfl, fun _ _ => trivial⟩
set_option maxRecDepth 100000 in
theorem kbX7_simplify : KB jX7_simplify 3 := ⟨List.mem_filter.mpr ⟨List.mem_of_getElem? (i := 998) (by decide +kernel), by decide +kernel⟩, List.mem_filter.mpr ⟨List.mem_of_getElem? (i := 93) (by decide +kernel), by decide +kernel⟩, by decide +kernel⟩
abbrev jX7_nextKept : MD := (RX7, yX7_nextKept, cX7_nextKept, 3, some .int, { frames := 0, cells := 0, slots := 0, locals := 0 }, fun _ _ => True)
theorem plX7_nextKept : pln jX7_nextKept := ⟨by decide +kernel, rfl, rfl, rfl, fun _ _ => trivial⟩
set_option maxRecDepth 100000 in
theorem kbX7_nextKept : KB jX7_nextKept 1 := ⟨List.mem_filter.mpr ⟨List.mem_of_getElem? (i := 1004) (by decide +kernel), by decide +kernel⟩, List.mem_filter.mpr ⟨List.mem_of_getElem? (i := 93) (by decide +kernel), by decide +kernel⟩, by decide +kernel⟩
abbrev jX7_worstBetween : MD := (RX7, yX7_worstBetween, cX7_worstBetween, 11, some .int, { frames := 2, cells := 0, slots := 0, locals := 54 }, fun _ _ => True)
theorem plX7_worstBetween : pln jX7_worstBetween := ⟨by decide +kernel, rfl, rfl, rfl, fun _ _ => trivial⟩
set_option maxRecDepth 100000 in
theorem kbX7_worstBetween : KB jX7_worstBetween 4 := ⟨List.mem_filter.mpr ⟨List.mem_of_getElem? (i := 1008) (by decide +kernel), by decide +kernel⟩, List.mem_filter.mpr ⟨List.mem_of_getElem? (i := 93) (by decide +kernel), by decide +kernel⟩, by decide +kernel⟩
abbrev jX7_kept : MD := (RX7, yX7_kept, cX7_kept, 3, some .int, { frames := 0, cells := 0, slots := 0, locals := 0 }, fun _ _ => True)
theorem plX7_kept : pln jX7_kept := ⟨by decide +kernel, rfl, rfl, rfl, fun _ _ => trivial⟩
set_option maxRecDepth 100000 in
theorem kbX7_kept : KB jX7_kept 0 := ⟨List.mem_filter.mpr ⟨List.mem_of_getElem? (i := 1020) (by decide +kernel), by decide +kernel⟩, List.mem_filter.mpr ⟨List.mem_of_getElem? (i := 93) (by decide +kernel), by decide +kernel⟩, by decide +kernel⟩
abbrev jX7_keptVertex : MD := (RX7, yX7_keptVertex, cX7_keptVertex, 4, some .int, { frames := 0, cells := 0, slots := 0, locals := 0 }, fun _ _ => True)
theorem plX7_keptVertex : pln jX7_keptVertex := ⟨by decide +kernel, rfl, rfl, rfl, fun _ _ => trivial⟩
set_option maxRecDepth 100000 in
theorem kbX7_keptVertex : KB jX7_keptVertex 1 := ⟨List.mem_filter.mpr ⟨List.mem_of_getElem? (i := 1024) (by decide +kernel), by decide +kernel⟩, List.mem_filter.mpr ⟨List.mem_of_getElem? (i := 93) (by decide +kernel), by decide +kernel⟩, by decide +kernel⟩
abbrev jX8_init : MD := (RX8, yX8_init, cX8_init, 1, none, { frames := 0, cells := 0, slots := 0, locals := 0 }, fun _ _ => True)
theorem plX8_init : pln jX8_init := ⟨by decide +kernel, rfl, rfl, rfl, fun _ _ => trivial⟩
set_option maxRecDepth 100000 in
theorem kbX8_init : KB jX8_init 0 := ⟨List.mem_filter.mpr ⟨List.mem_of_getElem? (i := 358) (by decide +kernel), by decide +kernel⟩, List.mem_filter.mpr ⟨List.mem_of_getElem? (i := 98) (by decide +kernel), by decide +kernel⟩, by decide +kernel⟩
abbrev jX8_characterAt : MD := (RX8, yX8_characterAt, cX8_characterAt, 2, some .int, { frames := 0, cells := 0, slots := 0, locals := 0 }, fun _ _ => True)
theorem plX8_characterAt : pln jX8_characterAt := ⟨by decide +kernel, rfl, rfl, rfl, fun _ _ => trivial⟩
set_option maxRecDepth 100000 in
theorem kbX8_characterAt : KB jX8_characterAt 1 := ⟨List.mem_filter.mpr ⟨List.mem_of_getElem? (i := 850) (by decide +kernel), by decide +kernel⟩, List.mem_filter.mpr ⟨List.mem_of_getElem? (i := 98) (by decide +kernel), by decide +kernel⟩, by decide +kernel⟩
abbrev jX8_spellOut : MD := (RX8, yX8_spellOut, cX8_spellOut, 4, none, { frames := 5, cells := 0, slots := 0, locals := 106 }, fun _ _ => True)
theorem plX8_spellOut : pln jX8_spellOut := ⟨by decide +kernel, rfl, rfl, rfl, fun _ _ => trivial⟩
set_option maxRecDepth 100000 in
theorem kbX8_spellOut : KB jX8_spellOut 1 := ⟨List.mem_filter.mpr ⟨List.mem_of_getElem? (i := 809) (by decide +kernel), by decide +kernel⟩, List.mem_filter.mpr ⟨List.mem_of_getElem? (i := 98) (by decide +kernel), by decide +kernel⟩, by decide +kernel⟩
abbrev jX8_spellNumbers : MD := (RX8, yX8_spellNumbers, cX8_spellNumbers, 5, none, { frames := 2, cells := 0, slots := 0, locals := 63 }, fun _ _ => True)
theorem plX8_spellNumbers : pln jX8_spellNumbers := ⟨by decide +kernel, rfl, rfl, rfl, fun _ _ => trivial⟩
set_option maxRecDepth 100000 in
theorem kbX8_spellNumbers : KB jX8_spellNumbers 2 := ⟨List.mem_filter.mpr ⟨List.mem_of_getElem? (i := 839) (by decide +kernel), by decide +kernel⟩, List.mem_filter.mpr ⟨List.mem_of_getElem? (i := 98) (by decide +kernel), by decide +kernel⟩, by decide +kernel⟩
abbrev jX8_spellNumber : MD := (RX8, yX8_spellNumber, cX8_spellNumber, 4, none, { frames := 1, cells := 0, slots := 0, locals := 40 }, fun _ _ => True)
theorem plX8_spellNumber : pln jX8_spellNumber := ⟨by decide +kernel, rfl, rfl, rfl, fun _ _ => trivial⟩
set_option maxRecDepth 100000 in
theorem kbX8_spellNumber : KB jX8_spellNumber 1 := ⟨List.mem_filter.mpr ⟨List.mem_of_getElem? (i := 845) (by decide +kernel), by decide +kernel⟩, List.mem_filter.mpr ⟨List.mem_of_getElem? (i := 98) (by decide +kernel), by decide +kernel⟩, by decide +kernel⟩
abbrev jX8_append : MD := (RX8, yX8_append, cX8_append, 2, none, { frames := 0, cells := 0, slots := 0, locals := 0 }, fun _ _ => True)
theorem plX8_append : pln jX8_append := ⟨by decide +kernel, rfl, rfl, rfl, fun _ _ => trivial⟩
set_option maxRecDepth 100000 in
theorem kbX8_append : KB jX8_append 1 := ⟨List.mem_filter.mpr ⟨List.mem_of_getElem? (i := 835) (by decide +kernel), by decide +kernel⟩, List.mem_filter.mpr ⟨List.mem_of_getElem? (i := 98) (by decide +kernel), by decide +kernel⟩, by decide +kernel⟩
abbrev jX9_init : MD := (RX9, yX9_init, cX9_init, 1, none, { frames := 4, cells := 0, slots := 0, locals := 80 }, fun _ _ => True)
theorem plX9_init : pln jX9_init := ⟨by decide +kernel, rfl, rfl, rfl, fun _ _ => trivial⟩
set_option maxRecDepth 100000 in
theorem kbX9_init : KB jX9_init 0 := ⟨List.mem_filter.mpr ⟨List.mem_of_getElem? (i := 111) (by decide +kernel), by decide +kernel⟩, List.mem_filter.mpr ⟨List.mem_of_getElem? (i := 89) (by decide +kernel), by decide +kernel⟩, by decide +kernel⟩
abbrev jX9_move : MD := (RX9, yX9_move, cX9_move, 3, some .int, { frames := 3, cells := 0, slots := 0, locals := 76 }, fun _ _ => True)
theorem plX9_move : pln jX9_move := ⟨by decide +kernel, rfl, rfl, rfl, fun _ _ => trivial⟩
set_option maxRecDepth 100000 in
theorem kbX9_move : KB jX9_move 2 := ⟨List.mem_filter.mpr ⟨List.mem_of_getElem? (i := 411) (by decide +kernel), by decide +kernel⟩, List.mem_filter.mpr ⟨List.mem_of_getElem? (i := 89) (by decide +kernel), by decide +kernel⟩, by decide +kernel⟩
abbrev jX9_line : MD := (RX9, yX9_line, cX9_line, 3, some .int, { frames := 4, cells := 0, slots := 0, locals := 103 }, fun _ _ => True)
theorem plX9_line : pln jX9_line := ⟨by decide +kernel, rfl, rfl, rfl, fun _ _ => trivial⟩
set_option maxRecDepth 100000 in
theorem kbX9_line : KB jX9_line 2 := ⟨List.mem_filter.mpr ⟨List.mem_of_getElem? (i := 435) (by decide +kernel), by decide +kernel⟩, List.mem_filter.mpr ⟨List.mem_of_getElem? (i := 89) (by decide +kernel), by decide +kernel⟩, by decide +kernel⟩
abbrev jX9_quad : MD := (RX9, yX9_quad, cX9_quad, 5, some .int, { frames := 4, cells := 0, slots := 0, locals := 103 }, fun _ _ => True)
theorem plX9_quad : pln jX9_quad := ⟨by decide +kernel, rfl, rfl, rfl, fun _ _ => trivial⟩
set_option maxRecDepth 100000 in
theorem kbX9_quad : KB jX9_quad 4 := ⟨List.mem_filter.mpr ⟨List.mem_of_getElem? (i := 448) (by decide +kernel), by decide +kernel⟩, List.mem_filter.mpr ⟨List.mem_of_getElem? (i := 89) (by decide +kernel), by decide +kernel⟩, by decide +kernel⟩
abbrev jX9_cubic : MD := (RX9, yX9_cubic, cX9_cubic, 7, some .int, { frames := 4, cells := 0, slots := 0, locals := 103 }, fun _ _ => True)
theorem plX9_cubic : pln jX9_cubic := ⟨by decide +kernel, rfl, rfl, rfl, fun _ _ => trivial⟩
set_option maxRecDepth 100000 in
theorem kbX9_cubic : KB jX9_cubic 6 := ⟨List.mem_filter.mpr ⟨List.mem_of_getElem? (i := 452) (by decide +kernel), by decide +kernel⟩, List.mem_filter.mpr ⟨List.mem_of_getElem? (i := 89) (by decide +kernel), by decide +kernel⟩, by decide +kernel⟩
abbrev jX9_close : MD := (RX9, yX9_close, cX9_close, 2, some .int, { frames := 4, cells := 0, slots := 0, locals := 103 }, fun _ _ => True)
theorem plX9_close : pln jX9_close := ⟨by decide +kernel, rfl, rfl, rfl, fun _ _ => trivial⟩
set_option maxRecDepth 100000 in
theorem kbX9_close : KB jX9_close 0 := ⟨List.mem_filter.mpr ⟨List.mem_of_getElem? (i := 456) (by decide +kernel), by decide +kernel⟩, List.mem_filter.mpr ⟨List.mem_of_getElem? (i := 89) (by decide +kernel), by decide +kernel⟩, by decide +kernel⟩
abbrev jX9_removeLast : MD := (RX9, yX9_removeLast, cX9_removeLast, 1, some .int, { frames := 1, cells := 0, slots := 0, locals := 20 }, fun _ _ => True)
theorem plX9_removeLast : pln jX9_removeLast := ⟨by decide +kernel, rfl, rfl, rfl, fun _ _ => trivial⟩
set_option maxRecDepth 100000 in
theorem kbX9_removeLast : KB jX9_removeLast 0 := ⟨List.mem_filter.mpr ⟨List.mem_of_getElem? (i := 486) (by decide +kernel), by decide +kernel⟩, List.mem_filter.mpr ⟨List.mem_of_getElem? (i := 89) (by decide +kernel), by decide +kernel⟩, by decide +kernel⟩
abbrev jX9_command : MD := (RX9, yX9_command, cX9_command, 3, some .int, { frames := 6, cells := 0, slots := 0, locals := 158 }, fun _ _ => True)
theorem plX9_command : pln jX9_command := ⟨by decide +kernel, rfl, rfl, rfl, fun _ _ => trivial⟩
set_option maxRecDepth 100000 in
theorem kbX9_command : KB jX9_command 2 := ⟨List.mem_filter.mpr ⟨List.mem_of_getElem? (i := 494) (by decide +kernel), by decide +kernel⟩, List.mem_filter.mpr ⟨List.mem_of_getElem? (i := 89) (by decide +kernel), by decide +kernel⟩, by decide +kernel⟩
abbrev jX9_setTolerance : MD := (RX9, yX9_setTolerance, cX9_setTolerance, 3, some .int, { frames := 1, cells := 0, slots := 0, locals := 22 }, fun _ _ => True)
theorem plX9_setTolerance : pln jX9_setTolerance := ⟨by decide +kernel, rfl, rfl, rfl, fun _ _ => trivial⟩
set_option maxRecDepth 100000 in
theorem kbX9_setTolerance : KB jX9_setTolerance 1 := ⟨List.mem_filter.mpr ⟨List.mem_of_getElem? (i := 581) (by decide +kernel), by decide +kernel⟩, List.mem_filter.mpr ⟨List.mem_of_getElem? (i := 89) (by decide +kernel), by decide +kernel⟩, by decide +kernel⟩
abbrev jX9_reverse : MD := (RX9, yX9_reverse, cX9_reverse, 2, some .int, { frames := 5, cells := 0, slots := 0, locals := 115 }, fun _ _ => True)
theorem plX9_reverse : pln jX9_reverse := ⟨by decide +kernel, rfl, rfl, rfl, fun _ _ => trivial⟩
set_option maxRecDepth 100000 in
theorem kbX9_reverse : KB jX9_reverse 1 := ⟨List.mem_filter.mpr ⟨List.mem_of_getElem? (i := 585) (by decide +kernel), by decide +kernel⟩, List.mem_filter.mpr ⟨List.mem_of_getElem? (i := 89) (by decide +kernel), by decide +kernel⟩, by decide +kernel⟩
abbrev jX9_transform : MD := (RX9, yX9_transform, cX9_transform, 8, some .int, { frames := 3, cells := 0, slots := 0, locals := 91 }, fun _ _ => True)
theorem plX9_transform : pln jX9_transform := ⟨by decide +kernel, rfl, rfl, rfl, fun _ _ => trivial⟩
set_option maxRecDepth 100000 in
theorem kbX9_transform : KB jX9_transform 6 := ⟨List.mem_filter.mpr ⟨List.mem_of_getElem? (i := 625) (by decide +kernel), by decide +kernel⟩, List.mem_filter.mpr ⟨List.mem_of_getElem? (i := 89) (by decide +kernel), by decide +kernel⟩, by decide +kernel⟩
abbrev jX9_say : MD := (RX9, yX9_say, cX9_say, 2, some .int, { frames := 1, cells := 0, slots := 0, locals := 22 }, fun _ _ => True)
theorem plX9_say : pln jX9_say := ⟨by decide +kernel, rfl, rfl, rfl, fun _ _ => trivial⟩
set_option maxRecDepth 100000 in
theorem kbX9_say : KB jX9_say 1 := ⟨List.mem_filter.mpr ⟨List.mem_of_getElem? (i := 639) (by decide +kernel), by decide +kernel⟩, List.mem_filter.mpr ⟨List.mem_of_getElem? (i := 89) (by decide +kernel), by decide +kernel⟩, by decide +kernel⟩
abbrev jX9_wipe : MD := (RX9, yX9_wipe, cX9_wipe, 2, some .int, { frames := 0, cells := 0, slots := 0, locals := 0 }, fun _ _ => True)
theorem plX9_wipe : pln jX9_wipe := ⟨by decide +kernel, rfl, rfl, rfl, fun _ _ => trivial⟩
set_option maxRecDepth 100000 in
theorem kbX9_wipe : KB jX9_wipe 0 := ⟨List.mem_filter.mpr ⟨List.mem_of_getElem? (i := 647) (by decide +kernel), by decide +kernel⟩, List.mem_filter.mpr ⟨List.mem_of_getElem? (i := 89) (by decide +kernel), by decide +kernel⟩, by decide +kernel⟩
abbrev jX9_fault : MD := (RX9, yX9_fault, cX9_fault, 1, some .int, { frames := 10, cells := 0, slots := 0, locals := 227 }, fun _ _ => True)
theorem plX9_fault : pln jX9_fault := ⟨by decide +kernel, rfl, rfl, rfl, fun _ _ => trivial⟩
set_option maxRecDepth 100000 in
theorem kbX9_fault : KB jX9_fault 0 := ⟨List.mem_filter.mpr ⟨List.mem_of_getElem? (i := 651) (by decide +kernel), by decide +kernel⟩, List.mem_filter.mpr ⟨List.mem_of_getElem? (i := 89) (by decide +kernel), by decide +kernel⟩, by decide +kernel⟩
abbrev jX9_load : MD := (RX9, yX9_load, cX9_load, 1, some .int, { frames := 10, cells := 0, slots := 0, locals := 227 }, fun _ _ => True)
theorem plX9_load : pln jX9_load := ⟨by decide +kernel, rfl, rfl, rfl, fun _ _ => trivial⟩
set_option maxRecDepth 100000 in
theorem kbX9_load : KB jX9_load 0 := ⟨List.mem_filter.mpr ⟨List.mem_of_getElem? (i := 795) (by decide +kernel), by decide +kernel⟩, List.mem_filter.mpr ⟨List.mem_of_getElem? (i := 89) (by decide +kernel), by decide +kernel⟩, by decide +kernel⟩
abbrev jX9_spell : MD := (RX9, yX9_spell, cX9_spell, 2, some .int, { frames := 6, cells := 0, slots := 0, locals := 129 }, fun _ _ => True)
theorem plX9_spell : pln jX9_spell := ⟨by decide +kernel, rfl, rfl, rfl, fun _ _ => trivial⟩
set_option maxRecDepth 100000 in
theorem kbX9_spell : KB jX9_spell 1 := ⟨List.mem_filter.mpr ⟨List.mem_of_getElem? (i := 805) (by decide +kernel), by decide +kernel⟩, List.mem_filter.mpr ⟨List.mem_of_getElem? (i := 89) (by decide +kernel), by decide +kernel⟩, by decide +kernel⟩
abbrev jX9_measure : MD := (RX9, yX9_measure, cX9_measure, 6, some .int, { frames := 6, cells := 0, slots := 0, locals := 158 }, fun _ _ => True)
theorem plX9_measure : pln jX9_measure := ⟨by decide +kernel, rfl, rfl, rfl, fun _ _ => trivial⟩
set_option maxRecDepth 100000 in
theorem kbX9_measure : KB jX9_measure 2 := ⟨List.mem_filter.mpr ⟨List.mem_of_getElem? (i := 855) (by decide +kernel), by decide +kernel⟩, List.mem_filter.mpr ⟨List.mem_of_getElem? (i := 89) (by decide +kernel), by decide +kernel⟩, by decide +kernel⟩
abbrev jX9_vertex : MD := (RX9, yX9_vertex, cX9_vertex, 5, some .int, { frames := 6, cells := 0, slots := 0, locals := 158 }, fun _ _ => True)
theorem plX9_vertex : pln jX9_vertex := ⟨by decide +kernel, rfl, rfl, rfl, fun _ _ => trivial⟩
set_option maxRecDepth 100000 in
theorem kbX9_vertex : KB jX9_vertex 3 := ⟨List.mem_filter.mpr ⟨List.mem_of_getElem? (i := 892) (by decide +kernel), by decide +kernel⟩, List.mem_filter.mpr ⟨List.mem_of_getElem? (i := 89) (by decide +kernel), by decide +kernel⟩, by decide +kernel⟩
abbrev jX9_at : MD := (RX9, yX9_at, cX9_at, 5, some .int, { frames := 6, cells := 0, slots := 0, locals := 158 }, fun _ _ => True)
theorem plX9_at : pln jX9_at := ⟨by decide +kernel, rfl, rfl, rfl, fun _ _ => trivial⟩
set_option maxRecDepth 100000 in
theorem kbX9_at : KB jX9_at 3 := ⟨List.mem_filter.mpr ⟨List.mem_of_getElem? (i := 903) (by decide +kernel), by decide +kernel⟩, List.mem_filter.mpr ⟨List.mem_of_getElem? (i := 89) (by decide +kernel), by decide +kernel⟩, by decide +kernel⟩
abbrev jX9_nearest : MD := (RX9, yX9_nearest, cX9_nearest, 5, some .int, { frames := 6, cells := 0, slots := 0, locals := 158 }, fun _ _ => True)
theorem plX9_nearest : pln jX9_nearest := ⟨by decide +kernel, rfl, rfl, rfl, fun _ _ => trivial⟩
set_option maxRecDepth 100000 in
theorem kbX9_nearest : KB jX9_nearest 3 := ⟨List.mem_filter.mpr ⟨List.mem_of_getElem? (i := 932) (by decide +kernel), by decide +kernel⟩, List.mem_filter.mpr ⟨List.mem_of_getElem? (i := 89) (by decide +kernel), by decide +kernel⟩, by decide +kernel⟩
abbrev jX9_winding : MD := (RX9, yX9_winding, cX9_winding, 3, some .int, { frames := 6, cells := 0, slots := 0, locals := 158 }, fun _ _ => True)
theorem plX9_winding : pln jX9_winding := ⟨by decide +kernel, rfl, rfl, rfl, fun _ _ => trivial⟩
set_option maxRecDepth 100000 in
theorem kbX9_winding : KB jX9_winding 2 := ⟨List.mem_filter.mpr ⟨List.mem_of_getElem? (i := 955) (by decide +kernel), by decide +kernel⟩, List.mem_filter.mpr ⟨List.mem_of_getElem? (i := 89) (by decide +kernel), by decide +kernel⟩, by decide +kernel⟩
abbrev jX9_area : MD := (RX9, yX9_area, cX9_area, 2, some .long, { frames := 6, cells := 0, slots := 0, locals := 158 }, fun _ _ => True)
theorem plX9_area : pln jX9_area := ⟨by decide +kernel, rfl, rfl, rfl, fun _ _ => trivial⟩
set_option maxRecDepth 100000 in
theorem kbX9_area : KB jX9_area 1 := ⟨List.mem_filter.mpr ⟨List.mem_of_getElem? (i := 971) (by decide +kernel), by decide +kernel⟩, List.mem_filter.mpr ⟨List.mem_of_getElem? (i := 89) (by decide +kernel), by decide +kernel⟩, by decide +kernel⟩
abbrev jX9_bound : MD := (RX9, yX9_bound, cX9_bound, 7, some .int, { frames := 6, cells := 0, slots := 0, locals := 158 }, fun _ _ => True)
theorem plX9_bound : pln jX9_bound := ⟨by decide +kernel, rfl, rfl, rfl, fun _ _ => trivial⟩
set_option maxRecDepth 100000 in
theorem kbX9_bound : KB jX9_bound 2 := ⟨List.mem_filter.mpr ⟨List.mem_of_getElem? (i := 984) (by decide +kernel), by decide +kernel⟩, List.mem_filter.mpr ⟨List.mem_of_getElem? (i := 89) (by decide +kernel), by decide +kernel⟩, by decide +kernel⟩
abbrev jX9_simplified : MD := (RX9, yX9_simplified, cX9_simplified, 4, some .int, { frames := 6, cells := 0, slots := 0, locals := 158 }, fun _ _ => True)
theorem plX9_simplified : pln jX9_simplified := ⟨by decide +kernel, rfl, rfl, rfl, fun _ _ => trivial⟩
set_option maxRecDepth 100000 in
theorem kbX9_simplified : KB jX9_simplified 3 := ⟨List.mem_filter.mpr ⟨List.mem_of_getElem? (i := 994) (by decide +kernel), by decide +kernel⟩, List.mem_filter.mpr ⟨List.mem_of_getElem? (i := 89) (by decide +kernel), by decide +kernel⟩, by decide +kernel⟩
abbrev jX9_addDash : MD := (RX9, yX9_addDash, cX9_addDash, 2, some .int, { frames := 1, cells := 0, slots := 0, locals := 22 }, fun _ _ => True)
theorem plX9_addDash : pln jX9_addDash := ⟨by decide +kernel, rfl, rfl, rfl, fun _ _ => trivial⟩
set_option maxRecDepth 100000 in
theorem kbX9_addDash : KB jX9_addDash 1 := ⟨List.mem_filter.mpr ⟨List.mem_of_getElem? (i := 1029) (by decide +kernel), by decide +kernel⟩, List.mem_filter.mpr ⟨List.mem_of_getElem? (i := 89) (by decide +kernel), by decide +kernel⟩, by decide +kernel⟩
abbrev jX9_clearDashes : MD := (RX9, yX9_clearDashes, cX9_clearDashes, 3, some .int, { frames := 1, cells := 0, slots := 0, locals := 22 }, fun _ _ => True)
theorem plX9_clearDashes : pln jX9_clearDashes := ⟨by decide +kernel, rfl, rfl, rfl, fun _ _ => trivial⟩
set_option maxRecDepth 100000 in
theorem kbX9_clearDashes : KB jX9_clearDashes 1 := ⟨List.mem_filter.mpr ⟨List.mem_of_getElem? (i := 1038) (by decide +kernel), by decide +kernel⟩, List.mem_filter.mpr ⟨List.mem_of_getElem? (i := 89) (by decide +kernel), by decide +kernel⟩, by decide +kernel⟩
abbrev jX9_dash : MD := (RX9, yX9_dash, cX9_dash, 5, some .int, { frames := 6, cells := 0, slots := 0, locals := 158 }, fun _ _ => True)
theorem plX9_dash : pln jX9_dash := ⟨by decide +kernel, rfl, rfl, rfl, fun _ _ => trivial⟩
set_option maxRecDepth 100000 in
theorem kbX9_dash : KB jX9_dash 3 := ⟨List.mem_filter.mpr ⟨List.mem_of_getElem? (i := 1042) (by decide +kernel), by decide +kernel⟩, List.mem_filter.mpr ⟨List.mem_of_getElem? (i := 89) (by decide +kernel), by decide +kernel⟩, by decide +kernel⟩
abbrev jX9_setWidth : MD := (RX9, yX9_setWidth, cX9_setWidth, 3, some .int, { frames := 2, cells := 0, slots := 0, locals := 43 }, fun _ _ => True)
theorem plX9_setWidth : pln jX9_setWidth := ⟨by decide +kernel, rfl, rfl, rfl, fun _ _ => trivial⟩
set_option maxRecDepth 100000 in
theorem kbX9_setWidth : KB jX9_setWidth 2 := ⟨List.mem_filter.mpr ⟨List.mem_of_getElem? (i := 1073) (by decide +kernel), by decide +kernel⟩, List.mem_filter.mpr ⟨List.mem_of_getElem? (i := 89) (by decide +kernel), by decide +kernel⟩, by decide +kernel⟩
abbrev jX9_setKerning : MD := (RX9, yX9_setKerning, cX9_setKerning, 4, some .int, { frames := 4, cells := 0, slots := 0, locals := 87 }, fun _ _ => True)
theorem plX9_setKerning : pln jX9_setKerning := ⟨by decide +kernel, rfl, rfl, rfl, fun _ _ => trivial⟩
set_option maxRecDepth 100000 in
theorem kbX9_setKerning : KB jX9_setKerning 3 := ⟨List.mem_filter.mpr ⟨List.mem_of_getElem? (i := 1086) (by decide +kernel), by decide +kernel⟩, List.mem_filter.mpr ⟨List.mem_of_getElem? (i := 89) (by decide +kernel), by decide +kernel⟩, by decide +kernel⟩
abbrev jX9_write : MD := (RX9, yX9_write, cX9_write, 2, some .int, { frames := 2, cells := 0, slots := 0, locals := 41 }, fun _ _ => True)
theorem plX9_write : pln jX9_write := ⟨by decide +kernel, rfl, rfl, rfl, fun _ _ => trivial⟩
set_option maxRecDepth 100000 in
theorem kbX9_write : KB jX9_write 1 := ⟨List.mem_filter.mpr ⟨List.mem_of_getElem? (i := 1103) (by decide +kernel), by decide +kernel⟩, List.mem_filter.mpr ⟨List.mem_of_getElem? (i := 89) (by decide +kernel), by decide +kernel⟩, by decide +kernel⟩
abbrev jX9_erase : MD := (RX9, yX9_erase, cX9_erase, 2, some .int, { frames := 0, cells := 0, slots := 0, locals := 0 }, fun _ _ => True)
theorem plX9_erase : pln jX9_erase := ⟨by decide +kernel, rfl, rfl, rfl, fun _ _ => trivial⟩
set_option maxRecDepth 100000 in
theorem kbX9_erase : KB jX9_erase 0 := ⟨List.mem_filter.mpr ⟨List.mem_of_getElem? (i := 1111) (by decide +kernel), by decide +kernel⟩, List.mem_filter.mpr ⟨List.mem_of_getElem? (i := 89) (by decide +kernel), by decide +kernel⟩, by decide +kernel⟩
abbrev jX9_arrange : MD := (RX9, yX9_arrange, cX9_arrange, 4, some .int, { frames := 1, cells := 0, slots := 0, locals := 22 }, fun _ _ => True)
theorem plX9_arrange : pln jX9_arrange := ⟨by decide +kernel, rfl, rfl, rfl, fun _ _ => trivial⟩
set_option maxRecDepth 100000 in
theorem kbX9_arrange : KB jX9_arrange 3 := ⟨List.mem_filter.mpr ⟨List.mem_of_getElem? (i := 1115) (by decide +kernel), by decide +kernel⟩, List.mem_filter.mpr ⟨List.mem_of_getElem? (i := 89) (by decide +kernel), by decide +kernel⟩, by decide +kernel⟩
abbrev jX9_letter : MD := (RX9, yX9_letter, cX9_letter, 5, some .int, { frames := 6, cells := 0, slots := 0, locals := 158 }, fun _ _ => True)
theorem plX9_letter : pln jX9_letter := ⟨by decide +kernel, rfl, rfl, rfl, fun _ _ => trivial⟩
set_option maxRecDepth 100000 in
theorem kbX9_letter : KB jX9_letter 3 := ⟨List.mem_filter.mpr ⟨List.mem_of_getElem? (i := 1119) (by decide +kernel), by decide +kernel⟩, List.mem_filter.mpr ⟨List.mem_of_getElem? (i := 89) (by decide +kernel), by decide +kernel⟩, by decide +kernel⟩
abbrev jX9_placed : MD := (RX9, yX9_placed, cX9_placed, 4, some .int, { frames := 6, cells := 0, slots := 0, locals := 158 }, fun _ _ => True)
theorem plX9_placed : pln jX9_placed := ⟨by decide +kernel, rfl, rfl, rfl, fun _ _ => trivial⟩
set_option maxRecDepth 100000 in
theorem kbX9_placed : KB jX9_placed 2 := ⟨List.mem_filter.mpr ⟨List.mem_of_getElem? (i := 1172) (by decide +kernel), by decide +kernel⟩, List.mem_filter.mpr ⟨List.mem_of_getElem? (i := 89) (by decide +kernel), by decide +kernel⟩, by decide +kernel⟩
abbrev jX9_count : MD := (RX9, yX9_count, cX9_count, 2, some .int, { frames := 0, cells := 0, slots := 0, locals := 0 }, fun _ _ => True)
theorem plX9_count : pln jX9_count := ⟨by decide +kernel, rfl, rfl, rfl, fun _ _ => trivial⟩
set_option maxRecDepth 100000 in
theorem kbX9_count : KB jX9_count 1 := ⟨List.mem_filter.mpr ⟨List.mem_of_getElem? (i := 1189) (by decide +kernel), by decide +kernel⟩, List.mem_filter.mpr ⟨List.mem_of_getElem? (i := 89) (by decide +kernel), by decide +kernel⟩, by decide +kernel⟩
abbrev jX9_save : MD := (RX9, yX9_save, cX9_save, 2, some .int, { frames := 2, cells := 0, slots := 0, locals := 61 }, fun _ _ => True)
theorem plX9_save : pln jX9_save := ⟨by decide +kernel, rfl, rfl, rfl, fun _ _ => trivial⟩
set_option maxRecDepth 100000 in
theorem kbX9_save : KB jX9_save 1 := ⟨List.mem_filter.mpr ⟨List.mem_of_getElem? (i := 1193) (by decide +kernel), by decide +kernel⟩, List.mem_filter.mpr ⟨List.mem_of_getElem? (i := 89) (by decide +kernel), by decide +kernel⟩, by decide +kernel⟩
abbrev jX9_restore : MD := (RX9, yX9_restore, cX9_restore, 2, some .int, { frames := 2, cells := 0, slots := 0, locals := 61 }, fun _ _ => True)
theorem plX9_restore : pln jX9_restore := ⟨by decide +kernel, rfl, rfl, rfl, fun _ _ => trivial⟩
set_option maxRecDepth 100000 in
theorem kbX9_restore : KB jX9_restore 1 := ⟨List.mem_filter.mpr ⟨List.mem_of_getElem? (i := 1201) (by decide +kernel), by decide +kernel⟩, List.mem_filter.mpr ⟨List.mem_of_getElem? (i := 89) (by decide +kernel), by decide +kernel⟩, by decide +kernel⟩
abbrev jX9_savedIn : MD := (RX9, yX9_savedIn, cX9_savedIn, 2, some (.object "PathFlattener$Path"), { frames := 0, cells := 0, slots := 0, locals := 0 }, fun _ _ => True)
theorem plX9_savedIn : pln jX9_savedIn := ⟨by decide +kernel, rfl, rfl, rfl, fun _ _ => trivial⟩
set_option maxRecDepth 100000 in
theorem kbX9_savedIn : KB jX9_savedIn 1 := ⟨List.mem_filter.mpr ⟨List.mem_of_getElem? (i := 1197) (by decide +kernel), by decide +kernel⟩, List.mem_filter.mpr ⟨List.mem_of_getElem? (i := 89) (by decide +kernel), by decide +kernel⟩, by decide +kernel⟩
abbrev jX9_goOn : MD := (RX9, yX9_goOn, cX9_goOn, 8, some .int, { frames := 3, cells := 0, slots := 0, locals := 76 }, fun _ _ => True)
theorem plX9_goOn : pln jX9_goOn := ⟨by decide +kernel, rfl, rfl, rfl, fun _ _ => trivial⟩
set_option maxRecDepth 100000 in
theorem kbX9_goOn : KB jX9_goOn 7 := ⟨List.mem_filter.mpr ⟨List.mem_of_getElem? (i := 439) (by decide +kernel), by decide +kernel⟩, List.mem_filter.mpr ⟨List.mem_of_getElem? (i := 89) (by decide +kernel), by decide +kernel⟩, by decide +kernel⟩
abbrev jX9_append : MD := (RX9, yX9_append, cX9_append, 8, some .int, { frames := 2, cells := 0, slots := 0, locals := 49 }, fun _ _ => True)
theorem plX9_append : pln jX9_append := ⟨by decide +kernel, rfl, rfl, rfl, fun _ _ => trivial⟩
set_option maxRecDepth 100000 in
theorem kbX9_append : KB jX9_append 7 := ⟨List.mem_filter.mpr ⟨List.mem_of_getElem? (i := 422) (by decide +kernel), by decide +kernel⟩, List.mem_filter.mpr ⟨List.mem_of_getElem? (i := 89) (by decide +kernel), by decide +kernel⟩, by decide +kernel⟩
abbrev jX9_flattened : MD := (RX9, yX9_flattened, cX9_flattened, 1, some (.object "PathFlattener$Flat"), { frames := 5, cells := 0, slots := 0, locals := 138 }, fun _ _ => True)
theorem plX9_flattened : pln jX9_flattened := ⟨by decide +kernel, rfl, rfl, rfl, fun _ _ => trivial⟩
set_option maxRecDepth 100000 in
theorem kbX9_flattened : KB jX9_flattened 0 := ⟨List.mem_filter.mpr ⟨List.mem_of_getElem? (i := 504) (by decide +kernel), by decide +kernel⟩, List.mem_filter.mpr ⟨List.mem_of_getElem? (i := 89) (by decide +kernel), by decide +kernel⟩, by decide +kernel⟩
abbrev jX9_isContour : MD := (RX9, yX9_isContour, cX9_isContour, 2, some .boolean, { frames := 0, cells := 0, slots := 0, locals := 0 }, fun _ _ => True)
theorem plX9_isContour : pln jX9_isContour := ⟨by decide +kernel, rfl, rfl, rfl, fun _ _ => trivial⟩
set_option maxRecDepth 100000 in
theorem kbX9_isContour : KB jX9_isContour 1 := ⟨List.mem_filter.mpr ⟨List.mem_of_getElem? (i := 589) (by decide +kernel), by decide +kernel⟩, List.mem_filter.mpr ⟨List.mem_of_getElem? (i := 89) (by decide +kernel), by decide +kernel⟩, by decide +kernel⟩
abbrev jX9_isLetter : MD := (RX9, yX9_isLetter, cX9_isLetter, 1, some .boolean, { frames := 0, cells := 0, slots := 0, locals := 0 }, fun _ _ => True)
theorem plX9_isLetter : pln jX9_isLetter := ⟨by decide +kernel, rfl, rfl, rfl, fun _ _ => trivial⟩
set_option maxRecDepth 100000 in
theorem kbX9_isLetter : KB jX9_isLetter 1 := ⟨List.mem_filter.mpr ⟨List.mem_of_getElem? (i := 1076) (by decide +kernel), by decide +kernel⟩, List.mem_filter.mpr ⟨List.mem_of_getElem? (i := 89) (by decide +kernel), by decide +kernel⟩, by decide +kernel⟩
abbrev jX9_fits : MD := (RX9, yX9_fits, cX9_fits, 1, some .boolean, { frames := 1, cells := 0, slots := 0, locals := 22 }, fun _ _ => True)
theorem plX9_fits : pln jX9_fits := ⟨by decide +kernel, rfl, rfl, rfl, fun _ _ => trivial⟩
set_option maxRecDepth 100000 in
theorem kbX9_fits : KB jX9_fits 1 := ⟨List.mem_filter.mpr ⟨List.mem_of_getElem? (i := 414) (by decide +kernel), by decide +kernel⟩, List.mem_filter.mpr ⟨List.mem_of_getElem? (i := 89) (by decide +kernel), by decide +kernel⟩, by decide +kernel⟩
abbrev jX9_between : MD := (RX9, yX9_between, cX9_between, 3, some .boolean, { frames := 0, cells := 0, slots := 0, locals := 0 }, fun _ _ => True)
theorem plX9_between : pln jX9_between := ⟨by decide +kernel, rfl, rfl, rfl, fun _ _ => trivial⟩
set_option maxRecDepth 100000 in
theorem kbX9_between : KB jX9_between 3 := ⟨List.mem_filter.mpr ⟨List.mem_of_getElem? (i := 417) (by decide +kernel), by decide +kernel⟩, List.mem_filter.mpr ⟨List.mem_of_getElem? (i := 89) (by decide +kernel), by decide +kernel⟩, by decide +kernel⟩
abbrev jX10_init : MD := (RX10, yX10_init, cX10_init, 2, none, { frames := 0, cells := 0, slots := 0, locals := 0 }, fun _ _ => True)
theorem plX10_init : pln jX10_init := ⟨by decide +kernel, rfl, rfl, rfl, fun _ _ => trivial⟩
set_option maxRecDepth 100000 in
theorem kbX10_init : KB jX10_init 0 := ⟨List.mem_filter.mpr ⟨List.mem_of_getElem? (i := 1206) (by decide +kernel), by decide +kernel⟩, List.mem_filter.mpr ⟨List.mem_of_getElem? (i := 99) (by decide +kernel), by decide +kernel⟩, by decide +kernel⟩
abbrev jX10_in : MD := (RX10, yX10_in, cX10_in, 3, some .boolean, { frames := 0, cells := 0, slots := 0, locals := 0 }, fun _ _ => True)
theorem plX10_in : pln jX10_in := ⟨by decide +kernel, rfl, rfl, rfl, fun _ _ => trivial⟩
set_option maxRecDepth 100000 in
theorem kbX10_in : KB jX10_in 3 := ⟨List.mem_filter.mpr ⟨List.mem_of_getElem? (i := 1351) (by decide +kernel), by decide +kernel⟩, List.mem_filter.mpr ⟨List.mem_of_getElem? (i := 99) (by decide +kernel), by decide +kernel⟩, by decide +kernel⟩
abbrev jX10_isPlace : MD := (RX10, yX10_isPlace, cX10_isPlace, 1, some .boolean, { frames := 1, cells := 0, slots := 0, locals := 22 }, fun _ _ => True)
theorem plX10_isPlace : pln jX10_isPlace := ⟨by decide +kernel, rfl, rfl, rfl, fun _ _ => trivial⟩
set_option maxRecDepth 100000 in
theorem kbX10_isPlace : KB jX10_isPlace 1 := ⟨List.mem_filter.mpr ⟨List.mem_of_getElem? (i := 1348) (by decide +kernel), by decide +kernel⟩, List.mem_filter.mpr ⟨List.mem_of_getElem? (i := 99) (by decide +kernel), by decide +kernel⟩, by decide +kernel⟩
abbrev jX10_size : MD := (RX10, yX10_size, cX10_size, 1, some .int, { frames := 0, cells := 0, slots := 0, locals := 0 }, fun _ _ => True)
theorem plX10_size : pln jX10_size := ⟨by decide +kernel, rfl, rfl, rfl, fun _ _ => trivial⟩
set_option maxRecDepth 100000 in
theorem kbX10_size : KB jX10_size 1 := ⟨List.mem_filter.mpr ⟨List.mem_of_getElem? (i := 1432) (by decide +kernel), by decide +kernel⟩, List.mem_filter.mpr ⟨List.mem_of_getElem? (i := 99) (by decide +kernel), by decide +kernel⟩, by decide +kernel⟩
abbrev jX10_kind : MD := (RX10, yX10_kind, cX10_kind, 2, some .int, { frames := 0, cells := 0, slots := 0, locals := 0 }, fun _ _ => True)
theorem plX10_kind : pln jX10_kind := ⟨by decide +kernel, rfl, rfl, rfl, fun _ _ => trivial⟩
set_option maxRecDepth 100000 in
theorem kbX10_kind : KB jX10_kind 1 := ⟨List.mem_filter.mpr ⟨List.mem_of_getElem? (i := 1360) (by decide +kernel), by decide +kernel⟩, List.mem_filter.mpr ⟨List.mem_of_getElem? (i := 99) (by decide +kernel), by decide +kernel⟩, by decide +kernel⟩
abbrev jX10_many : MD := (RX10, yX10_many, cX10_many, 1, some .int, { frames := 0, cells := 0, slots := 0, locals := 0 }, fun _ _ => True)
theorem plX10_many : pln jX10_many := ⟨by decide +kernel, rfl, rfl, rfl, fun _ _ => trivial⟩
set_option maxRecDepth 100000 in
theorem kbX10_many : KB jX10_many 0 := ⟨List.mem_filter.mpr ⟨List.mem_of_getElem? (i := 1356) (by decide +kernel), by decide +kernel⟩, List.mem_filter.mpr ⟨List.mem_of_getElem? (i := 99) (by decide +kernel), by decide +kernel⟩, by decide +kernel⟩
abbrev jX10_append : MD := (RX10, yX10_append, cX10_append, 9, some .int, { frames := 2, cells := 0, slots := 0, locals := 42 }, fun _ _ => True)
theorem plX10_append : pln jX10_append := ⟨by decide +kernel, rfl, rfl, rfl, fun _ _ => trivial⟩
set_option maxRecDepth 100000 in
theorem kbX10_append : KB jX10_append 7 := ⟨List.mem_filter.mpr ⟨List.mem_of_getElem? (i := 1345) (by decide +kernel), by decide +kernel⟩, List.mem_filter.mpr ⟨List.mem_of_getElem? (i := 99) (by decide +kernel), by decide +kernel⟩, by decide +kernel⟩
abbrev jX10_move : MD := (RX10, yX10_move, cX10_move, 3, some .int, { frames := 3, cells := 0, slots := 0, locals := 70 }, fun _ _ => True)
theorem plX10_move : pln jX10_move := ⟨by decide +kernel, rfl, rfl, rfl, fun _ _ => trivial⟩
set_option maxRecDepth 100000 in
theorem kbX10_move : KB jX10_move 2 := ⟨List.mem_filter.mpr ⟨List.mem_of_getElem? (i := 1341) (by decide +kernel), by decide +kernel⟩, List.mem_filter.mpr ⟨List.mem_of_getElem? (i := 99) (by decide +kernel), by decide +kernel⟩, by decide +kernel⟩
abbrev jX10_line : MD := (RX10, yX10_line, cX10_line, 3, some .int, { frames := 3, cells := 0, slots := 0, locals := 70 }, fun _ _ => True)
theorem plX10_line : pln jX10_line := ⟨by decide +kernel, rfl, rfl, rfl, fun _ _ => trivial⟩
set_option maxRecDepth 100000 in
theorem kbX10_line : KB jX10_line 2 := ⟨List.mem_filter.mpr ⟨List.mem_of_getElem? (i := 1366) (by decide +kernel), by decide +kernel⟩, List.mem_filter.mpr ⟨List.mem_of_getElem? (i := 99) (by decide +kernel), by decide +kernel⟩, by decide +kernel⟩
abbrev jX10_quad : MD := (RX10, yX10_quad, cX10_quad, 5, some .int, { frames := 3, cells := 0, slots := 0, locals := 70 }, fun _ _ => True)
theorem plX10_quad : pln jX10_quad := ⟨by decide +kernel, rfl, rfl, rfl, fun _ _ => trivial⟩
set_option maxRecDepth 100000 in
theorem kbX10_quad : KB jX10_quad 4 := ⟨List.mem_filter.mpr ⟨List.mem_of_getElem? (i := 1370) (by decide +kernel), by decide +kernel⟩, List.mem_filter.mpr ⟨List.mem_of_getElem? (i := 99) (by decide +kernel), by decide +kernel⟩, by decide +kernel⟩
abbrev jX10_cubic : MD := (RX10, yX10_cubic, cX10_cubic, 7, some .int, { frames := 3, cells := 0, slots := 0, locals := 70 }, fun _ _ => True)
theorem plX10_cubic : pln jX10_cubic := ⟨by decide +kernel, rfl, rfl, rfl, fun _ _ => trivial⟩
set_option maxRecDepth 100000 in
theorem kbX10_cubic : KB jX10_cubic 6 := ⟨List.mem_filter.mpr ⟨List.mem_of_getElem? (i := 1374) (by decide +kernel), by decide +kernel⟩, List.mem_filter.mpr ⟨List.mem_of_getElem? (i := 99) (by decide +kernel), by decide +kernel⟩, by decide +kernel⟩
abbrev jX10_close : MD := (RX10, yX10_close, cX10_close, 1, some .int, { frames := 3, cells := 0, slots := 0, locals := 70 }, fun _ _ => True)
theorem plX10_close : pln jX10_close := ⟨by decide +kernel, rfl, rfl, rfl, fun _ _ => trivial⟩
