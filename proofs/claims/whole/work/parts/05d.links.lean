set_option maxRecDepth 100000 in
theorem lk_X7_39 : LV RX7 39 jX1_deviationScale 2 := ⟨kbX1_deviationScale, rfl, List.mem_filter.mpr ⟨List.mem_of_getElem? (i := 1009) (by decide +kernel), by decide +kernel⟩, List.mem_filter.mpr ⟨List.mem_of_getElem? (i := 1010) (by decide +kernel), by decide +kernel⟩, List.mem_filter.mpr ⟨List.mem_of_getElem? (i := 1011) (by decide +kernel), by decide +kernel⟩⟩
set_option maxRecDepth 100000 in
theorem lk_X7_43 : LV RX7 43 jX1_deviation 3 := ⟨kbX1_deviation, rfl, List.mem_filter.mpr ⟨List.mem_of_getElem? (i := 1013) (by decide +kernel), by decide +kernel⟩, List.mem_filter.mpr ⟨List.mem_of_getElem? (i := 1014) (by decide +kernel), by decide +kernel⟩, List.mem_filter.mpr ⟨List.mem_of_getElem? (i := 1015) (by decide +kernel), by decide +kernel⟩⟩
set_option maxRecDepth 100000 in
theorem lk_X9_223 : LV RX9 223 jX7_kept 0 := ⟨kbX7_kept, rfl, List.mem_filter.mpr ⟨List.mem_of_getElem? (i := 1017) (by decide +kernel), by decide +kernel⟩, List.mem_filter.mpr ⟨List.mem_of_getElem? (i := 1018) (by decide +kernel), by decide +kernel⟩, List.mem_filter.mpr ⟨List.mem_of_getElem? (i := 1019) (by decide +kernel), by decide +kernel⟩⟩
set_option maxRecDepth 100000 in
theorem lk_X9_226 : LV RX9 226 jX7_keptVertex 1 := ⟨kbX7_keptVertex, rfl, List.mem_filter.mpr ⟨List.mem_of_getElem? (i := 1021) (by decide +kernel), by decide +kernel⟩, List.mem_filter.mpr ⟨List.mem_of_getElem? (i := 1022) (by decide +kernel), by decide +kernel⟩, List.mem_filter.mpr ⟨List.mem_of_getElem? (i := 1023) (by decide +kernel), by decide +kernel⟩⟩
set_option maxRecDepth 100000 in
theorem lk_L_112 : LV RL 112 jX9_addDash 1 := ⟨kbX9_addDash, rfl, List.mem_filter.mpr ⟨List.mem_of_getElem? (i := 1026) (by decide +kernel), by decide +kernel⟩, List.mem_filter.mpr ⟨List.mem_of_getElem? (i := 1027) (by decide +kernel), by decide +kernel⟩, List.mem_filter.mpr ⟨List.mem_of_getElem? (i := 1028) (by decide +kernel), by decide +kernel⟩⟩
set_option maxRecDepth 100000 in
theorem lk_X9_231 : LV RX9 231 jX0_append 1 := ⟨kbX0_append, rfl, List.mem_filter.mpr ⟨List.mem_of_getElem? (i := 1031) (by decide +kernel), by decide +kernel⟩, List.mem_filter.mpr ⟨List.mem_of_getElem? (i := 1032) (by decide +kernel), by decide +kernel⟩, List.mem_filter.mpr ⟨List.mem_of_getElem? (i := 1033) (by decide +kernel), by decide +kernel⟩⟩
set_option maxRecDepth 100000 in
theorem lk_L_116 : LV RL 116 jX9_clearDashes 1 := ⟨kbX9_clearDashes, rfl, List.mem_filter.mpr ⟨List.mem_of_getElem? (i := 1035) (by decide +kernel), by decide +kernel⟩, List.mem_filter.mpr ⟨List.mem_of_getElem? (i := 1036) (by decide +kernel), by decide +kernel⟩, List.mem_filter.mpr ⟨List.mem_of_getElem? (i := 1037) (by decide +kernel), by decide +kernel⟩⟩
set_option maxRecDepth 100000 in
theorem lk_L_120 : LV RL 120 jX9_dash 3 := ⟨kbX9_dash, rfl, List.mem_filter.mpr ⟨List.mem_of_getElem? (i := 1039) (by decide +kernel), by decide +kernel⟩, List.mem_filter.mpr ⟨List.mem_of_getElem? (i := 1040) (by decide +kernel), by decide +kernel⟩, List.mem_filter.mpr ⟨List.mem_of_getElem? (i := 1041) (by decide +kernel), by decide +kernel⟩⟩
set_option maxRecDepth 100000 in
theorem lk_X9_237 : LV RX9 237 jX0_layAlong 1 := ⟨kbX0_layAlong, rfl, List.mem_filter.mpr ⟨List.mem_of_getElem? (i := 1043) (by decide +kernel), by decide +kernel⟩, List.mem_filter.mpr ⟨List.mem_of_getElem? (i := 1044) (by decide +kernel), by decide +kernel⟩, List.mem_filter.mpr ⟨List.mem_of_getElem? (i := 1045) (by decide +kernel), by decide +kernel⟩⟩
set_option maxRecDepth 100000 in
theorem lk_X0_31 : LV RX0 31 jX0_layPattern 2 := ⟨kbX0_layPattern, rfl, List.mem_filter.mpr ⟨List.mem_of_getElem? (i := 1047) (by decide +kernel), by decide +kernel⟩, List.mem_filter.mpr ⟨List.mem_of_getElem? (i := 1049) (by decide +kernel), by decide +kernel⟩, List.mem_filter.mpr ⟨List.mem_of_getElem? (i := 34) (by decide +kernel), by decide +kernel⟩⟩
set_option maxRecDepth 100000 in
theorem lk_X0_35 : LT RX0 35 jJ9_max_7cf53 2 := ⟨kbJ9_max_7cf53, List.mem_filter.mpr ⟨List.mem_of_getElem? (i := 1051) (by decide +kernel), by decide +kernel⟩, List.mem_filter.mpr ⟨List.mem_of_getElem? (i := 712) (by decide +kernel), by decide +kernel⟩⟩
set_option maxRecDepth 100000 in
theorem lk_X0_41 : LT RX0 41 jJ9_min_7cf53 2 := ⟨kbJ9_min_7cf53, List.mem_filter.mpr ⟨List.mem_of_getElem? (i := 1052) (by decide +kernel), by decide +kernel⟩, List.mem_filter.mpr ⟨List.mem_of_getElem? (i := 715) (by decide +kernel), by decide +kernel⟩⟩
set_option maxRecDepth 100000 in
theorem lk_X0_44 : LV RX0 44 jX0_keep 2 := ⟨kbX0_keep, rfl, List.mem_filter.mpr ⟨List.mem_of_getElem? (i := 1053) (by decide +kernel), by decide +kernel⟩, List.mem_filter.mpr ⟨List.mem_of_getElem? (i := 1055) (by decide +kernel), by decide +kernel⟩, List.mem_filter.mpr ⟨List.mem_of_getElem? (i := 35) (by decide +kernel), by decide +kernel⟩⟩
set_option maxRecDepth 100000 in
theorem lk_X9_240 : LV RX9 240 jX0_beginOf 1 := ⟨kbX0_beginOf, rfl, List.mem_filter.mpr ⟨List.mem_of_getElem? (i := 1057) (by decide +kernel), by decide +kernel⟩, List.mem_filter.mpr ⟨List.mem_of_getElem? (i := 1058) (by decide +kernel), by decide +kernel⟩, List.mem_filter.mpr ⟨List.mem_of_getElem? (i := 1059) (by decide +kernel), by decide +kernel⟩⟩
set_option maxRecDepth 100000 in
theorem lk_X0_47 : LV RX0 47 jX0_has 1 := ⟨kbX0_has, rfl, List.mem_filter.mpr ⟨List.mem_of_getElem? (i := 1061) (by decide +kernel), by decide +kernel⟩, List.mem_filter.mpr ⟨List.mem_of_getElem? (i := 1063) (by decide +kernel), by decide +kernel⟩, List.mem_filter.mpr ⟨List.mem_of_getElem? (i := 36) (by decide +kernel), by decide +kernel⟩⟩
set_option maxRecDepth 100000 in
theorem lk_X9_243 : LV RX9 243 jX0_endOf 1 := ⟨kbX0_endOf, rfl, List.mem_filter.mpr ⟨List.mem_of_getElem? (i := 1066) (by decide +kernel), by decide +kernel⟩, List.mem_filter.mpr ⟨List.mem_of_getElem? (i := 1067) (by decide +kernel), by decide +kernel⟩, List.mem_filter.mpr ⟨List.mem_of_getElem? (i := 1068) (by decide +kernel), by decide +kernel⟩⟩
set_option maxRecDepth 100000 in
theorem lk_L_124 : LV RL 124 jX9_setWidth 2 := ⟨kbX9_setWidth, rfl, List.mem_filter.mpr ⟨List.mem_of_getElem? (i := 1070) (by decide +kernel), by decide +kernel⟩, List.mem_filter.mpr ⟨List.mem_of_getElem? (i := 1071) (by decide +kernel), by decide +kernel⟩, List.mem_filter.mpr ⟨List.mem_of_getElem? (i := 1072) (by decide +kernel), by decide +kernel⟩⟩
set_option maxRecDepth 100000 in
theorem lk_X9_246 : LT RX9 246 jX9_isLetter 1 := ⟨kbX9_isLetter, List.mem_filter.mpr ⟨List.mem_of_getElem? (i := 1074) (by decide +kernel), by decide +kernel⟩, List.mem_filter.mpr ⟨List.mem_of_getElem? (i := 1075) (by decide +kernel), by decide +kernel⟩⟩
set_option maxRecDepth 100000 in
theorem lk_X9_249 : LV RX9 249 jX3_changeWidth 2 := ⟨kbX3_changeWidth, rfl, List.mem_filter.mpr ⟨List.mem_of_getElem? (i := 1077) (by decide +kernel), by decide +kernel⟩, List.mem_filter.mpr ⟨List.mem_of_getElem? (i := 1078) (by decide +kernel), by decide +kernel⟩, List.mem_filter.mpr ⟨List.mem_of_getElem? (i := 1079) (by decide +kernel), by decide +kernel⟩⟩
set_option maxRecDepth 100000 in
theorem lk_L_128 : LV RL 128 jX9_setKerning 3 := ⟨kbX9_setKerning, rfl, List.mem_filter.mpr ⟨List.mem_of_getElem? (i := 1083) (by decide +kernel), by decide +kernel⟩, List.mem_filter.mpr ⟨List.mem_of_getElem? (i := 1084) (by decide +kernel), by decide +kernel⟩, List.mem_filter.mpr ⟨List.mem_of_getElem? (i := 1085) (by decide +kernel), by decide +kernel⟩⟩
set_option maxRecDepth 100000 in
theorem lk_X9_252 : LV RX9 252 jX3_pairsBeside 2 := ⟨kbX3_pairsBeside, rfl, List.mem_filter.mpr ⟨List.mem_of_getElem? (i := 1087) (by decide +kernel), by decide +kernel⟩, List.mem_filter.mpr ⟨List.mem_of_getElem? (i := 1088) (by decide +kernel), by decide +kernel⟩, List.mem_filter.mpr ⟨List.mem_of_getElem? (i := 1089) (by decide +kernel), by decide +kernel⟩⟩
set_option maxRecDepth 100000 in
theorem lk_X3_48 : LV RX3 48 jX3_kerningOf 2 := ⟨kbX3_kerningOf, rfl, List.mem_filter.mpr ⟨List.mem_of_getElem? (i := 1091) (by decide +kernel), by decide +kernel⟩, List.mem_filter.mpr ⟨List.mem_of_getElem? (i := 1093) (by decide +kernel), by decide +kernel⟩, List.mem_filter.mpr ⟨List.mem_of_getElem? (i := 37) (by decide +kernel), by decide +kernel⟩⟩
set_option maxRecDepth 100000 in
theorem lk_X9_255 : LV RX9 255 jX3_changeKerning 3 := ⟨kbX3_changeKerning, rfl, List.mem_filter.mpr ⟨List.mem_of_getElem? (i := 1095) (by decide +kernel), by decide +kernel⟩, List.mem_filter.mpr ⟨List.mem_of_getElem? (i := 1096) (by decide +kernel), by decide +kernel⟩, List.mem_filter.mpr ⟨List.mem_of_getElem? (i := 1097) (by decide +kernel), by decide +kernel⟩⟩
set_option maxRecDepth 100000 in
theorem lk_X3_52 : LV RX3 52 jX3_pairsBeside 2 := ⟨kbX3_pairsBeside, rfl, List.mem_filter.mpr ⟨List.mem_of_getElem? (i := 1099) (by decide +kernel), by decide +kernel⟩, List.mem_filter.mpr ⟨List.mem_of_getElem? (i := 1088) (by decide +kernel), by decide +kernel⟩, List.mem_filter.mpr ⟨List.mem_of_getElem? (i := 1089) (by decide +kernel), by decide +kernel⟩⟩
set_option maxRecDepth 100000 in
theorem lk_L_132 : LV RL 132 jX9_write 1 := ⟨kbX9_write, rfl, List.mem_filter.mpr ⟨List.mem_of_getElem? (i := 1100) (by decide +kernel), by decide +kernel⟩, List.mem_filter.mpr ⟨List.mem_of_getElem? (i := 1101) (by decide +kernel), by decide +kernel⟩, List.mem_filter.mpr ⟨List.mem_of_getElem? (i := 1102) (by decide +kernel), by decide +kernel⟩⟩
set_option maxRecDepth 100000 in
theorem lk_X9_259 : LV RX9 259 jX3_append 1 := ⟨kbX3_append, rfl, List.mem_filter.mpr ⟨List.mem_of_getElem? (i := 1104) (by decide +kernel), by decide +kernel⟩, List.mem_filter.mpr ⟨List.mem_of_getElem? (i := 1105) (by decide +kernel), by decide +kernel⟩, List.mem_filter.mpr ⟨List.mem_of_getElem? (i := 1106) (by decide +kernel), by decide +kernel⟩⟩
set_option maxRecDepth 100000 in
theorem lk_L_136 : LV RL 136 jX9_erase 0 := ⟨kbX9_erase, rfl, List.mem_filter.mpr ⟨List.mem_of_getElem? (i := 1108) (by decide +kernel), by decide +kernel⟩, List.mem_filter.mpr ⟨List.mem_of_getElem? (i := 1109) (by decide +kernel), by decide +kernel⟩, List.mem_filter.mpr ⟨List.mem_of_getElem? (i := 1110) (by decide +kernel), by decide +kernel⟩⟩
set_option maxRecDepth 100000 in
theorem lk_L_140 : LV RL 140 jX9_arrange 3 := ⟨kbX9_arrange, rfl, List.mem_filter.mpr ⟨List.mem_of_getElem? (i := 1112) (by decide +kernel), by decide +kernel⟩, List.mem_filter.mpr ⟨List.mem_of_getElem? (i := 1113) (by decide +kernel), by decide +kernel⟩, List.mem_filter.mpr ⟨List.mem_of_getElem? (i := 1114) (by decide +kernel), by decide +kernel⟩⟩
set_option maxRecDepth 100000 in
theorem lk_L_144 : LV RL 144 jX9_letter 3 := ⟨kbX9_letter, rfl, List.mem_filter.mpr ⟨List.mem_of_getElem? (i := 1116) (by decide +kernel), by decide +kernel⟩, List.mem_filter.mpr ⟨List.mem_of_getElem? (i := 1117) (by decide +kernel), by decide +kernel⟩, List.mem_filter.mpr ⟨List.mem_of_getElem? (i := 1118) (by decide +kernel), by decide +kernel⟩⟩
set_option maxRecDepth 100000 in
theorem lk_X9_269 : LV RX9 269 jX3_layOn 2 := ⟨kbX3_layOn, rfl, List.mem_filter.mpr ⟨List.mem_of_getElem? (i := 1120) (by decide +kernel), by decide +kernel⟩, List.mem_filter.mpr ⟨List.mem_of_getElem? (i := 1121) (by decide +kernel), by decide +kernel⟩, List.mem_filter.mpr ⟨List.mem_of_getElem? (i := 1122) (by decide +kernel), by decide +kernel⟩⟩
set_option maxRecDepth 100000 in
theorem lk_X3_62 : LV RX3 62 jX3_layMovingOn 2 := ⟨kbX3_layMovingOn, rfl, List.mem_filter.mpr ⟨List.mem_of_getElem? (i := 1124) (by decide +kernel), by decide +kernel⟩, List.mem_filter.mpr ⟨List.mem_of_getElem? (i := 1126) (by decide +kernel), by decide +kernel⟩, List.mem_filter.mpr ⟨List.mem_of_getElem? (i := 38) (by decide +kernel), by decide +kernel⟩⟩
set_option maxRecDepth 100000 in
theorem lk_X3_59 : LV RX3 59 jX3_widthAt 1 := ⟨kbX3_widthAt, rfl, List.mem_filter.mpr ⟨List.mem_of_getElem? (i := 1128) (by decide +kernel), by decide +kernel⟩, List.mem_filter.mpr ⟨List.mem_of_getElem? (i := 1130) (by decide +kernel), by decide +kernel⟩, List.mem_filter.mpr ⟨List.mem_of_getElem? (i := 39) (by decide +kernel), by decide +kernel⟩⟩
set_option maxRecDepth 100000 in
theorem lk_X3_55 : LV RX3 55 jX3_letterAt 1 := ⟨kbX3_letterAt, rfl, List.mem_filter.mpr ⟨List.mem_of_getElem? (i := 1132) (by decide +kernel), by decide +kernel⟩, List.mem_filter.mpr ⟨List.mem_of_getElem? (i := 1134) (by decide +kernel), by decide +kernel⟩, List.mem_filter.mpr ⟨List.mem_of_getElem? (i := 40) (by decide +kernel), by decide +kernel⟩⟩
set_option maxRecDepth 100000 in
theorem lk_X3_90 : LV RX3 90 jX1_hasSegments 1 := ⟨kbX1_hasSegments, rfl, List.mem_filter.mpr ⟨List.mem_of_getElem? (i := 1136) (by decide +kernel), by decide +kernel⟩, List.mem_filter.mpr ⟨List.mem_of_getElem? (i := 905) (by decide +kernel), by decide +kernel⟩, List.mem_filter.mpr ⟨List.mem_of_getElem? (i := 906) (by decide +kernel), by decide +kernel⟩⟩
set_option maxRecDepth 100000 in
theorem lk_X3_69 : LV RX3 69 jX1_lengthOf 1 := ⟨kbX1_lengthOf, rfl, List.mem_filter.mpr ⟨List.mem_of_getElem? (i := 1137) (by decide +kernel), by decide +kernel⟩, List.mem_filter.mpr ⟨List.mem_of_getElem? (i := 874) (by decide +kernel), by decide +kernel⟩, List.mem_filter.mpr ⟨List.mem_of_getElem? (i := 875) (by decide +kernel), by decide +kernel⟩⟩
set_option maxRecDepth 100000 in
theorem lk_X3_103 : LV RX3 103 jX1_has 1 := ⟨kbX1_has, rfl, List.mem_filter.mpr ⟨List.mem_of_getElem? (i := 1138) (by decide +kernel), by decide +kernel⟩, List.mem_filter.mpr ⟨List.mem_of_getElem? (i := 878) (by decide +kernel), by decide +kernel⟩, List.mem_filter.mpr ⟨List.mem_of_getElem? (i := 879) (by decide +kernel), by decide +kernel⟩⟩
set_option maxRecDepth 100000 in
theorem lk_X3_97 : LV RX3 97 jX3_stepAfter 1 := ⟨kbX3_stepAfter, rfl, List.mem_filter.mpr ⟨List.mem_of_getElem? (i := 1139) (by decide +kernel), by decide +kernel⟩, List.mem_filter.mpr ⟨List.mem_of_getElem? (i := 1141) (by decide +kernel), by decide +kernel⟩, List.mem_filter.mpr ⟨List.mem_of_getElem? (i := 41) (by decide +kernel), by decide +kernel⟩⟩
set_option maxRecDepth 100000 in
theorem lk_X3_66 : LV RX3 66 jX3_layOnOne 2 := ⟨kbX3_layOnOne, rfl, List.mem_filter.mpr ⟨List.mem_of_getElem? (i := 1143) (by decide +kernel), by decide +kernel⟩, List.mem_filter.mpr ⟨List.mem_of_getElem? (i := 1145) (by decide +kernel), by decide +kernel⟩, List.mem_filter.mpr ⟨List.mem_of_getElem? (i := 42) (by decide +kernel), by decide +kernel⟩⟩
set_option maxRecDepth 100000 in
theorem lk_X3_74 : LV RX3 74 jX1_isClosed 1 := ⟨kbX1_isClosed, rfl, List.mem_filter.mpr ⟨List.mem_of_getElem? (i := 1147) (by decide +kernel), by decide +kernel⟩, List.mem_filter.mpr ⟨List.mem_of_getElem? (i := 1148) (by decide +kernel), by decide +kernel⟩, List.mem_filter.mpr ⟨List.mem_of_getElem? (i := 1149) (by decide +kernel), by decide +kernel⟩⟩
set_option maxRecDepth 100000 in
theorem lk_X3_77 : LV RX3 77 jX3_endOfAll 0 := ⟨kbX3_endOfAll, rfl, List.mem_filter.mpr ⟨List.mem_of_getElem? (i := 1151) (by decide +kernel), by decide +kernel⟩, List.mem_filter.mpr ⟨List.mem_of_getElem? (i := 1153) (by decide +kernel), by decide +kernel⟩, List.mem_filter.mpr ⟨List.mem_of_getElem? (i := 43) (by decide +kernel), by decide +kernel⟩⟩
set_option maxRecDepth 100000 in
theorem lk_X3_81 : LT RX3 81 jJ9_floorMod_7cf53 2 := ⟨kbJ9_floorMod_7cf53, List.mem_filter.mpr ⟨List.mem_of_getElem? (i := 1155) (by decide +kernel), by decide +kernel⟩, List.mem_filter.mpr ⟨List.mem_of_getElem? (i := 1156) (by decide +kernel), by decide +kernel⟩⟩
set_option maxRecDepth 100000 in
theorem lk_X3_86 : LV RX3 86 jX3_squeeze 3 := ⟨kbX3_squeeze, rfl, List.mem_filter.mpr ⟨List.mem_of_getElem? (i := 1158) (by decide +kernel), by decide +kernel⟩, List.mem_filter.mpr ⟨List.mem_of_getElem? (i := 1160) (by decide +kernel), by decide +kernel⟩, List.mem_filter.mpr ⟨List.mem_of_getElem? (i := 44) (by decide +kernel), by decide +kernel⟩⟩
set_option maxRecDepth 100000 in
theorem lk_X9_273 : LV RX9 273 jX3_placeNumber 3 := ⟨kbX3_placeNumber, rfl, List.mem_filter.mpr ⟨List.mem_of_getElem? (i := 1163) (by decide +kernel), by decide +kernel⟩, List.mem_filter.mpr ⟨List.mem_of_getElem? (i := 1164) (by decide +kernel), by decide +kernel⟩, List.mem_filter.mpr ⟨List.mem_of_getElem? (i := 1165) (by decide +kernel), by decide +kernel⟩⟩
set_option maxRecDepth 100000 in
theorem lk_X3_107 : LV RX3 107 jX1_pointNumber 3 := ⟨kbX1_pointNumber, rfl, List.mem_filter.mpr ⟨List.mem_of_getElem? (i := 1168) (by decide +kernel), by decide +kernel⟩, List.mem_filter.mpr ⟨List.mem_of_getElem? (i := 911) (by decide +kernel), by decide +kernel⟩, List.mem_filter.mpr ⟨List.mem_of_getElem? (i := 912) (by decide +kernel), by decide +kernel⟩⟩
set_option maxRecDepth 100000 in
theorem lk_L_148 : LV RL 148 jX9_placed 2 := ⟨kbX9_placed, rfl, List.mem_filter.mpr ⟨List.mem_of_getElem? (i := 1169) (by decide +kernel), by decide +kernel⟩, List.mem_filter.mpr ⟨List.mem_of_getElem? (i := 1170) (by decide +kernel), by decide +kernel⟩, List.mem_filter.mpr ⟨List.mem_of_getElem? (i := 1171) (by decide +kernel), by decide +kernel⟩⟩
set_option maxRecDepth 100000 in
theorem lk_X9_277 : LV RX9 277 jX3_lettersPlaced 0 := ⟨kbX3_lettersPlaced, rfl, List.mem_filter.mpr ⟨List.mem_of_getElem? (i := 1173) (by decide +kernel), by decide +kernel⟩, List.mem_filter.mpr ⟨List.mem_of_getElem? (i := 1174) (by decide +kernel), by decide +kernel⟩, List.mem_filter.mpr ⟨List.mem_of_getElem? (i := 1175) (by decide +kernel), by decide +kernel⟩⟩
set_option maxRecDepth 100000 in
theorem lk_X9_280 : LV RX9 280 jX3_turnsBackward 1 := ⟨kbX3_turnsBackward, rfl, List.mem_filter.mpr ⟨List.mem_of_getElem? (i := 1177) (by decide +kernel), by decide +kernel⟩, List.mem_filter.mpr ⟨List.mem_of_getElem? (i := 1178) (by decide +kernel), by decide +kernel⟩, List.mem_filter.mpr ⟨List.mem_of_getElem? (i := 1179) (by decide +kernel), by decide +kernel⟩⟩
set_option maxRecDepth 100000 in
theorem lk_X3_110 : LV RX3 110 jX1_segmentAt 2 := ⟨kbX1_segmentAt, rfl, List.mem_filter.mpr ⟨List.mem_of_getElem? (i := 1181) (by decide +kernel), by decide +kernel⟩, List.mem_filter.mpr ⟨List.mem_of_getElem? (i := 915) (by decide +kernel), by decide +kernel⟩, List.mem_filter.mpr ⟨List.mem_of_getElem? (i := 916) (by decide +kernel), by decide +kernel⟩⟩
set_option maxRecDepth 100000 in
theorem lk_X3_113 : LV RX3 113 jX1_isBackward 2 := ⟨kbX1_isBackward, rfl, List.mem_filter.mpr ⟨List.mem_of_getElem? (i := 1182) (by decide +kernel), by decide +kernel⟩, List.mem_filter.mpr ⟨List.mem_of_getElem? (i := 1183) (by decide +kernel), by decide +kernel⟩, List.mem_filter.mpr ⟨List.mem_of_getElem? (i := 1184) (by decide +kernel), by decide +kernel⟩⟩
set_option maxRecDepth 100000 in
theorem lk_L_152 : LV RL 152 jX9_count 1 := ⟨kbX9_count, rfl, List.mem_filter.mpr ⟨List.mem_of_getElem? (i := 1186) (by decide +kernel), by decide +kernel⟩, List.mem_filter.mpr ⟨List.mem_of_getElem? (i := 1187) (by decide +kernel), by decide +kernel⟩, List.mem_filter.mpr ⟨List.mem_of_getElem? (i := 1188) (by decide +kernel), by decide +kernel⟩⟩
set_option maxRecDepth 100000 in
theorem lk_L_156 : LV RL 156 jX9_save 1 := ⟨kbX9_save, rfl, List.mem_filter.mpr ⟨List.mem_of_getElem? (i := 1190) (by decide +kernel), by decide +kernel⟩, List.mem_filter.mpr ⟨List.mem_of_getElem? (i := 1191) (by decide +kernel), by decide +kernel⟩, List.mem_filter.mpr ⟨List.mem_of_getElem? (i := 1192) (by decide +kernel), by decide +kernel⟩⟩
set_option maxRecDepth 100000 in
theorem lk_X9_287 : LV RX9 287 jX9_savedIn 1 := ⟨kbX9_savedIn, rfl, List.mem_filter.mpr ⟨List.mem_of_getElem? (i := 1194) (by decide +kernel), by decide +kernel⟩, List.mem_filter.mpr ⟨List.mem_of_getElem? (i := 1196) (by decide +kernel), by decide +kernel⟩, List.mem_filter.mpr ⟨List.mem_of_getElem? (i := 45) (by decide +kernel), by decide +kernel⟩⟩
set_option maxRecDepth 100000 in
theorem lk_L_160 : LV RL 160 jX9_restore 1 := ⟨kbX9_restore, rfl, List.mem_filter.mpr ⟨List.mem_of_getElem? (i := 1198) (by decide +kernel), by decide +kernel⟩, List.mem_filter.mpr ⟨List.mem_of_getElem? (i := 1199) (by decide +kernel), by decide +kernel⟩, List.mem_filter.mpr ⟨List.mem_of_getElem? (i := 1200) (by decide +kernel), by decide +kernel⟩⟩
set_option maxRecDepth 100000 in
theorem lk_L_17 : LV RL 17 jX10_move 2 := ⟨kbX10_move, rfl, List.mem_filter.mpr ⟨List.mem_of_getElem? (i := 1338) (by decide +kernel), by decide +kernel⟩, List.mem_filter.mpr ⟨List.mem_of_getElem? (i := 1339) (by decide +kernel), by decide +kernel⟩, List.mem_filter.mpr ⟨List.mem_of_getElem? (i := 1340) (by decide +kernel), by decide +kernel⟩⟩
set_option maxRecDepth 100000 in
theorem lk_X10_99 : LV RX10 99 jX10_append 7 := ⟨kbX10_append, rfl, List.mem_filter.mpr ⟨List.mem_of_getElem? (i := 1342) (by decide +kernel), by decide +kernel⟩, List.mem_filter.mpr ⟨List.mem_of_getElem? (i := 1344) (by decide +kernel), by decide +kernel⟩, List.mem_filter.mpr ⟨List.mem_of_getElem? (i := 46) (by decide +kernel), by decide +kernel⟩⟩
set_option maxRecDepth 100000 in
theorem lk_X10_84 : LT RX10 84 jX10_isPlace 1 := ⟨kbX10_isPlace, List.mem_filter.mpr ⟨List.mem_of_getElem? (i := 1346) (by decide +kernel), by decide +kernel⟩, List.mem_filter.mpr ⟨List.mem_of_getElem? (i := 1347) (by decide +kernel), by decide +kernel⟩⟩
set_option maxRecDepth 100000 in
theorem lk_X10_80 : LT RX10 80 jX10_in 3 := ⟨kbX10_in, List.mem_filter.mpr ⟨List.mem_of_getElem? (i := 1349) (by decide +kernel), by decide +kernel⟩, List.mem_filter.mpr ⟨List.mem_of_getElem? (i := 1350) (by decide +kernel), by decide +kernel⟩⟩
set_option maxRecDepth 100000 in
theorem lk_X10_89 : LV RX10 89 jX10_many 0 := ⟨kbX10_many, rfl, List.mem_filter.mpr ⟨List.mem_of_getElem? (i := 1353) (by decide +kernel), by decide +kernel⟩, List.mem_filter.mpr ⟨List.mem_of_getElem? (i := 1355) (by decide +kernel), by decide +kernel⟩, List.mem_filter.mpr ⟨List.mem_of_getElem? (i := 47) (by decide +kernel), by decide +kernel⟩⟩
set_option maxRecDepth 100000 in
theorem lk_X10_93 : LV RX10 93 jX10_kind 1 := ⟨kbX10_kind, rfl, List.mem_filter.mpr ⟨List.mem_of_getElem? (i := 1357) (by decide +kernel), by decide +kernel⟩, List.mem_filter.mpr ⟨List.mem_of_getElem? (i := 1359) (by decide +kernel), by decide +kernel⟩, List.mem_filter.mpr ⟨List.mem_of_getElem? (i := 48) (by decide +kernel), by decide +kernel⟩⟩
set_option maxRecDepth 100000 in
theorem lk_L_21 : LV RL 21 jX10_line 2 := ⟨kbX10_line, rfl, List.mem_filter.mpr ⟨List.mem_of_getElem? (i := 1363) (by decide +kernel), by decide +kernel⟩, List.mem_filter.mpr ⟨List.mem_of_getElem? (i := 1364) (by decide +kernel), by decide +kernel⟩, List.mem_filter.mpr ⟨List.mem_of_getElem? (i := 1365) (by decide +kernel), by decide +kernel⟩⟩
set_option maxRecDepth 100000 in
theorem lk_L_26 : LV RL 26 jX10_quad 4 := ⟨kbX10_quad, rfl, List.mem_filter.mpr ⟨List.mem_of_getElem? (i := 1367) (by decide +kernel), by decide +kernel⟩, List.mem_filter.mpr ⟨List.mem_of_getElem? (i := 1368) (by decide +kernel), by decide +kernel⟩, List.mem_filter.mpr ⟨List.mem_of_getElem? (i := 1369) (by decide +kernel), by decide +kernel⟩⟩
set_option maxRecDepth 100000 in
theorem lk_L_31 : LV RL 31 jX10_cubic 6 := ⟨kbX10_cubic, rfl, List.mem_filter.mpr ⟨List.mem_of_getElem? (i := 1371) (by decide +kernel), by decide +kernel⟩, List.mem_filter.mpr ⟨List.mem_of_getElem? (i := 1372) (by decide +kernel), by decide +kernel⟩, List.mem_filter.mpr ⟨List.mem_of_getElem? (i := 1373) (by decide +kernel), by decide +kernel⟩⟩
set_option maxRecDepth 100000 in
theorem lk_L_36 : LV RL 36 jX10_close 0 := ⟨kbX10_close, rfl, List.mem_filter.mpr ⟨List.mem_of_getElem? (i := 1375) (by decide +kernel), by decide +kernel⟩, List.mem_filter.mpr ⟨List.mem_of_getElem? (i := 1376) (by decide +kernel), by decide +kernel⟩, List.mem_filter.mpr ⟨List.mem_of_getElem? (i := 1377) (by decide +kernel), by decide +kernel⟩⟩
set_option maxRecDepth 100000 in
theorem lk_L_40 : LV RL 40 jX10_removeLast 0 := ⟨kbX10_removeLast, rfl, List.mem_filter.mpr ⟨List.mem_of_getElem? (i := 1379) (by decide +kernel), by decide +kernel⟩, List.mem_filter.mpr ⟨List.mem_of_getElem? (i := 1380) (by decide +kernel), by decide +kernel⟩, List.mem_filter.mpr ⟨List.mem_of_getElem? (i := 1381) (by decide +kernel), by decide +kernel⟩⟩
set_option maxRecDepth 100000 in
theorem lk_L_44 : LV RL 44 jX10_command 2 := ⟨kbX10_command, rfl, List.mem_filter.mpr ⟨List.mem_of_getElem? (i := 1383) (by decide +kernel), by decide +kernel⟩, List.mem_filter.mpr ⟨List.mem_of_getElem? (i := 1384) (by decide +kernel), by decide +kernel⟩, List.mem_filter.mpr ⟨List.mem_of_getElem? (i := 1385) (by decide +kernel), by decide +kernel⟩⟩
set_option maxRecDepth 100000 in
theorem lk_X10_108 : LV RX10 108 jX10_contourOf 1 := ⟨kbX10_contourOf, rfl, List.mem_filter.mpr ⟨List.mem_of_getElem? (i := 1388) (by decide +kernel), by decide +kernel⟩, List.mem_filter.mpr ⟨List.mem_of_getElem? (i := 1390) (by decide +kernel), by decide +kernel⟩, List.mem_filter.mpr ⟨List.mem_of_getElem? (i := 49) (by decide +kernel), by decide +kernel⟩⟩
set_option maxRecDepth 100000 in
theorem lk_X10_111 : LV RX10 111 jX10_flatten 0 := ⟨kbX10_flatten, rfl, List.mem_filter.mpr ⟨List.mem_of_getElem? (i := 1393) (by decide +kernel), by decide +kernel⟩, List.mem_filter.mpr ⟨List.mem_of_getElem? (i := 1395) (by decide +kernel), by decide +kernel⟩, List.mem_filter.mpr ⟨List.mem_of_getElem? (i := 50) (by decide +kernel), by decide +kernel⟩⟩
set_option maxRecDepth 100000 in
theorem lk_X10_114 : LV RX10 114 jX10_endX 1 := ⟨kbX10_endX, rfl, List.mem_filter.mpr ⟨List.mem_of_getElem? (i := 1397) (by decide +kernel), by decide +kernel⟩, List.mem_filter.mpr ⟨List.mem_of_getElem? (i := 1399) (by decide +kernel), by decide +kernel⟩, List.mem_filter.mpr ⟨List.mem_of_getElem? (i := 51) (by decide +kernel), by decide +kernel⟩⟩
set_option maxRecDepth 100000 in
theorem lk_X10_104 : LV RX10 104 jX10_moveOf 1 := ⟨kbX10_moveOf, rfl, List.mem_filter.mpr ⟨List.mem_of_getElem? (i := 1401) (by decide +kernel), by decide +kernel⟩, List.mem_filter.mpr ⟨List.mem_of_getElem? (i := 1403) (by decide +kernel), by decide +kernel⟩, List.mem_filter.mpr ⟨List.mem_of_getElem? (i := 52) (by decide +kernel), by decide +kernel⟩⟩
set_option maxRecDepth 100000 in
theorem lk_X10_117 : LV RX10 117 jX10_endY 1 := ⟨kbX10_endY, rfl, List.mem_filter.mpr ⟨List.mem_of_getElem? (i := 1405) (by decide +kernel), by decide +kernel⟩, List.mem_filter.mpr ⟨List.mem_of_getElem? (i := 1407) (by decide +kernel), by decide +kernel⟩, List.mem_filter.mpr ⟨List.mem_of_getElem? (i := 53) (by decide +kernel), by decide +kernel⟩⟩
set_option maxRecDepth 100000 in
theorem lk_X10_227 : LV RX10 227 jX10_addVertex 3 := ⟨kbX10_addVertex, rfl, List.mem_filter.mpr ⟨List.mem_of_getElem? (i := 1409) (by decide +kernel), by decide +kernel⟩, List.mem_filter.mpr ⟨List.mem_of_getElem? (i := 1411) (by decide +kernel), by decide +kernel⟩, List.mem_filter.mpr ⟨List.mem_of_getElem? (i := 54) (by decide +kernel), by decide +kernel⟩⟩
set_option maxRecDepth 100000 in
theorem lk_X10_216 : LT RX10 216 jX10_root 1 := ⟨kbX10_root, List.mem_filter.mpr ⟨List.mem_of_getElem? (i := 1414) (by decide +kernel), by decide +kernel⟩, List.mem_filter.mpr ⟨List.mem_of_getElem? (i := 1415) (by decide +kernel), by decide +kernel⟩⟩
set_option maxRecDepth 100000 in
theorem lk_X10_235 : LV RX10 235 jX10_push 9 := ⟨kbX10_push, rfl, List.mem_filter.mpr ⟨List.mem_of_getElem? (i := 1419) (by decide +kernel), by decide +kernel⟩, List.mem_filter.mpr ⟨List.mem_of_getElem? (i := 1421) (by decide +kernel), by decide +kernel⟩, List.mem_filter.mpr ⟨List.mem_of_getElem? (i := 55) (by decide +kernel), by decide +kernel⟩⟩
set_option maxRecDepth 100000 in
theorem lk_X10_239 : LV RX10 239 jX10_flattenQuad 1 := ⟨kbX10_flattenQuad, rfl, List.mem_filter.mpr ⟨List.mem_of_getElem? (i := 1423) (by decide +kernel), by decide +kernel⟩, List.mem_filter.mpr ⟨List.mem_of_getElem? (i := 1425) (by decide +kernel), by decide +kernel⟩, List.mem_filter.mpr ⟨List.mem_of_getElem? (i := 56) (by decide +kernel), by decide +kernel⟩⟩
set_option maxRecDepth 100000 in
theorem lk_X10_223 : LT RX10 223 jX10_bend 3 := ⟨kbX10_bend, List.mem_filter.mpr ⟨List.mem_of_getElem? (i := 1427) (by decide +kernel), by decide +kernel⟩, List.mem_filter.mpr ⟨List.mem_of_getElem? (i := 1428) (by decide +kernel), by decide +kernel⟩⟩
set_option maxRecDepth 100000 in
theorem lk_X10_195 : LT RX10 195 jX10_size 1 := ⟨kbX10_size, List.mem_filter.mpr ⟨List.mem_of_getElem? (i := 1430) (by decide +kernel), by decide +kernel⟩, List.mem_filter.mpr ⟨List.mem_of_getElem? (i := 1431) (by decide +kernel), by decide +kernel⟩⟩
set_option maxRecDepth 100000 in
theorem lk_X10_231 : LT RX10 231 jX10_mid 2 := ⟨kbX10_mid, List.mem_filter.mpr ⟨List.mem_of_getElem? (i := 1433) (by decide +kernel), by decide +kernel⟩, List.mem_filter.mpr ⟨List.mem_of_getElem? (i := 1434) (by decide +kernel), by decide +kernel⟩⟩
set_option maxRecDepth 100000 in
theorem lk_X10_242 : LV RX10 242 jX10_flattenCubic 1 := ⟨kbX10_flattenCubic, rfl, List.mem_filter.mpr ⟨List.mem_of_getElem? (i := 1436) (by decide +kernel), by decide +kernel⟩, List.mem_filter.mpr ⟨List.mem_of_getElem? (i := 1438) (by decide +kernel), by decide +kernel⟩, List.mem_filter.mpr ⟨List.mem_of_getElem? (i := 57) (by decide +kernel), by decide +kernel⟩⟩
set_option maxRecDepth 100000 in
theorem lk_L_49 : LV RL 49 jX10_setTolerance 1 := ⟨kbX10_setTolerance, rfl, List.mem_filter.mpr ⟨List.mem_of_getElem? (i := 1440) (by decide +kernel), by decide +kernel⟩, List.mem_filter.mpr ⟨List.mem_of_getElem? (i := 1441) (by decide +kernel), by decide +kernel⟩, List.mem_filter.mpr ⟨List.mem_of_getElem? (i := 1442) (by decide +kernel), by decide +kernel⟩⟩
set_option maxRecDepth 100000 in
theorem lk_L_53 : LV RL 53 jX10_reverse 1 := ⟨kbX10_reverse, rfl, List.mem_filter.mpr ⟨List.mem_of_getElem? (i := 1444) (by decide +kernel), by decide +kernel⟩, List.mem_filter.mpr ⟨List.mem_of_getElem? (i := 1445) (by decide +kernel), by decide +kernel⟩, List.mem_filter.mpr ⟨List.mem_of_getElem? (i := 1446) (by decide +kernel), by decide +kernel⟩⟩
set_option maxRecDepth 100000 in
theorem lk_X10_123 : LV RX10 123 jX10_isContour 1 := ⟨kbX10_isContour, rfl, List.mem_filter.mpr ⟨List.mem_of_getElem? (i := 1448) (by decide +kernel), by decide +kernel⟩, List.mem_filter.mpr ⟨List.mem_of_getElem? (i := 1450) (by decide +kernel), by decide +kernel⟩, List.mem_filter.mpr ⟨List.mem_of_getElem? (i := 58) (by decide +kernel), by decide +kernel⟩⟩
set_option maxRecDepth 100000 in
theorem lk_X10_120 : LV RX10 120 jX10_contours 0 := ⟨kbX10_contours, rfl, List.mem_filter.mpr ⟨List.mem_of_getElem? (i := 1452) (by decide +kernel), by decide +kernel⟩, List.mem_filter.mpr ⟨List.mem_of_getElem? (i := 1454) (by decide +kernel), by decide +kernel⟩, List.mem_filter.mpr ⟨List.mem_of_getElem? (i := 59) (by decide +kernel), by decide +kernel⟩⟩
set_option maxRecDepth 100000 in
theorem lk_X10_126 : LV RX10 126 jX10_firstOf 1 := ⟨kbX10_firstOf, rfl, List.mem_filter.mpr ⟨List.mem_of_getElem? (i := 1456) (by decide +kernel), by decide +kernel⟩, List.mem_filter.mpr ⟨List.mem_of_getElem? (i := 1458) (by decide +kernel), by decide +kernel⟩, List.mem_filter.mpr ⟨List.mem_of_getElem? (i := 60) (by decide +kernel), by decide +kernel⟩⟩
set_option maxRecDepth 100000 in
theorem lk_X10_129 : LV RX10 129 jX10_setTurned 4 := ⟨kbX10_setTurned, rfl, List.mem_filter.mpr ⟨List.mem_of_getElem? (i := 1460) (by decide +kernel), by decide +kernel⟩, List.mem_filter.mpr ⟨List.mem_of_getElem? (i := 1462) (by decide +kernel), by decide +kernel⟩, List.mem_filter.mpr ⟨List.mem_of_getElem? (i := 61) (by decide +kernel), by decide +kernel⟩⟩
set_option maxRecDepth 100000 in
theorem lk_L_57 : LV RL 57 jX10_transform 6 := ⟨kbX10_transform, rfl, List.mem_filter.mpr ⟨List.mem_of_getElem? (i := 1464) (by decide +kernel), by decide +kernel⟩, List.mem_filter.mpr ⟨List.mem_of_getElem? (i := 1465) (by decide +kernel), by decide +kernel⟩, List.mem_filter.mpr ⟨List.mem_of_getElem? (i := 1466) (by decide +kernel), by decide +kernel⟩⟩
set_option maxRecDepth 100000 in
theorem lk_L_61 : LV RL 61 jX10_say 1 := ⟨kbX10_say, rfl, List.mem_filter.mpr ⟨List.mem_of_getElem? (i := 1468) (by decide +kernel), by decide +kernel⟩, List.mem_filter.mpr ⟨List.mem_of_getElem? (i := 1469) (by decide +kernel), by decide +kernel⟩, List.mem_filter.mpr ⟨List.mem_of_getElem? (i := 1470) (by decide +kernel), by decide +kernel⟩⟩
set_option maxRecDepth 100000 in
theorem lk_L_65 : LV RL 65 jX10_wipe 0 := ⟨kbX10_wipe, rfl, List.mem_filter.mpr ⟨List.mem_of_getElem? (i := 1472) (by decide +kernel), by decide +kernel⟩, List.mem_filter.mpr ⟨List.mem_of_getElem? (i := 1473) (by decide +kernel), by decide +kernel⟩, List.mem_filter.mpr ⟨List.mem_of_getElem? (i := 1474) (by decide +kernel), by decide +kernel⟩⟩
set_option maxRecDepth 100000 in
theorem lk_L_69 : LV RL 69 jX10_fault 0 := ⟨kbX10_fault, rfl, List.mem_filter.mpr ⟨List.mem_of_getElem? (i := 1476) (by decide +kernel), by decide +kernel⟩, List.mem_filter.mpr ⟨List.mem_of_getElem? (i := 1477) (by decide +kernel), by decide +kernel⟩, List.mem_filter.mpr ⟨List.mem_of_getElem? (i := 1478) (by decide +kernel), by decide +kernel⟩⟩
set_option maxRecDepth 100000 in
theorem lk_X10_181 : LV RX10 181 jX10_readContour 0 := ⟨kbX10_readContour, rfl, List.mem_filter.mpr ⟨List.mem_of_getElem? (i := 1480) (by decide +kernel), by decide +kernel⟩, List.mem_filter.mpr ⟨List.mem_of_getElem? (i := 1482) (by decide +kernel), by decide +kernel⟩, List.mem_filter.mpr ⟨List.mem_of_getElem? (i := 62) (by decide +kernel), by decide +kernel⟩⟩
set_option maxRecDepth 100000 in
theorem lk_X10_140 : LV RX10 140 jX10_sign 0 := ⟨kbX10_sign, rfl, List.mem_filter.mpr ⟨List.mem_of_getElem? (i := 1484) (by decide +kernel), by decide +kernel⟩, List.mem_filter.mpr ⟨List.mem_of_getElem? (i := 1486) (by decide +kernel), by decide +kernel⟩, List.mem_filter.mpr ⟨List.mem_of_getElem? (i := 63) (by decide +kernel), by decide +kernel⟩⟩
set_option maxRecDepth 100000 in
theorem lk_X10_169 : LV RX10 169 jX10_readCommand 2 := ⟨kbX10_readCommand, rfl, List.mem_filter.mpr ⟨List.mem_of_getElem? (i := 1488) (by decide +kernel), by decide +kernel⟩, List.mem_filter.mpr ⟨List.mem_of_getElem? (i := 1490) (by decide +kernel), by decide +kernel⟩, List.mem_filter.mpr ⟨List.mem_of_getElem? (i := 64) (by decide +kernel), by decide +kernel⟩⟩
set_option maxRecDepth 100000 in
theorem lk_X10_165 : LV RX10 165 jX10_readPair 2 := ⟨kbX10_readPair, rfl, List.mem_filter.mpr ⟨List.mem_of_getElem? (i := 1492) (by decide +kernel), by decide +kernel⟩, List.mem_filter.mpr ⟨List.mem_of_getElem? (i := 1494) (by decide +kernel), by decide +kernel⟩, List.mem_filter.mpr ⟨List.mem_of_getElem? (i := 65) (by decide +kernel), by decide +kernel⟩⟩
set_option maxRecDepth 100000 in
theorem lk_X10_147 : LV RX10 147 jX10_readNumber 0 := ⟨kbX10_readNumber, rfl, List.mem_filter.mpr ⟨List.mem_of_getElem? (i := 1496) (by decide +kernel), by decide +kernel⟩, List.mem_filter.mpr ⟨List.mem_of_getElem? (i := 1498) (by decide +kernel), by decide +kernel⟩, List.mem_filter.mpr ⟨List.mem_of_getElem? (i := 66) (by decide +kernel), by decide +kernel⟩⟩
set_option maxRecDepth 100000 in
theorem lk_X10_150 : LV RX10 150 jX10_readComma 0 := ⟨kbX10_readComma, rfl, List.mem_filter.mpr ⟨List.mem_of_getElem? (i := 1500) (by decide +kernel), by decide +kernel⟩, List.mem_filter.mpr ⟨List.mem_of_getElem? (i := 1502) (by decide +kernel), by decide +kernel⟩, List.mem_filter.mpr ⟨List.mem_of_getElem? (i := 67) (by decide +kernel), by decide +kernel⟩⟩
set_option maxRecDepth 100000 in
theorem lk_X10_178 : LV RX10 178 jX10_kindAt 0 := ⟨kbX10_kindAt, rfl, List.mem_filter.mpr ⟨List.mem_of_getElem? (i := 1504) (by decide +kernel), by decide +kernel⟩, List.mem_filter.mpr ⟨List.mem_of_getElem? (i := 1506) (by decide +kernel), by decide +kernel⟩, List.mem_filter.mpr ⟨List.mem_of_getElem? (i := 68) (by decide +kernel), by decide +kernel⟩⟩
set_option maxRecDepth 100000 in
theorem lk_L_73 : LV RL 73 jX10_load 0 := ⟨kbX10_load, rfl, List.mem_filter.mpr ⟨List.mem_of_getElem? (i := 1508) (by decide +kernel), by decide +kernel⟩, List.mem_filter.mpr ⟨List.mem_of_getElem? (i := 1509) (by decide +kernel), by decide +kernel⟩, List.mem_filter.mpr ⟨List.mem_of_getElem? (i := 1510) (by decide +kernel), by decide +kernel⟩⟩
set_option maxRecDepth 100000 in
theorem lk_X10_184 : LV RX10 184 jX10_fault 0 := ⟨kbX10_fault, rfl, List.mem_filter.mpr ⟨List.mem_of_getElem? (i := 1512) (by decide +kernel), by decide +kernel⟩, List.mem_filter.mpr ⟨List.mem_of_getElem? (i := 1477) (by decide +kernel), by decide +kernel⟩, List.mem_filter.mpr ⟨List.mem_of_getElem? (i := 1478) (by decide +kernel), by decide +kernel⟩⟩
set_option maxRecDepth 100000 in
theorem lk_L_77 : LV RL 77 jX10_spell 1 := ⟨kbX10_spell, rfl, List.mem_filter.mpr ⟨List.mem_of_getElem? (i := 1514) (by decide +kernel), by decide +kernel⟩, List.mem_filter.mpr ⟨List.mem_of_getElem? (i := 1515) (by decide +kernel), by decide +kernel⟩, List.mem_filter.mpr ⟨List.mem_of_getElem? (i := 1516) (by decide +kernel), by decide +kernel⟩⟩
set_option maxRecDepth 100000 in
theorem lk_X10_191 : LV RX10 191 jX10_spellSign 1 := ⟨kbX10_spellSign, rfl, List.mem_filter.mpr ⟨List.mem_of_getElem? (i := 1518) (by decide +kernel), by decide +kernel⟩, List.mem_filter.mpr ⟨List.mem_of_getElem? (i := 1520) (by decide +kernel), by decide +kernel⟩, List.mem_filter.mpr ⟨List.mem_of_getElem? (i := 69) (by decide +kernel), by decide +kernel⟩⟩
set_option maxRecDepth 100000 in
theorem lk_X10_201 : LV RX10 201 jX10_spellPair 2 := ⟨kbX10_spellPair, rfl, List.mem_filter.mpr ⟨List.mem_of_getElem? (i := 1522) (by decide +kernel), by decide +kernel⟩, List.mem_filter.mpr ⟨List.mem_of_getElem? (i := 1524) (by decide +kernel), by decide +kernel⟩, List.mem_filter.mpr ⟨List.mem_of_getElem? (i := 70) (by decide +kernel), by decide +kernel⟩⟩
set_option maxRecDepth 100000 in
theorem lk_X10_198 : LV RX10 198 jX10_spellNumber 1 := ⟨kbX10_spellNumber, rfl, List.mem_filter.mpr ⟨List.mem_of_getElem? (i := 1526) (by decide +kernel), by decide +kernel⟩, List.mem_filter.mpr ⟨List.mem_of_getElem? (i := 1528) (by decide +kernel), by decide +kernel⟩, List.mem_filter.mpr ⟨List.mem_of_getElem? (i := 71) (by decide +kernel), by decide +kernel⟩⟩
set_option maxRecDepth 100000 in
theorem lk_L_81 : LV RL 81 jX10_measure 2 := ⟨kbX10_measure, rfl, List.mem_filter.mpr ⟨List.mem_of_getElem? (i := 1530) (by decide +kernel), by decide +kernel⟩, List.mem_filter.mpr ⟨List.mem_of_getElem? (i := 1531) (by decide +kernel), by decide +kernel⟩, List.mem_filter.mpr ⟨List.mem_of_getElem? (i := 1532) (by decide +kernel), by decide +kernel⟩⟩
set_option maxRecDepth 100000 in
theorem lk_X10_254 : LV RX10 254 jX10_measured 2 := ⟨kbX10_measured, rfl, List.mem_filter.mpr ⟨List.mem_of_getElem? (i := 1534) (by decide +kernel), by decide +kernel⟩, List.mem_filter.mpr ⟨List.mem_of_getElem? (i := 1536) (by decide +kernel), by decide +kernel⟩, List.mem_filter.mpr ⟨List.mem_of_getElem? (i := 72) (by decide +kernel), by decide +kernel⟩⟩
set_option maxRecDepth 100000 in
theorem lk_X10_245 : LV RX10 245 jX10_verticesOf 1 := ⟨kbX10_verticesOf, rfl, List.mem_filter.mpr ⟨List.mem_of_getElem? (i := 1538) (by decide +kernel), by decide +kernel⟩, List.mem_filter.mpr ⟨List.mem_of_getElem? (i := 1540) (by decide +kernel), by decide +kernel⟩, List.mem_filter.mpr ⟨List.mem_of_getElem? (i := 73) (by decide +kernel), by decide +kernel⟩⟩
set_option maxRecDepth 100000 in
theorem lk_X10_248 : LV RX10 248 jX10_lengthOfContour 1 := ⟨kbX10_lengthOfContour, rfl, List.mem_filter.mpr ⟨List.mem_of_getElem? (i := 1542) (by decide +kernel), by decide +kernel⟩, List.mem_filter.mpr ⟨List.mem_of_getElem? (i := 1544) (by decide +kernel), by decide +kernel⟩, List.mem_filter.mpr ⟨List.mem_of_getElem? (i := 74) (by decide +kernel), by decide +kernel⟩⟩
set_option maxRecDepth 100000 in
theorem lk_X10_251 : LV RX10 251 jX10_isClosed 1 := ⟨kbX10_isClosed, rfl, List.mem_filter.mpr ⟨List.mem_of_getElem? (i := 1546) (by decide +kernel), by decide +kernel⟩, List.mem_filter.mpr ⟨List.mem_of_getElem? (i := 1548) (by decide +kernel), by decide +kernel⟩, List.mem_filter.mpr ⟨List.mem_of_getElem? (i := 75) (by decide +kernel), by decide +kernel⟩⟩
set_option maxRecDepth 100000 in
theorem lk_L_86 : LV RL 86 jX10_vertex 3 := ⟨kbX10_vertex, rfl, List.mem_filter.mpr ⟨List.mem_of_getElem? (i := 1550) (by decide +kernel), by decide +kernel⟩, List.mem_filter.mpr ⟨List.mem_of_getElem? (i := 1551) (by decide +kernel), by decide +kernel⟩, List.mem_filter.mpr ⟨List.mem_of_getElem? (i := 1552) (by decide +kernel), by decide +kernel⟩⟩
set_option maxRecDepth 100000 in
theorem lk_L_90 : LV RL 90 jX10_at 3 := ⟨kbX10_at, rfl, List.mem_filter.mpr ⟨List.mem_of_getElem? (i := 1554) (by decide +kernel), by decide +kernel⟩, List.mem_filter.mpr ⟨List.mem_of_getElem? (i := 1555) (by decide +kernel), by decide +kernel⟩, List.mem_filter.mpr ⟨List.mem_of_getElem? (i := 1556) (by decide +kernel), by decide +kernel⟩⟩
set_option maxRecDepth 100000 in
theorem lk_X10_263 : LV RX10 263 jX10_placeAt 3 := ⟨kbX10_placeAt, rfl, List.mem_filter.mpr ⟨List.mem_of_getElem? (i := 1558) (by decide +kernel), by decide +kernel⟩, List.mem_filter.mpr ⟨List.mem_of_getElem? (i := 1560) (by decide +kernel), by decide +kernel⟩, List.mem_filter.mpr ⟨List.mem_of_getElem? (i := 76) (by decide +kernel), by decide +kernel⟩⟩
set_option maxRecDepth 100000 in
theorem lk_X10_257 : LV RX10 257 jX10_vertexFor 2 := ⟨kbX10_vertexFor, rfl, List.mem_filter.mpr ⟨List.mem_of_getElem? (i := 1562) (by decide +kernel), by decide +kernel⟩, List.mem_filter.mpr ⟨List.mem_of_getElem? (i := 1564) (by decide +kernel), by decide +kernel⟩, List.mem_filter.mpr ⟨List.mem_of_getElem? (i := 77) (by decide +kernel), by decide +kernel⟩⟩
set_option maxRecDepth 100000 in
theorem lk_X10_260 : LV RX10 260 jX10_segmentAt 2 := ⟨kbX10_segmentAt, rfl, List.mem_filter.mpr ⟨List.mem_of_getElem? (i := 1566) (by decide +kernel), by decide +kernel⟩, List.mem_filter.mpr ⟨List.mem_of_getElem? (i := 1568) (by decide +kernel), by decide +kernel⟩, List.mem_filter.mpr ⟨List.mem_of_getElem? (i := 78) (by decide +kernel), by decide +kernel⟩⟩
set_option maxRecDepth 100000 in
theorem lk_L_94 : LV RL 94 jX10_nearest 3 := ⟨kbX10_nearest, rfl, List.mem_filter.mpr ⟨List.mem_of_getElem? (i := 1570) (by decide +kernel), by decide +kernel⟩, List.mem_filter.mpr ⟨List.mem_of_getElem? (i := 1571) (by decide +kernel), by decide +kernel⟩, List.mem_filter.mpr ⟨List.mem_of_getElem? (i := 1572) (by decide +kernel), by decide +kernel⟩⟩
set_option maxRecDepth 100000 in
theorem lk_L_98 : LV RL 98 jX10_winding 2 := ⟨kbX10_winding, rfl, List.mem_filter.mpr ⟨List.mem_of_getElem? (i := 1575) (by decide +kernel), by decide +kernel⟩, List.mem_filter.mpr ⟨List.mem_of_getElem? (i := 1576) (by decide +kernel), by decide +kernel⟩, List.mem_filter.mpr ⟨List.mem_of_getElem? (i := 1577) (by decide +kernel), by decide +kernel⟩⟩
set_option maxRecDepth 100000 in
theorem lk_X10_268 : LT RX10 268 jX10_turnsRound 6 := ⟨kbX10_turnsRound, List.mem_filter.mpr ⟨List.mem_of_getElem? (i := 1579) (by decide +kernel), by decide +kernel⟩, List.mem_filter.mpr ⟨List.mem_of_getElem? (i := 1580) (by decide +kernel), by decide +kernel⟩⟩
set_option maxRecDepth 100000 in
theorem lk_L_103 : LV RL 103 jX10_area 1 := ⟨kbX10_area, rfl, List.mem_filter.mpr ⟨List.mem_of_getElem? (i := 1582) (by decide +kernel), by decide +kernel⟩, List.mem_filter.mpr ⟨List.mem_of_getElem? (i := 1583) (by decide +kernel), by decide +kernel⟩, List.mem_filter.mpr ⟨List.mem_of_getElem? (i := 1584) (by decide +kernel), by decide +kernel⟩⟩
set_option maxRecDepth 100000 in
theorem lk_L_107 : LV RL 107 jX10_bound 2 := ⟨kbX10_bound, rfl, List.mem_filter.mpr ⟨List.mem_of_getElem? (i := 1587) (by decide +kernel), by decide +kernel⟩, List.mem_filter.mpr ⟨List.mem_of_getElem? (i := 1588) (by decide +kernel), by decide +kernel⟩, List.mem_filter.mpr ⟨List.mem_of_getElem? (i := 1589) (by decide +kernel), by decide +kernel⟩⟩
set_option maxRecDepth 100000 in
theorem lk_L_111 : LV RL 111 jX10_simplified 3 := ⟨kbX10_simplified, rfl, List.mem_filter.mpr ⟨List.mem_of_getElem? (i := 1591) (by decide +kernel), by decide +kernel⟩, List.mem_filter.mpr ⟨List.mem_of_getElem? (i := 1592) (by decide +kernel), by decide +kernel⟩, List.mem_filter.mpr ⟨List.mem_of_getElem? (i := 1593) (by decide +kernel), by decide +kernel⟩⟩
set_option maxRecDepth 100000 in
theorem lk_X10_274 : LV RX10 274 jX10_farthest 3 := ⟨kbX10_farthest, rfl, List.mem_filter.mpr ⟨List.mem_of_getElem? (i := 1595) (by decide +kernel), by decide +kernel⟩, List.mem_filter.mpr ⟨List.mem_of_getElem? (i := 1597) (by decide +kernel), by decide +kernel⟩, List.mem_filter.mpr ⟨List.mem_of_getElem? (i := 79) (by decide +kernel), by decide +kernel⟩⟩
set_option maxRecDepth 100000 in
theorem lk_L_115 : LV RL 115 jX10_addDash 1 := ⟨kbX10_addDash, rfl, List.mem_filter.mpr ⟨List.mem_of_getElem? (i := 1599) (by decide +kernel), by decide +kernel⟩, List.mem_filter.mpr ⟨List.mem_of_getElem? (i := 1600) (by decide +kernel), by decide +kernel⟩, List.mem_filter.mpr ⟨List.mem_of_getElem? (i := 1601) (by decide +kernel), by decide +kernel⟩⟩
set_option maxRecDepth 100000 in
theorem lk_L_119 : LV RL 119 jX10_clearDashes 1 := ⟨kbX10_clearDashes, rfl, List.mem_filter.mpr ⟨List.mem_of_getElem? (i := 1604) (by decide +kernel), by decide +kernel⟩, List.mem_filter.mpr ⟨List.mem_of_getElem? (i := 1605) (by decide +kernel), by decide +kernel⟩, List.mem_filter.mpr ⟨List.mem_of_getElem? (i := 1606) (by decide +kernel), by decide +kernel⟩⟩
set_option maxRecDepth 100000 in
theorem lk_L_123 : LV RL 123 jX10_dash 3 := ⟨kbX10_dash, rfl, List.mem_filter.mpr ⟨List.mem_of_getElem? (i := 1608) (by decide +kernel), by decide +kernel⟩, List.mem_filter.mpr ⟨List.mem_of_getElem? (i := 1609) (by decide +kernel), by decide +kernel⟩, List.mem_filter.mpr ⟨List.mem_of_getElem? (i := 1610) (by decide +kernel), by decide +kernel⟩⟩
set_option maxRecDepth 100000 in
theorem lk_X10_284 : LV RX10 284 jX10_layDashes 1 := ⟨kbX10_layDashes, rfl, List.mem_filter.mpr ⟨List.mem_of_getElem? (i := 1612) (by decide +kernel), by decide +kernel⟩, List.mem_filter.mpr ⟨List.mem_of_getElem? (i := 1614) (by decide +kernel), by decide +kernel⟩, List.mem_filter.mpr ⟨List.mem_of_getElem? (i := 80) (by decide +kernel), by decide +kernel⟩⟩
set_option maxRecDepth 100000 in
theorem lk_L_127 : LV RL 127 jX10_setWidth 2 := ⟨kbX10_setWidth, rfl, List.mem_filter.mpr ⟨List.mem_of_getElem? (i := 1616) (by decide +kernel), by decide +kernel⟩, List.mem_filter.mpr ⟨List.mem_of_getElem? (i := 1617) (by decide +kernel), by decide +kernel⟩, List.mem_filter.mpr ⟨List.mem_of_getElem? (i := 1618) (by decide +kernel), by decide +kernel⟩⟩
set_option maxRecDepth 100000 in
theorem lk_X10_287 : LT RX10 287 jX10_isLetter 1 := ⟨kbX10_isLetter, List.mem_filter.mpr ⟨List.mem_of_getElem? (i := 1620) (by decide +kernel), by decide +kernel⟩, List.mem_filter.mpr ⟨List.mem_of_getElem? (i := 1621) (by decide +kernel), by decide +kernel⟩⟩
set_option maxRecDepth 100000 in
theorem lk_L_131 : LV RL 131 jX10_setKerning 3 := ⟨kbX10_setKerning, rfl, List.mem_filter.mpr ⟨List.mem_of_getElem? (i := 1623) (by decide +kernel), by decide +kernel⟩, List.mem_filter.mpr ⟨List.mem_of_getElem? (i := 1624) (by decide +kernel), by decide +kernel⟩, List.mem_filter.mpr ⟨List.mem_of_getElem? (i := 1625) (by decide +kernel), by decide +kernel⟩⟩
set_option maxRecDepth 100000 in
theorem lk_L_135 : LV RL 135 jX10_write 1 := ⟨kbX10_write, rfl, List.mem_filter.mpr ⟨List.mem_of_getElem? (i := 1627) (by decide +kernel), by decide +kernel⟩, List.mem_filter.mpr ⟨List.mem_of_getElem? (i := 1628) (by decide +kernel), by decide +kernel⟩, List.mem_filter.mpr ⟨List.mem_of_getElem? (i := 1629) (by decide +kernel), by decide +kernel⟩⟩
set_option maxRecDepth 100000 in
theorem lk_L_139 : LV RL 139 jX10_erase 0 := ⟨kbX10_erase, rfl, List.mem_filter.mpr ⟨List.mem_of_getElem? (i := 1631) (by decide +kernel), by decide +kernel⟩, List.mem_filter.mpr ⟨List.mem_of_getElem? (i := 1632) (by decide +kernel), by decide +kernel⟩, List.mem_filter.mpr ⟨List.mem_of_getElem? (i := 1633) (by decide +kernel), by decide +kernel⟩⟩
set_option maxRecDepth 100000 in
theorem lk_L_143 : LV RL 143 jX10_arrange 3 := ⟨kbX10_arrange, rfl, List.mem_filter.mpr ⟨List.mem_of_getElem? (i := 1635) (by decide +kernel), by decide +kernel⟩, List.mem_filter.mpr ⟨List.mem_of_getElem? (i := 1636) (by decide +kernel), by decide +kernel⟩, List.mem_filter.mpr ⟨List.mem_of_getElem? (i := 1637) (by decide +kernel), by decide +kernel⟩⟩
set_option maxRecDepth 100000 in
theorem lk_L_147 : LV RL 147 jX10_letter 3 := ⟨kbX10_letter, rfl, List.mem_filter.mpr ⟨List.mem_of_getElem? (i := 1639) (by decide +kernel), by decide +kernel⟩, List.mem_filter.mpr ⟨List.mem_of_getElem? (i := 1640) (by decide +kernel), by decide +kernel⟩, List.mem_filter.mpr ⟨List.mem_of_getElem? (i := 1641) (by decide +kernel), by decide +kernel⟩⟩
set_option maxRecDepth 100000 in
theorem lk_X10_320 : LV RX10 320 jX10_layLetters 1 := ⟨kbX10_layLetters, rfl, List.mem_filter.mpr ⟨List.mem_of_getElem? (i := 1643) (by decide +kernel), by decide +kernel⟩, List.mem_filter.mpr ⟨List.mem_of_getElem? (i := 1645) (by decide +kernel), by decide +kernel⟩, List.mem_filter.mpr ⟨List.mem_of_getElem? (i := 81) (by decide +kernel), by decide +kernel⟩⟩
set_option maxRecDepth 100000 in
theorem lk_X10_314 : LV RX10 314 jX10_layOn 1 := ⟨kbX10_layOn, rfl, List.mem_filter.mpr ⟨List.mem_of_getElem? (i := 1647) (by decide +kernel), by decide +kernel⟩, List.mem_filter.mpr ⟨List.mem_of_getElem? (i := 1649) (by decide +kernel), by decide +kernel⟩, List.mem_filter.mpr ⟨List.mem_of_getElem? (i := 82) (by decide +kernel), by decide +kernel⟩⟩
set_option maxRecDepth 100000 in
theorem lk_X10_311 : LV RX10 311 jX10_hasSegments 1 := ⟨kbX10_hasSegments, rfl, List.mem_filter.mpr ⟨List.mem_of_getElem? (i := 1651) (by decide +kernel), by decide +kernel⟩, List.mem_filter.mpr ⟨List.mem_of_getElem? (i := 1653) (by decide +kernel), by decide +kernel⟩, List.mem_filter.mpr ⟨List.mem_of_getElem? (i := 83) (by decide +kernel), by decide +kernel⟩⟩
set_option maxRecDepth 100000 in
theorem lk_X10_305 : LV RX10 305 jX10_widthOf 1 := ⟨kbX10_widthOf, rfl, List.mem_filter.mpr ⟨List.mem_of_getElem? (i := 1655) (by decide +kernel), by decide +kernel⟩, List.mem_filter.mpr ⟨List.mem_of_getElem? (i := 1657) (by decide +kernel), by decide +kernel⟩, List.mem_filter.mpr ⟨List.mem_of_getElem? (i := 84) (by decide +kernel), by decide +kernel⟩⟩
set_option maxRecDepth 100000 in
theorem lk_X10_308 : LV RX10 308 jX10_advance 1 := ⟨kbX10_advance, rfl, List.mem_filter.mpr ⟨List.mem_of_getElem? (i := 1659) (by decide +kernel), by decide +kernel⟩, List.mem_filter.mpr ⟨List.mem_of_getElem? (i := 1661) (by decide +kernel), by decide +kernel⟩, List.mem_filter.mpr ⟨List.mem_of_getElem? (i := 85) (by decide +kernel), by decide +kernel⟩⟩
set_option maxRecDepth 100000 in
theorem lk_X10_317 : LV RX10 317 jX10_layOne 1 := ⟨kbX10_layOne, rfl, List.mem_filter.mpr ⟨List.mem_of_getElem? (i := 1663) (by decide +kernel), by decide +kernel⟩, List.mem_filter.mpr ⟨List.mem_of_getElem? (i := 1665) (by decide +kernel), by decide +kernel⟩, List.mem_filter.mpr ⟨List.mem_of_getElem? (i := 86) (by decide +kernel), by decide +kernel⟩⟩
set_option maxRecDepth 100000 in
theorem lk_L_151 : LV RL 151 jX10_placed 2 := ⟨kbX10_placed, rfl, List.mem_filter.mpr ⟨List.mem_of_getElem? (i := 1667) (by decide +kernel), by decide +kernel⟩, List.mem_filter.mpr ⟨List.mem_of_getElem? (i := 1668) (by decide +kernel), by decide +kernel⟩, List.mem_filter.mpr ⟨List.mem_of_getElem? (i := 1669) (by decide +kernel), by decide +kernel⟩⟩
set_option maxRecDepth 100000 in
theorem lk_X10_323 : LV RX10 323 jX10_turnsBack 2 := ⟨kbX10_turnsBack, rfl, List.mem_filter.mpr ⟨List.mem_of_getElem? (i := 1671) (by decide +kernel), by decide +kernel⟩, List.mem_filter.mpr ⟨List.mem_of_getElem? (i := 1673) (by decide +kernel), by decide +kernel⟩, List.mem_filter.mpr ⟨List.mem_of_getElem? (i := 87) (by decide +kernel), by decide +kernel⟩⟩
set_option maxRecDepth 100000 in
theorem lk_L_155 : LV RL 155 jX10_count 1 := ⟨kbX10_count, rfl, List.mem_filter.mpr ⟨List.mem_of_getElem? (i := 1675) (by decide +kernel), by decide +kernel⟩, List.mem_filter.mpr ⟨List.mem_of_getElem? (i := 1676) (by decide +kernel), by decide +kernel⟩, List.mem_filter.mpr ⟨List.mem_of_getElem? (i := 1677) (by decide +kernel), by decide +kernel⟩⟩
set_option maxRecDepth 100000 in
theorem lk_L_159 : LV RL 159 jX10_save 1 := ⟨kbX10_save, rfl, List.mem_filter.mpr ⟨List.mem_of_getElem? (i := 1679) (by decide +kernel), by decide +kernel⟩, List.mem_filter.mpr ⟨List.mem_of_getElem? (i := 1680) (by decide +kernel), by decide +kernel⟩, List.mem_filter.mpr ⟨List.mem_of_getElem? (i := 1681) (by decide +kernel), by decide +kernel⟩⟩
set_option maxRecDepth 100000 in
theorem lk_L_163 : LV RL 163 jX10_restore 1 := ⟨kbX10_restore, rfl, List.mem_filter.mpr ⟨List.mem_of_getElem? (i := 1683) (by decide +kernel), by decide +kernel⟩, List.mem_filter.mpr ⟨List.mem_of_getElem? (i := 1684) (by decide +kernel), by decide +kernel⟩, List.mem_filter.mpr ⟨List.mem_of_getElem? (i := 1685) (by decide +kernel), by decide +kernel⟩⟩
set_option maxRecDepth 100000 in
theorem pr_mmax_st : Cond.static Lib.Math.max.name ∈ wA := List.mem_filter.mpr ⟨List.mem_of_getElem? (i := 712) (by decide +kernel), by decide +kernel⟩
set_option maxRecDepth 100000 in
theorem pr_mmax_code : Cond.code Lib.Math.max.name Lib.Math.max.code 2 (some .int) ∈ wA := List.mem_filter.mpr ⟨List.mem_of_getElem? (i := 713) (by decide +kernel), by decide +kernel⟩
set_option maxRecDepth 100000 in
theorem pr_mmax_J1_92 : Cond.methodLink RJ1 92 Lib.Math.max.name ∈ wA := List.mem_filter.mpr ⟨List.mem_of_getElem? (i := 711) (by decide +kernel), by decide +kernel⟩
set_option maxRecDepth 100000 in
theorem pr_mmax_J2_224 : Cond.methodLink RJ2 224 Lib.Math.max.name ∈ wA := List.mem_filter.mpr ⟨List.mem_of_getElem? (i := 723) (by decide +kernel), by decide +kernel⟩
set_option maxRecDepth 100000 in
theorem pr_mmax_X1_168 : Cond.methodLink RX1 168 Lib.Math.max.name ∈ wA := List.mem_filter.mpr ⟨List.mem_of_getElem? (i := 990) (by decide +kernel), by decide +kernel⟩
set_option maxRecDepth 100000 in
theorem pr_mmax_X0_35 : Cond.methodLink RX0 35 Lib.Math.max.name ∈ wA := List.mem_filter.mpr ⟨List.mem_of_getElem? (i := 1051) (by decide +kernel), by decide +kernel⟩
set_option maxRecDepth 100000 in
theorem pr_mmin_st : Cond.static Lib.Math.min.name ∈ wA := List.mem_filter.mpr ⟨List.mem_of_getElem? (i := 715) (by decide +kernel), by decide +kernel⟩
set_option maxRecDepth 100000 in
theorem pr_mmin_code : Cond.code Lib.Math.min.name Lib.Math.min.code 2 (some .int) ∈ wA := List.mem_filter.mpr ⟨List.mem_of_getElem? (i := 716) (by decide +kernel), by decide +kernel⟩
set_option maxRecDepth 100000 in
theorem pr_mmin_J1_38 : Cond.methodLink RJ1 38 Lib.Math.min.name ∈ wA := List.mem_filter.mpr ⟨List.mem_of_getElem? (i := 714) (by decide +kernel), by decide +kernel⟩
set_option maxRecDepth 100000 in
theorem pr_mmin_J2_183 : Cond.methodLink RJ2 183 Lib.Math.min.name ∈ wA := List.mem_filter.mpr ⟨List.mem_of_getElem? (i := 724) (by decide +kernel), by decide +kernel⟩
set_option maxRecDepth 100000 in
theorem pr_mmin_X1_166 : Cond.methodLink RX1 166 Lib.Math.min.name ∈ wA := List.mem_filter.mpr ⟨List.mem_of_getElem? (i := 989) (by decide +kernel), by decide +kernel⟩
set_option maxRecDepth 100000 in
theorem pr_mmin_X0_41 : Cond.methodLink RX0 41 Lib.Math.min.name ∈ wA := List.mem_filter.mpr ⟨List.mem_of_getElem? (i := 1052) (by decide +kernel), by decide +kernel⟩
set_option maxRecDepth 100000 in
theorem pr_mabs_st : Cond.static Lib.Math.abs.name ∈ wA := List.mem_filter.mpr ⟨List.mem_of_getElem? (i := 543) (by decide +kernel), by decide +kernel⟩
set_option maxRecDepth 100000 in
theorem pr_mabs_code : Cond.code Lib.Math.abs.name Lib.Math.abs.code 1 (some .int) ∈ wA := List.mem_filter.mpr ⟨List.mem_of_getElem? (i := 544) (by decide +kernel), by decide +kernel⟩
set_option maxRecDepth 100000 in
theorem pr_mabs_X2_45 : Cond.methodLink RX2 45 Lib.Math.abs.name ∈ wA := List.mem_filter.mpr ⟨List.mem_of_getElem? (i := 542) (by decide +kernel), by decide +kernel⟩
set_option maxRecDepth 100000 in
theorem pr_mabs_X8_54 : Cond.methodLink RX8 54 Lib.Math.abs.name ∈ wA := List.mem_filter.mpr ⟨List.mem_of_getElem? (i := 846) (by decide +kernel), by decide +kernel⟩
set_option maxRecDepth 100000 in
theorem pr_mmaxL_st : Cond.static Lib.MathLoose.max_long.x ∈ wA := List.mem_filter.mpr ⟨List.mem_of_getElem? (i := 947) (by decide +kernel), by decide +kernel⟩
set_option maxRecDepth 100000 in
theorem pr_mmaxL_code : Cond.code Lib.MathLoose.max_long.x Lib.MathLoose.max_long.code 4 (some .long) ∈ wA := List.mem_filter.mpr ⟨List.mem_of_getElem? (i := 948) (by decide +kernel), by decide +kernel⟩
set_option maxRecDepth 100000 in
theorem pr_mmaxL_X1_147 : Cond.methodLink RX1 147 Lib.MathLoose.max_long.x ∈ wA := List.mem_filter.mpr ⟨List.mem_of_getElem? (i := 946) (by decide +kernel), by decide +kernel⟩
set_option maxRecDepth 100000 in
theorem pr_mminL_st : Cond.static Lib.MathLoose.min_long.x ∈ wA := List.mem_filter.mpr ⟨List.mem_of_getElem? (i := 950) (by decide +kernel), by decide +kernel⟩
set_option maxRecDepth 100000 in
theorem pr_mminL_code : Cond.code Lib.MathLoose.min_long.x Lib.MathLoose.min_long.code 4 (some .long) ∈ wA := List.mem_filter.mpr ⟨List.mem_of_getElem? (i := 951) (by decide +kernel), by decide +kernel⟩
set_option maxRecDepth 100000 in
theorem pr_mminL_X1_153 : Cond.methodLink RX1 153 Lib.MathLoose.min_long.x ∈ wA := List.mem_filter.mpr ⟨List.mem_of_getElem? (i := 949) (by decide +kernel), by decide +kernel⟩
set_option maxRecDepth 100000 in
theorem pr_math : Cond.initialized "java/lang/Math" ∈ wA := List.mem_filter.mpr ⟨List.mem_of_getElem? (i := 100) (by decide +kernel), by decide +kernel⟩
set_option maxRecDepth 100000 in
theorem pr_ac_nat : Cond.native arraycopyName ∈ wA := List.mem_filter.mpr ⟨List.mem_of_getElem? (i := 620) (by decide +kernel), by decide +kernel⟩
set_option maxRecDepth 100000 in
theorem pr_ac_st : Cond.static arraycopyName ∈ wA := List.mem_filter.mpr ⟨List.mem_of_getElem? (i := 619) (by decide +kernel), by decide +kernel⟩
set_option maxRecDepth 100000 in
theorem pr_sys : Cond.initialized "java/lang/System" ∈ wA := List.mem_filter.mpr ⟨List.mem_of_getElem? (i := 101) (by decide +kernel), by decide +kernel⟩
set_option maxRecDepth 100000 in
theorem pr_ac_X5_29 : Cond.methodLink RX5 29 arraycopyName ∈ wA := List.mem_filter.mpr ⟨List.mem_of_getElem? (i := 618) (by decide +kernel), by decide +kernel⟩
set_option maxRecDepth 100000 in
theorem st_fits : Cond.static yX9_fits ∈ wA := List.mem_filter.mpr ⟨List.mem_of_getElem? (i := 413) (by decide +kernel), by decide +kernel⟩
set_option maxRecDepth 100000 in
theorem st_isLetter : Cond.static yX9_isLetter ∈ wA := List.mem_filter.mpr ⟨List.mem_of_getElem? (i := 1075) (by decide +kernel), by decide +kernel⟩
set_option maxRecDepth 100000 in
theorem st_between : Cond.static yX9_between ∈ wA := List.mem_filter.mpr ⟨List.mem_of_getElem? (i := 416) (by decide +kernel), by decide +kernel⟩
theorem nwr1 : ∀ {g : gX} (U : State), wrd g U → va_Nw (.methodLinkNest RX5 56 yX9_fits "PathFlattener") U := fun _ h => h.1
theorem nwr2 : ∀ {g : gX} (U : State), wrd g U → va_Nw (.methodLinkNest RX3 43 yX9_isLetter "PathFlattener") U := fun _ h => h.2.1
theorem nwr3 : ∀ {g : gX} (U : State), wrd g U → va_Nw (.methodLinkNest RX3 93 yX9_between "PathFlattener") U := fun _ h => h.2.2.1
theorem nwr4 : ∀ {g : gX} (U : State), wrd g U → va_Nw (.fieldLinkNest RX5 35 "PathFlattener" "POINTS" "[I" "PathFlattener") U := fun _ h => h.2.2.2.1.1
theorem nwr5 : ∀ {g : gX} (U : State), wrd g U → va_Nw (.fieldLinkNest RX6 94 "PathFlattener" "POINTS" "[I" "PathFlattener") U := fun _ h => h.2.2.2.1.2
