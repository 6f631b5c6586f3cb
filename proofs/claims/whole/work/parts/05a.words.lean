theorem wfl_X4_11 : am_T (.fieldLink RX4 11 "DifferRings$Sheet" "lane" "I") := ⟨List.mem_append_right _ (List.mem_of_getElem? (i := 29) (by decide +kernel)), by decide +kernel⟩
theorem fl_X4_11 : am_fl RX4 11 4 0 := ⟨RX4, TX4, 3, rfl, by decide, wfl_X4_11⟩
theorem wfl_X4_15 : am_T (.fieldLink RX4 15 "DifferRings$Sheet" "size" "I") := ⟨List.mem_append_right _ (List.mem_of_getElem? (i := 30) (by decide +kernel)), by decide +kernel⟩
theorem fl_X4_15 : am_fl RX4 15 4 1 := ⟨RX4, TX4, 3, rfl, by decide, wfl_X4_15⟩
theorem wfl_X4_18 : am_T (.fieldLink RX4 18 "DifferRings$Sheet" "cells" "[I") := ⟨List.mem_append_right _ (List.mem_of_getElem? (i := 31) (by decide +kernel)), by decide +kernel⟩
theorem fl_X4_18 : am_fl RX4 18 4 2 := ⟨RX4, TX4, 3, rfl, by decide, wfl_X4_18⟩
theorem wfl_X7_274 : am_T (.fieldLink RX7 274 "DifferRings$Sheet" "cells" "[I") := ⟨List.mem_append_right _ (List.mem_of_getElem? (i := 32) (by decide +kernel)), by decide +kernel⟩
theorem fl_X7_274 : am_fl RX7 274 4 2 := ⟨RX4, TX4, 3, rfl, by decide, wfl_X7_274⟩
theorem wfl_X3_9 : am_T (.fieldLink RX3 9 "DifferRings$Ring" "base" "I") := ⟨List.mem_append_right _ (List.mem_of_getElem? (i := 47) (by decide +kernel)), by decide +kernel⟩
theorem fl_X3_9 : am_fl RX3 9 3 0 := ⟨RX3, TX3, 5, rfl, by decide, wfl_X3_9⟩
theorem wfl_X0_70 : am_T (.fieldLink RX0 70 "DifferRings$Ring" "base" "I") := ⟨List.mem_append_right _ (List.mem_of_getElem? (i := 48) (by decide +kernel)), by decide +kernel⟩
theorem fl_X0_70 : am_fl RX0 70 3 0 := ⟨RX3, TX3, 5, rfl, by decide, wfl_X0_70⟩
theorem wfl_X6_24 : am_T (.fieldLink RX6 24 "DifferRings$Ring" "base" "I") := ⟨List.mem_append_right _ (List.mem_of_getElem? (i := 49) (by decide +kernel)), by decide +kernel⟩
theorem fl_X6_24 : am_fl RX6 24 3 0 := ⟨RX3, TX3, 5, rfl, by decide, wfl_X6_24⟩
theorem wfl_X7_235 : am_T (.fieldLink RX7 235 "DifferRings$Ring" "base" "I") := ⟨List.mem_append_right _ (List.mem_of_getElem? (i := 50) (by decide +kernel)), by decide +kernel⟩
theorem fl_X7_235 : am_fl RX7 235 3 0 := ⟨RX3, TX3, 5, rfl, by decide, wfl_X7_235⟩
theorem wfl_X3_15 : am_T (.fieldLink RX3 15 "DifferRings$Ring" "size" "I") := ⟨List.mem_append_right _ (List.mem_of_getElem? (i := 51) (by decide +kernel)), by decide +kernel⟩
theorem fl_X3_15 : am_fl RX3 15 3 1 := ⟨RX3, TX3, 5, rfl, by decide, wfl_X3_15⟩
theorem wfl_X7_95 : am_T (.fieldLink RX7 95 "DifferRings$Ring" "size" "I") := ⟨List.mem_append_right _ (List.mem_of_getElem? (i := 52) (by decide +kernel)), by decide +kernel⟩
theorem fl_X7_95 : am_fl RX7 95 3 1 := ⟨RX3, TX3, 5, rfl, by decide, wfl_X7_95⟩
theorem wfl_X0_67 : am_T (.fieldLink RX0 67 "DifferRings$Ring" "size" "I") := ⟨List.mem_append_right _ (List.mem_of_getElem? (i := 53) (by decide +kernel)), by decide +kernel⟩
theorem fl_X0_67 : am_fl RX0 67 3 1 := ⟨RX3, TX3, 5, rfl, by decide, wfl_X0_67⟩
theorem wfl_X6_36 : am_T (.fieldLink RX6 36 "DifferRings$Ring" "size" "I") := ⟨List.mem_append_right _ (List.mem_of_getElem? (i := 54) (by decide +kernel)), by decide +kernel⟩
theorem fl_X6_36 : am_fl RX6 36 3 1 := ⟨RX3, TX3, 5, rfl, by decide, wfl_X6_36⟩
theorem wfl_X3_18 : am_T (.fieldLink RX3 18 "DifferRings$Ring" "kind" "[I") := ⟨List.mem_append_right _ (List.mem_of_getElem? (i := 55) (by decide +kernel)), by decide +kernel⟩
theorem fl_X3_18 : am_fl RX3 18 3 2 := ⟨RX3, TX3, 5, rfl, by decide, wfl_X3_18⟩
theorem wfl_X7_101 : am_T (.fieldLink RX7 101 "DifferRings$Ring" "kind" "[I") := ⟨List.mem_append_right _ (List.mem_of_getElem? (i := 56) (by decide +kernel)), by decide +kernel⟩
theorem fl_X7_101 : am_fl RX7 101 3 2 := ⟨RX3, TX3, 5, rfl, by decide, wfl_X7_101⟩
theorem wfl_X6_39 : am_T (.fieldLink RX6 39 "DifferRings$Ring" "kind" "[I") := ⟨List.mem_append_right _ (List.mem_of_getElem? (i := 57) (by decide +kernel)), by decide +kernel⟩
theorem fl_X6_39 : am_fl RX6 39 3 2 := ⟨RX3, TX3, 5, rfl, by decide, wfl_X6_39⟩
theorem wfl_X3_22 : am_T (.fieldLink RX3 22 "DifferRings$Ring" "number" "[I") := ⟨List.mem_append_right _ (List.mem_of_getElem? (i := 58) (by decide +kernel)), by decide +kernel⟩
theorem fl_X3_22 : am_fl RX3 22 3 3 := ⟨RX3, TX3, 5, rfl, by decide, wfl_X3_22⟩
theorem wfl_X7_105 : am_T (.fieldLink RX7 105 "DifferRings$Ring" "number" "[I") := ⟨List.mem_append_right _ (List.mem_of_getElem? (i := 59) (by decide +kernel)), by decide +kernel⟩
theorem fl_X7_105 : am_fl RX7 105 3 3 := ⟨RX3, TX3, 5, rfl, by decide, wfl_X7_105⟩
theorem wfl_X1_52 : am_T (.fieldLink RX1 52 "DifferRings$Ring" "number" "[I") := ⟨List.mem_append_right _ (List.mem_of_getElem? (i := 60) (by decide +kernel)), by decide +kernel⟩
theorem fl_X1_52 : am_fl RX1 52 3 3 := ⟨RX3, TX3, 5, rfl, by decide, wfl_X1_52⟩
theorem wfl_X6_43 : am_T (.fieldLink RX6 43 "DifferRings$Ring" "number" "[I") := ⟨List.mem_append_right _ (List.mem_of_getElem? (i := 61) (by decide +kernel)), by decide +kernel⟩
theorem fl_X6_43 : am_fl RX6 43 3 3 := ⟨RX3, TX3, 5, rfl, by decide, wfl_X6_43⟩
theorem wfl_X3_25 : am_T (.fieldLink RX3 25 "DifferRings$Ring" "coming" "[I") := ⟨List.mem_append_right _ (List.mem_of_getElem? (i := 62) (by decide +kernel)), by decide +kernel⟩
theorem fl_X3_25 : am_fl RX3 25 3 4 := ⟨RX3, TX3, 5, rfl, by decide, wfl_X3_25⟩
theorem wfl_X0_12 : am_T (.fieldLink RX0 12 "DifferRings$AllRows" "probe" "LDifferRings$Ring;") := ⟨List.mem_append_right _ (List.mem_of_getElem? (i := 82) (by decide +kernel)), by decide +kernel⟩
theorem fl_X0_12 : am_fl RX0 12 0 0 := ⟨RX0, TX0, 14, rfl, by decide, wfl_X0_12⟩
theorem wfl_X0_18 : am_T (.fieldLink RX0 18 "DifferRings$AllRows" "next" "[I") := ⟨List.mem_append_right _ (List.mem_of_getElem? (i := 83) (by decide +kernel)), by decide +kernel⟩
theorem fl_X0_18 : am_fl RX0 18 0 1 := ⟨RX0, TX0, 14, rfl, by decide, wfl_X0_18⟩
theorem wfl_X0_22 : am_T (.fieldLink RX0 22 "DifferRings$AllRows" "comers" "[I") := ⟨List.mem_append_right _ (List.mem_of_getElem? (i := 84) (by decide +kernel)), by decide +kernel⟩
theorem fl_X0_22 : am_fl RX0 22 0 2 := ⟨RX0, TX0, 14, rfl, by decide, wfl_X0_22⟩
theorem wfl_X0_25 : am_T (.fieldLink RX0 25 "DifferRings$AllRows" "order" "[I") := ⟨List.mem_append_right _ (List.mem_of_getElem? (i := 85) (by decide +kernel)), by decide +kernel⟩
theorem fl_X0_25 : am_fl RX0 25 0 3 := ⟨RX0, TX0, 14, rfl, by decide, wfl_X0_25⟩
theorem wfl_X0_28 : am_T (.fieldLink RX0 28 "DifferRings$AllRows" "root" "[I") := ⟨List.mem_append_right _ (List.mem_of_getElem? (i := 86) (by decide +kernel)), by decide +kernel⟩
theorem fl_X0_28 : am_fl RX0 28 0 4 := ⟨RX0, TX0, 14, rfl, by decide, wfl_X0_28⟩
theorem wfl_X0_31 : am_T (.fieldLink RX0 31 "DifferRings$AllRows" "tail" "[I") := ⟨List.mem_append_right _ (List.mem_of_getElem? (i := 87) (by decide +kernel)), by decide +kernel⟩
theorem fl_X0_31 : am_fl RX0 31 0 5 := ⟨RX0, TX0, 14, rfl, by decide, wfl_X0_31⟩
theorem wfl_X0_34 : am_T (.fieldLink RX0 34 "DifferRings$AllRows" "ordered" "I") := ⟨List.mem_append_right _ (List.mem_of_getElem? (i := 88) (by decide +kernel)), by decide +kernel⟩
theorem fl_X0_34 : am_fl RX0 34 0 6 := ⟨RX0, TX0, 14, rfl, by decide, wfl_X0_34⟩
theorem wfl_X0_38 : am_T (.fieldLink RX0 38 "DifferRings$AllRows" "count" "I") := ⟨List.mem_append_right _ (List.mem_of_getElem? (i := 89) (by decide +kernel)), by decide +kernel⟩
theorem fl_X0_38 : am_fl RX0 38 0 7 := ⟨RX0, TX0, 14, rfl, by decide, wfl_X0_38⟩
theorem wfl_X5_35 : am_T (.fieldLink RX5 35 "DifferRings$AllRows" "count" "I") := ⟨List.mem_append_right _ (List.mem_of_getElem? (i := 90) (by decide +kernel)), by decide +kernel⟩
theorem fl_X5_35 : am_fl RX5 35 0 7 := ⟨RX0, TX0, 14, rfl, by decide, wfl_X5_35⟩
theorem wfl_X7_190 : am_T (.fieldLink RX7 190 "DifferRings$AllRows" "count" "I") := ⟨List.mem_append_right _ (List.mem_of_getElem? (i := 91) (by decide +kernel)), by decide +kernel⟩
theorem fl_X7_190 : am_fl RX7 190 0 7 := ⟨RX0, TX0, 14, rfl, by decide, wfl_X7_190⟩
theorem wfl_X0_41 : am_T (.fieldLink RX0 41 "DifferRings$AllRows" "staying" "I") := ⟨List.mem_append_right _ (List.mem_of_getElem? (i := 92) (by decide +kernel)), by decide +kernel⟩
theorem fl_X0_41 : am_fl RX0 41 0 8 := ⟨RX0, TX0, 14, rfl, by decide, wfl_X0_41⟩
theorem wfl_X7_191 : am_T (.fieldLink RX7 191 "DifferRings$AllRows" "staying" "I") := ⟨List.mem_append_right _ (List.mem_of_getElem? (i := 93) (by decide +kernel)), by decide +kernel⟩
theorem fl_X7_191 : am_fl RX7 191 0 8 := ⟨RX0, TX0, 14, rfl, by decide, wfl_X7_191⟩
theorem wfl_X0_44 : am_T (.fieldLink RX0 44 "DifferRings$AllRows" "barren" "I") := ⟨List.mem_append_right _ (List.mem_of_getElem? (i := 94) (by decide +kernel)), by decide +kernel⟩
theorem fl_X0_44 : am_fl RX0 44 0 9 := ⟨RX0, TX0, 14, rfl, by decide, wfl_X0_44⟩
theorem wfl_X7_194 : am_T (.fieldLink RX7 194 "DifferRings$AllRows" "barren" "I") := ⟨List.mem_append_right _ (List.mem_of_getElem? (i := 95) (by decide +kernel)), by decide +kernel⟩
theorem fl_X7_194 : am_fl RX7 194 0 9 := ⟨RX0, TX0, 14, rfl, by decide, wfl_X7_194⟩
theorem wfl_X0_47 : am_T (.fieldLink RX0 47 "DifferRings$AllRows" "goingOut" "I") := ⟨List.mem_append_right _ (List.mem_of_getElem? (i := 96) (by decide +kernel)), by decide +kernel⟩
theorem fl_X0_47 : am_fl RX0 47 0 10 := ⟨RX0, TX0, 14, rfl, by decide, wfl_X0_47⟩
theorem wfl_X7_197 : am_T (.fieldLink RX7 197 "DifferRings$AllRows" "goingOut" "I") := ⟨List.mem_append_right _ (List.mem_of_getElem? (i := 97) (by decide +kernel)), by decide +kernel⟩
theorem fl_X7_197 : am_fl RX7 197 0 10 := ⟨RX0, TX0, 14, rfl, by decide, wfl_X7_197⟩
theorem wfl_X0_50 : am_T (.fieldLink RX0 50 "DifferRings$AllRows" "rounds" "I") := ⟨List.mem_append_right _ (List.mem_of_getElem? (i := 98) (by decide +kernel)), by decide +kernel⟩
theorem fl_X0_50 : am_fl RX0 50 0 11 := ⟨RX0, TX0, 14, rfl, by decide, wfl_X0_50⟩
theorem wfl_X7_200 : am_T (.fieldLink RX7 200 "DifferRings$AllRows" "rounds" "I") := ⟨List.mem_append_right _ (List.mem_of_getElem? (i := 99) (by decide +kernel)), by decide +kernel⟩
theorem fl_X7_200 : am_fl RX7 200 0 11 := ⟨RX0, TX0, 14, rfl, by decide, wfl_X7_200⟩
theorem wfl_X0_53 : am_T (.fieldLink RX0 53 "DifferRings$AllRows" "longestTail" "I") := ⟨List.mem_append_right _ (List.mem_of_getElem? (i := 100) (by decide +kernel)), by decide +kernel⟩
theorem fl_X0_53 : am_fl RX0 53 0 12 := ⟨RX0, TX0, 14, rfl, by decide, wfl_X0_53⟩
theorem wfl_X7_203 : am_T (.fieldLink RX7 203 "DifferRings$AllRows" "longestTail" "I") := ⟨List.mem_append_right _ (List.mem_of_getElem? (i := 101) (by decide +kernel)), by decide +kernel⟩
theorem fl_X7_203 : am_fl RX7 203 0 12 := ⟨RX0, TX0, 14, rfl, by decide, wfl_X7_203⟩
theorem wfl_X0_56 : am_T (.fieldLink RX0 56 "DifferRings$AllRows" "firstOfLongest" "I") := ⟨List.mem_append_right _ (List.mem_of_getElem? (i := 102) (by decide +kernel)), by decide +kernel⟩
theorem fl_X0_56 : am_fl RX0 56 0 13 := ⟨RX0, TX0, 14, rfl, by decide, wfl_X0_56⟩
theorem wfl_X7_206 : am_T (.fieldLink RX7 206 "DifferRings$AllRows" "firstOfLongest" "I") := ⟨List.mem_append_right _ (List.mem_of_getElem? (i := 103) (by decide +kernel)), by decide +kernel⟩
theorem fl_X7_206 : am_fl RX7 206 0 13 := ⟨RX0, TX0, 14, rfl, by decide, wfl_X7_206⟩
theorem wfl_X5_9 : am_T (.fieldLink RX5 9 "DifferRings$Spread" "row" "[I") := ⟨List.mem_append_right _ (List.mem_of_getElem? (i := 139) (by decide +kernel)), by decide +kernel⟩
theorem fl_X5_9 : am_fl RX5 9 5 0 := ⟨RX5, TX5, 5, rfl, by decide, wfl_X5_9⟩
theorem wfl_X5_15 : am_T (.fieldLink RX5 15 "DifferRings$Spread" "weight" "[I") := ⟨List.mem_append_right _ (List.mem_of_getElem? (i := 140) (by decide +kernel)), by decide +kernel⟩
theorem fl_X5_15 : am_fl RX5 15 5 1 := ⟨RX5, TX5, 5, rfl, by decide, wfl_X5_15⟩
theorem wfl_X5_18 : am_T (.fieldLink RX5 18 "DifferRings$Spread" "place" "[I") := ⟨List.mem_append_right _ (List.mem_of_getElem? (i := 141) (by decide +kernel)), by decide +kernel⟩
theorem fl_X5_18 : am_fl RX5 18 5 2 := ⟨RX5, TX5, 5, rfl, by decide, wfl_X5_18⟩
theorem wfl_X5_21 : am_T (.fieldLink RX5 21 "DifferRings$Spread" "unlike" "I") := ⟨List.mem_append_right _ (List.mem_of_getElem? (i := 142) (by decide +kernel)), by decide +kernel⟩
theorem fl_X5_21 : am_fl RX5 21 5 3 := ⟨RX5, TX5, 5, rfl, by decide, wfl_X5_21⟩
theorem wfl_X5_25 : am_T (.fieldLink RX5 25 "DifferRings$Spread" "age" "I") := ⟨List.mem_append_right _ (List.mem_of_getElem? (i := 143) (by decide +kernel)), by decide +kernel⟩
theorem fl_X5_25 : am_fl RX5 25 5 4 := ⟨RX5, TX5, 5, rfl, by decide, wfl_X5_25⟩
theorem wfl_X2_9 : am_T (.fieldLink RX2 9 "DifferRings$Readings" "time" "[I") := ⟨List.mem_append_right _ (List.mem_of_getElem? (i := 161) (by decide +kernel)), by decide +kernel⟩
theorem fl_X2_9 : am_fl RX2 9 2 0 := ⟨RX2, TX2, 4, rfl, by decide, wfl_X2_9⟩
theorem wfl_X2_15 : am_T (.fieldLink RX2 15 "DifferRings$Readings" "place" "[I") := ⟨List.mem_append_right _ (List.mem_of_getElem? (i := 162) (by decide +kernel)), by decide +kernel⟩
theorem fl_X2_15 : am_fl RX2 15 2 1 := ⟨RX2, TX2, 4, rfl, by decide, wfl_X2_15⟩
theorem wfl_X2_18 : am_T (.fieldLink RX2 18 "DifferRings$Readings" "number" "[I") := ⟨List.mem_append_right _ (List.mem_of_getElem? (i := 163) (by decide +kernel)), by decide +kernel⟩
theorem fl_X2_18 : am_fl RX2 18 2 2 := ⟨RX2, TX2, 4, rfl, by decide, wfl_X2_18⟩
theorem wfl_X2_21 : am_T (.fieldLink RX2 21 "DifferRings$Readings" "count" "I") := ⟨List.mem_append_right _ (List.mem_of_getElem? (i := 164) (by decide +kernel)), by decide +kernel⟩
theorem fl_X2_21 : am_fl RX2 21 2 3 := ⟨RX2, TX2, 4, rfl, by decide, wfl_X2_21⟩
theorem wfl_X7_88 : am_T (.fieldLink RX7 88 "DifferRings$Readings" "count" "I") := ⟨List.mem_append_right _ (List.mem_of_getElem? (i := 165) (by decide +kernel)), by decide +kernel⟩
theorem fl_X7_88 : am_fl RX7 88 2 3 := ⟨RX2, TX2, 4, rfl, by decide, wfl_X7_88⟩
theorem wfl_X1_9 : am_T (.fieldLink RX1 9 "DifferRings$Day" "firstWrong" "I") := ⟨List.mem_append_right _ (List.mem_of_getElem? (i := 181) (by decide +kernel)), by decide +kernel⟩
theorem fl_X1_9 : am_fl RX1 9 1 0 := ⟨RX1, TX1, 3, rfl, by decide, wfl_X1_9⟩
theorem wfl_X7_160 : am_T (.fieldLink RX7 160 "DifferRings$Day" "firstWrong" "I") := ⟨List.mem_append_right _ (List.mem_of_getElem? (i := 182) (by decide +kernel)), by decide +kernel⟩
theorem fl_X7_160 : am_fl RX7 160 1 0 := ⟨RX1, TX1, 3, rfl, by decide, wfl_X7_160⟩
theorem wfl_X1_15 : am_T (.fieldLink RX1 15 "DifferRings$Day" "stepsIn" "I") := ⟨List.mem_append_right _ (List.mem_of_getElem? (i := 183) (by decide +kernel)), by decide +kernel⟩
theorem fl_X1_15 : am_fl RX1 15 1 1 := ⟨RX1, TX1, 3, rfl, by decide, wfl_X1_15⟩
theorem wfl_X7_166 : am_T (.fieldLink RX7 166 "DifferRings$Day" "stepsIn" "I") := ⟨List.mem_append_right _ (List.mem_of_getElem? (i := 184) (by decide +kernel)), by decide +kernel⟩
theorem fl_X7_166 : am_fl RX7 166 1 1 := ⟨RX1, TX1, 3, rfl, by decide, wfl_X7_166⟩
theorem wfl_X1_18 : am_T (.fieldLink RX1 18 "DifferRings$Day" "outs" "I") := ⟨List.mem_append_right _ (List.mem_of_getElem? (i := 185) (by decide +kernel)), by decide +kernel⟩
theorem fl_X1_18 : am_fl RX1 18 1 2 := ⟨RX1, TX1, 3, rfl, by decide, wfl_X1_18⟩
theorem wfl_X7_169 : am_T (.fieldLink RX7 169 "DifferRings$Day" "outs" "I") := ⟨List.mem_append_right _ (List.mem_of_getElem? (i := 186) (by decide +kernel)), by decide +kernel⟩
theorem fl_X7_169 : am_fl RX7 169 1 2 := ⟨RX1, TX1, 3, rfl, by decide, wfl_X7_169⟩
theorem wfl_X7_13 : am_T (.fieldLink RX7 13 "DifferRings" "sheets" "[LDifferRings$Sheet;") := ⟨List.mem_append_right _ (List.mem_of_getElem? (i := 194) (by decide +kernel)), by decide +kernel⟩
theorem fl_X7_13 : am_fl RX7 13 6 0 := ⟨RX7, TX7, 10, rfl, by decide, wfl_X7_13⟩
theorem wfl_X7_21 : am_T (.fieldLink RX7 21 "DifferRings" "live" "LDifferRings$Ring;") := ⟨List.mem_append_right _ (List.mem_of_getElem? (i := 195) (by decide +kernel)), by decide +kernel⟩
theorem fl_X7_21 : am_fl RX7 21 6 1 := ⟨RX7, TX7, 10, rfl, by decide, wfl_X7_21⟩
theorem wfl_X7_25 : am_T (.fieldLink RX7 25 "DifferRings" "trial" "LDifferRings$Ring;") := ⟨List.mem_append_right _ (List.mem_of_getElem? (i := 196) (by decide +kernel)), by decide +kernel⟩
theorem fl_X7_25 : am_fl RX7 25 6 2 := ⟨RX7, TX7, 10, rfl, by decide, wfl_X7_25⟩
theorem wfl_X7_31 : am_T (.fieldLink RX7 31 "DifferRings" "all" "LDifferRings$AllRows;") := ⟨List.mem_append_right _ (List.mem_of_getElem? (i := 197) (by decide +kernel)), by decide +kernel⟩
theorem fl_X7_31 : am_fl RX7 31 6 3 := ⟨RX7, TX7, 10, rfl, by decide, wfl_X7_31⟩
theorem wfl_X7_38 : am_T (.fieldLink RX7 38 "DifferRings" "spread" "LDifferRings$Spread;") := ⟨List.mem_append_right _ (List.mem_of_getElem? (i := 198) (by decide +kernel)), by decide +kernel⟩
theorem fl_X7_38 : am_fl RX7 38 6 4 := ⟨RX7, TX7, 10, rfl, by decide, wfl_X7_38⟩
theorem wfl_X7_45 : am_T (.fieldLink RX7 45 "DifferRings" "readings" "LDifferRings$Readings;") := ⟨List.mem_append_right _ (List.mem_of_getElem? (i := 199) (by decide +kernel)), by decide +kernel⟩
theorem fl_X7_45 : am_fl RX7 45 6 5 := ⟨RX7, TX7, 10, rfl, by decide, wfl_X7_45⟩
theorem wfl_X7_52 : am_T (.fieldLink RX7 52 "DifferRings" "played" "LDifferRings$Day;") := ⟨List.mem_append_right _ (List.mem_of_getElem? (i := 200) (by decide +kernel)), by decide +kernel⟩
theorem fl_X7_52 : am_fl RX7 52 6 6 := ⟨RX7, TX7, 10, rfl, by decide, wfl_X7_52⟩
theorem wfl_X7_85 : am_T (.fieldLink RX7 85 "DifferRings" "done" "I") := ⟨List.mem_append_right _ (List.mem_of_getElem? (i := 201) (by decide +kernel)), by decide +kernel⟩
theorem fl_X7_85 : am_fl RX7 85 6 7 := ⟨RX7, TX7, 10, rfl, by decide, wfl_X7_85⟩
theorem wfl_X7_295 : am_T (.fieldLink RX7 295 "DifferRings" "traced" "I") := ⟨List.mem_append_right _ (List.mem_of_getElem? (i := 202) (by decide +kernel)), by decide +kernel⟩
theorem fl_X7_295 : am_fl RX7 295 6 8 := ⟨RX7, TX7, 10, rfl, by decide, wfl_X7_295⟩
theorem wfl_X7_56 : am_T (.fieldLink RX7 56 "DifferRings" "faulted" "I") := ⟨List.mem_append_right _ (List.mem_of_getElem? (i := 203) (by decide +kernel)), by decide +kernel⟩
theorem fl_X7_56 : am_fl RX7 56 6 9 := ⟨RX7, TX7, 10, rfl, by decide, wfl_X7_56⟩
theorem wfl_X8_69 : am_T (.fieldLink RX8 69 "DifferRingsModel" "fault" "I") := ⟨List.mem_append_right _ (List.mem_of_getElem? (i := 692) (by decide +kernel)), by decide +kernel⟩
theorem fl_X8_69 : am_fl RX8 69 7 0 := ⟨RX8, TX8, 32, rfl, by decide, wfl_X8_69⟩
theorem wfl_X8_77 : am_T (.fieldLink RX8 77 "DifferRingsModel" "places" "I") := ⟨List.mem_append_right _ (List.mem_of_getElem? (i := 693) (by decide +kernel)), by decide +kernel⟩
theorem fl_X8_77 : am_fl RX8 77 7 1 := ⟨RX8, TX8, 32, rfl, by decide, wfl_X8_77⟩
theorem wfl_X8_127 : am_T (.fieldLink RX8 127 "DifferRingsModel" "base" "I") := ⟨List.mem_append_right _ (List.mem_of_getElem? (i := 694) (by decide +kernel)), by decide +kernel⟩
theorem fl_X8_127 : am_fl RX8 127 7 2 := ⟨RX8, TX8, 32, rfl, by decide, wfl_X8_127⟩
theorem wfl_X8_130 : am_T (.fieldLink RX8 130 "DifferRingsModel" "stepsDone" "I") := ⟨List.mem_append_right _ (List.mem_of_getElem? (i := 695) (by decide +kernel)), by decide +kernel⟩
theorem fl_X8_130 : am_fl RX8 130 7 3 := ⟨RX8, TX8, 32, rfl, by decide, wfl_X8_130⟩
theorem wfl_X8_7 : am_T (.fieldLink RX8 7 "DifferRingsModel" "kindOf" "[I") := ⟨List.mem_append_right _ (List.mem_of_getElem? (i := 696) (by decide +kernel)), by decide +kernel⟩
theorem fl_X8_7 : am_fl RX8 7 7 4 := ⟨RX8, TX8, 32, rfl, by decide, wfl_X8_7⟩
theorem wfl_X8_13 : am_T (.fieldLink RX8 13 "DifferRingsModel" "numberOf" "[I") := ⟨List.mem_append_right _ (List.mem_of_getElem? (i := 697) (by decide +kernel)), by decide +kernel⟩
theorem fl_X8_13 : am_fl RX8 13 7 5 := ⟨RX8, TX8, 32, rfl, by decide, wfl_X8_13⟩
theorem wfl_X8_84 : am_T (.fieldLink RX8 84 "DifferRingsModel" "readAt" "I") := ⟨List.mem_append_right _ (List.mem_of_getElem? (i := 698) (by decide +kernel)), by decide +kernel⟩
theorem fl_X8_84 : am_fl RX8 84 7 6 := ⟨RX8, TX8, 32, rfl, by decide, wfl_X8_84⟩
theorem wfl_X8_87 : am_T (.fieldLink RX8 87 "DifferRingsModel" "readPlaces" "I") := ⟨List.mem_append_right _ (List.mem_of_getElem? (i := 699) (by decide +kernel)), by decide +kernel⟩
theorem fl_X8_87 : am_fl RX8 87 7 7 := ⟨RX8, TX8, 32, rfl, by decide, wfl_X8_87⟩
theorem wfl_X8_94 : am_T (.fieldLink RX8 94 "DifferRingsModel" "readBase" "I") := ⟨List.mem_append_right _ (List.mem_of_getElem? (i := 700) (by decide +kernel)), by decide +kernel⟩
theorem fl_X8_94 : am_fl RX8 94 7 8 := ⟨RX8, TX8, 32, rfl, by decide, wfl_X8_94⟩
theorem wfl_X8_16 : am_T (.fieldLink RX8 16 "DifferRingsModel" "readKind" "[I") := ⟨List.mem_append_right _ (List.mem_of_getElem? (i := 701) (by decide +kernel)), by decide +kernel⟩
theorem fl_X8_16 : am_fl RX8 16 7 9 := ⟨RX8, TX8, 32, rfl, by decide, wfl_X8_16⟩
theorem wfl_X8_19 : am_T (.fieldLink RX8 19 "DifferRingsModel" "readNumber" "[I") := ⟨List.mem_append_right _ (List.mem_of_getElem? (i := 702) (by decide +kernel)), by decide +kernel⟩
theorem fl_X8_19 : am_fl RX8 19 7 10 := ⟨RX8, TX8, 32, rfl, by decide, wfl_X8_19⟩
theorem wfl_X8_22 : am_T (.fieldLink RX8 22 "DifferRingsModel" "at" "[I") := ⟨List.mem_append_right _ (List.mem_of_getElem? (i := 703) (by decide +kernel)), by decide +kernel⟩
theorem fl_X8_22 : am_fl RX8 22 7 11 := ⟨RX8, TX8, 32, rfl, by decide, wfl_X8_22⟩
theorem wfl_X8_25 : am_T (.fieldLink RX8 25 "DifferRingsModel" "then" "[I") := ⟨List.mem_append_right _ (List.mem_of_getElem? (i := 704) (by decide +kernel)), by decide +kernel⟩
theorem fl_X8_25 : am_fl RX8 25 7 12 := ⟨RX8, TX8, 32, rfl, by decide, wfl_X8_25⟩
theorem wfl_X8_28 : am_T (.fieldLink RX8 28 "DifferRingsModel" "nextOf" "[I") := ⟨List.mem_append_right _ (List.mem_of_getElem? (i := 705) (by decide +kernel)), by decide +kernel⟩
theorem fl_X8_28 : am_fl RX8 28 7 13 := ⟨RX8, TX8, 32, rfl, by decide, wfl_X8_28⟩
theorem wfl_X8_31 : am_T (.fieldLink RX8 31 "DifferRingsModel" "fromOf" "[I") := ⟨List.mem_append_right _ (List.mem_of_getElem? (i := 706) (by decide +kernel)), by decide +kernel⟩
theorem fl_X8_31 : am_fl RX8 31 7 14 := ⟨RX8, TX8, 32, rfl, by decide, wfl_X8_31⟩
theorem wfl_X8_34 : am_T (.fieldLink RX8 34 "DifferRingsModel" "goneAt" "[I") := ⟨List.mem_append_right _ (List.mem_of_getElem? (i := 707) (by decide +kernel)), by decide +kernel⟩
theorem fl_X8_34 : am_fl RX8 34 7 15 := ⟨RX8, TX8, 32, rfl, by decide, wfl_X8_34⟩
theorem wfl_X8_37 : am_T (.fieldLink RX8 37 "DifferRingsModel" "tailOf" "[I") := ⟨List.mem_append_right _ (List.mem_of_getElem? (i := 708) (by decide +kernel)), by decide +kernel⟩
theorem fl_X8_37 : am_fl RX8 37 7 16 := ⟨RX8, TX8, 32, rfl, by decide, wfl_X8_37⟩
theorem wfl_X8_40 : am_T (.fieldLink RX8 40 "DifferRingsModel" "outOf" "[I") := ⟨List.mem_append_right _ (List.mem_of_getElem? (i := 709) (by decide +kernel)), by decide +kernel⟩
theorem fl_X8_40 : am_fl RX8 40 7 17 := ⟨RX8, TX8, 32, rfl, by decide, wfl_X8_40⟩
theorem wfl_X8_167 : am_T (.fieldLink RX8 167 "DifferRingsModel" "gone" "I") := ⟨List.mem_append_right _ (List.mem_of_getElem? (i := 710) (by decide +kernel)), by decide +kernel⟩
theorem fl_X8_167 : am_fl RX8 167 7 18 := ⟨RX8, TX8, 32, rfl, by decide, wfl_X8_167⟩
theorem wfl_X8_179 : am_T (.fieldLink RX8 179 "DifferRingsModel" "barren" "I") := ⟨List.mem_append_right _ (List.mem_of_getElem? (i := 711) (by decide +kernel)), by decide +kernel⟩
theorem fl_X8_179 : am_fl RX8 179 7 19 := ⟨RX8, TX8, 32, rfl, by decide, wfl_X8_179⟩
theorem wfl_X8_206 : am_T (.fieldLink RX8 206 "DifferRingsModel" "dayOuts" "I") := ⟨List.mem_append_right _ (List.mem_of_getElem? (i := 712) (by decide +kernel)), by decide +kernel⟩
theorem fl_X8_206 : am_fl RX8 206 7 20 := ⟨RX8, TX8, 32, rfl, by decide, wfl_X8_206⟩
theorem wfl_X8_200 : am_T (.fieldLink RX8 200 "DifferRingsModel" "daySteps" "I") := ⟨List.mem_append_right _ (List.mem_of_getElem? (i := 713) (by decide +kernel)), by decide +kernel⟩
theorem fl_X8_200 : am_fl RX8 200 7 21 := ⟨RX8, TX8, 32, rfl, by decide, wfl_X8_200⟩
theorem wfl_X8_43 : am_T (.fieldLink RX8 43 "DifferRingsModel" "hadNumber" "[I") := ⟨List.mem_append_right _ (List.mem_of_getElem? (i := 714) (by decide +kernel)), by decide +kernel⟩
theorem fl_X8_43 : am_fl RX8 43 7 22 := ⟨RX8, TX8, 32, rfl, by decide, wfl_X8_43⟩
theorem wfl_X8_133 : am_T (.fieldLink RX8 133 "DifferRingsModel" "readings" "I") := ⟨List.mem_append_right _ (List.mem_of_getElem? (i := 715) (by decide +kernel)), by decide +kernel⟩
theorem fl_X8_133 : am_fl RX8 133 7 23 := ⟨RX8, TX8, 32, rfl, by decide, wfl_X8_133⟩
theorem wfl_X8_46 : am_T (.fieldLink RX8 46 "DifferRingsModel" "readingAt" "[I") := ⟨List.mem_append_right _ (List.mem_of_getElem? (i := 716) (by decide +kernel)), by decide +kernel⟩
theorem fl_X8_46 : am_fl RX8 46 7 24 := ⟨RX8, TX8, 32, rfl, by decide, wfl_X8_46⟩
theorem wfl_X8_49 : am_T (.fieldLink RX8 49 "DifferRingsModel" "readingOf" "[I") := ⟨List.mem_append_right _ (List.mem_of_getElem? (i := 717) (by decide +kernel)), by decide +kernel⟩
theorem fl_X8_49 : am_fl RX8 49 7 25 := ⟨RX8, TX8, 32, rfl, by decide, wfl_X8_49⟩
theorem wfl_X8_52 : am_T (.fieldLink RX8 52 "DifferRingsModel" "readingIs" "[I") := ⟨List.mem_append_right _ (List.mem_of_getElem? (i := 718) (by decide +kernel)), by decide +kernel⟩
theorem fl_X8_52 : am_fl RX8 52 7 26 := ⟨RX8, TX8, 32, rfl, by decide, wfl_X8_52⟩
theorem wfl_X8_55 : am_T (.fieldLink RX8 55 "DifferRingsModel" "sheetSize" "[I") := ⟨List.mem_append_right _ (List.mem_of_getElem? (i := 719) (by decide +kernel)), by decide +kernel⟩
theorem fl_X8_55 : am_fl RX8 55 7 27 := ⟨RX8, TX8, 32, rfl, by decide, wfl_X8_55⟩
theorem wfl_X8_58 : am_T (.fieldLink RX8 58 "DifferRingsModel" "sheetLane" "[I") := ⟨List.mem_append_right _ (List.mem_of_getElem? (i := 720) (by decide +kernel)), by decide +kernel⟩
theorem fl_X8_58 : am_fl RX8 58 7 28 := ⟨RX8, TX8, 32, rfl, by decide, wfl_X8_58⟩
theorem wfl_X8_61 : am_T (.fieldLink RX8 61 "DifferRingsModel" "sheet" "[I") := ⟨List.mem_append_right _ (List.mem_of_getElem? (i := 721) (by decide +kernel)), by decide +kernel⟩
theorem fl_X8_61 : am_fl RX8 61 7 29 := ⟨RX8, TX8, 32, rfl, by decide, wfl_X8_61⟩
theorem wfl_X8_64 : am_T (.fieldLink RX8 64 "DifferRingsModel" "hands" "[I") := ⟨List.mem_append_right _ (List.mem_of_getElem? (i := 722) (by decide +kernel)), by decide +kernel⟩
theorem fl_X8_64 : am_fl RX8 64 7 30 := ⟨RX8, TX8, 32, rfl, by decide, wfl_X8_64⟩
theorem wfl_X8_263 : am_T (.fieldLink RX8 263 "DifferRingsModel" "traceNow" "I") := ⟨List.mem_append_right _ (List.mem_of_getElem? (i := 723) (by decide +kernel)), by decide +kernel⟩
theorem fl_X8_263 : am_fl RX8 263 7 31 := ⟨RX8, TX8, 32, rfl, by decide, wfl_X8_263⟩
theorem ml_L_9 : am_T (.methodLink RL 9 yX7_init) := ⟨List.mem_append_right _ (List.mem_of_getElem? (i := 16) (by decide +kernel)), by decide +kernel⟩
theorem ml_X7_3 : am_T (.methodLink RX7 3 objectInit) := ⟨List.mem_append_right _ (List.mem_of_getElem? (i := 19) (by decide +kernel)), by decide +kernel⟩
theorem ml_X4_3 : am_T (.methodLink RX4 3 objectInit) := ⟨List.mem_append_right _ (List.mem_of_getElem? (i := 28) (by decide +kernel)), by decide +kernel⟩
theorem ml_X3_3 : am_T (.methodLink RX3 3 objectInit) := ⟨List.mem_append_right _ (List.mem_of_getElem? (i := 46) (by decide +kernel)), by decide +kernel⟩
theorem ml_X0_3 : am_T (.methodLink RX0 3 objectInit) := ⟨List.mem_append_right _ (List.mem_of_getElem? (i := 79) (by decide +kernel)), by decide +kernel⟩
theorem ml_X5_3 : am_T (.methodLink RX5 3 objectInit) := ⟨List.mem_append_right _ (List.mem_of_getElem? (i := 138) (by decide +kernel)), by decide +kernel⟩
theorem ml_X2_3 : am_T (.methodLink RX2 3 objectInit) := ⟨List.mem_append_right _ (List.mem_of_getElem? (i := 160) (by decide +kernel)), by decide +kernel⟩
theorem ml_X1_3 : am_T (.methodLink RX1 3 objectInit) := ⟨List.mem_append_right _ (List.mem_of_getElem? (i := 180) (by decide +kernel)), by decide +kernel⟩
theorem ml_L_13 : am_T (.methodLink RL 13 yX7_ring) := ⟨List.mem_append_right _ (List.mem_of_getElem? (i := 225) (by decide +kernel)), by decide +kernel⟩
theorem ml_X7_60 : am_T (.methodLink RX7 60 yX7_isSheet) := ⟨List.mem_append_right _ (List.mem_of_getElem? (i := 229) (by decide +kernel)), by decide +kernel⟩
theorem ml_X7_64 : am_T (.methodLink RX7 64 yX7_isLane) := ⟨List.mem_append_right _ (List.mem_of_getElem? (i := 232) (by decide +kernel)), by decide +kernel⟩
theorem ml_X7_67 : am_T (.methodLink RX7 67 yX4_faultAs) := ⟨List.mem_append_right _ (List.mem_of_getElem? (i := 235) (by decide +kernel)), by decide +kernel⟩
theorem ml_X4_28 : am_T (.methodLink RX4 28 yX4_hasNothing) := ⟨List.mem_append_right _ (List.mem_of_getElem? (i := 239) (by decide +kernel)), by decide +kernel⟩
theorem ml_X4_32 : am_T (.methodLink RX4 32 yX4_faultOf) := ⟨List.mem_append_right _ (List.mem_of_getElem? (i := 243) (by decide +kernel)), by decide +kernel⟩
theorem ml_X4_36 : am_T (.methodLink RX4 36 yX4_spans) := ⟨List.mem_append_right _ (List.mem_of_getElem? (i := 247) (by decide +kernel)), by decide +kernel⟩
theorem ml_X7_71 : am_T (.methodLink RX7 71 yX7_answerOfFault) := ⟨List.mem_append_right _ (List.mem_of_getElem? (i := 251) (by decide +kernel)), by decide +kernel⟩
theorem ml_X7_75 : am_T (.methodLink RX7 75 yX6_firstFault) := ⟨List.mem_append_right _ (List.mem_of_getElem? (i := 255) (by decide +kernel)), by decide +kernel⟩
theorem ml_X6_9 : am_T (.methodLink RX6 9 yX4_at) := ⟨List.mem_append_right _ (List.mem_of_getElem? (i := 258) (by decide +kernel)), by decide +kernel⟩
theorem ml_X6_15 : am_T (.methodLink RX6 15 yX6_goesOn) := ⟨List.mem_append_right _ (List.mem_of_getElem? (i := 262) (by decide +kernel)), by decide +kernel⟩
theorem ml_X6_21 : am_T (.methodLink RX6 21 yX6_kindOf) := ⟨List.mem_append_right _ (List.mem_of_getElem? (i := 265) (by decide +kernel)), by decide +kernel⟩
theorem ml_X7_81 : am_T (.methodLink RX7 81 yX6_take) := ⟨List.mem_append_right _ (List.mem_of_getElem? (i := 268) (by decide +kernel)), by decide +kernel⟩
theorem ml_X6_30 : am_T (.methodLink RX6 30 yJ9_min_7cf53) := ⟨List.mem_append_right _ (List.mem_of_getElem? (i := 271) (by decide +kernel)), by decide +kernel⟩
theorem ml_X7_91 : am_T (.methodLink RX7 91 yX0_forget) := ⟨List.mem_append_right _ (List.mem_of_getElem? (i := 274) (by decide +kernel)), by decide +kernel⟩
theorem ml_X7_94 : am_T (.methodLink RX7 94 yX5_forget) := ⟨List.mem_append_right _ (List.mem_of_getElem? (i := 278) (by decide +kernel)), by decide +kernel⟩
theorem ml_L_18 : am_T (.methodLink RL 18 yX7_ofPlace) := ⟨List.mem_append_right _ (List.mem_of_getElem? (i := 282) (by decide +kernel)), by decide +kernel⟩
theorem ml_X7_98 : am_T (.methodLink RX7 98 yX3_has) := ⟨List.mem_append_right _ (List.mem_of_getElem? (i := 286) (by decide +kernel)), by decide +kernel⟩
theorem ml_X7_108 : am_T (.methodLink RX7 108 yX3_stepped) := ⟨List.mem_append_right _ (List.mem_of_getElem? (i := 290) (by decide +kernel)), by decide +kernel⟩
theorem ml_X3_57 : am_T (.methodLink RX3 57 yX3_howFar) := ⟨List.mem_append_right _ (List.mem_of_getElem? (i := 294) (by decide +kernel)), by decide +kernel⟩
theorem ml_X3_61 : am_T (.methodLink RX3 61 yJ9_abs_0f7a4) := ⟨List.mem_append_right _ (List.mem_of_getElem? (i := 298) (by decide +kernel)), by decide +kernel⟩
theorem ml_L_23 : am_T (.methodLink RL 23 yX7_write) := ⟨List.mem_append_right _ (List.mem_of_getElem? (i := 301) (by decide +kernel)), by decide +kernel⟩
theorem ml_X7_112 : am_T (.methodLink RX7 112 yX3_isNumber) := ⟨List.mem_append_right _ (List.mem_of_getElem? (i := 305) (by decide +kernel)), by decide +kernel⟩
theorem ml_L_27 : am_T (.methodLink RL 27 yX7_steps) := ⟨List.mem_append_right _ (List.mem_of_getElem? (i := 309) (by decide +kernel)), by decide +kernel⟩
theorem ml_X7_115 : am_T (.methodLink RX7 115 yX3_isNone) := ⟨List.mem_append_right _ (List.mem_of_getElem? (i := 313) (by decide +kernel)), by decide +kernel⟩
theorem ml_X7_119 : am_T (.methodLink RX7 119 yX3_go) := ⟨List.mem_append_right _ (List.mem_of_getElem? (i := 317) (by decide +kernel)), by decide +kernel⟩
theorem ml_X3_66 : am_T (.methodLink RX3 66 yX3_stepped) := ⟨List.mem_append_right _ (List.mem_of_getElem? (i := 321) (by decide +kernel)), by decide +kernel⟩
theorem ml_X3_36 : am_T (.methodLink RX3 36 arraycopyName) := ⟨List.mem_append_right _ (List.mem_of_getElem? (i := 322) (by decide +kernel)), by decide +kernel⟩
theorem ml_X7_123 : am_T (.methodLink RX7 123 yX3_zeros) := ⟨List.mem_append_right _ (List.mem_of_getElem? (i := 325) (by decide +kernel)), by decide +kernel⟩
theorem ml_L_34 : am_T (.methodLink RL 34 yX7_after) := ⟨List.mem_append_right _ (List.mem_of_getElem? (i := 329) (by decide +kernel)), by decide +kernel⟩
theorem ml_X7_128 : am_T (.methodLink RX7 128 yX0_workOut) := ⟨List.mem_append_right _ (List.mem_of_getElem? (i := 334) (by decide +kernel)), by decide +kernel⟩
theorem ml_X0_59 : am_T (.methodLink RX0 59 yX3_isNone) := ⟨List.mem_append_right _ (List.mem_of_getElem? (i := 338) (by decide +kernel)), by decide +kernel⟩
theorem ml_X0_63 : am_T (.methodLink RX0 63 yX3_takeKinds) := ⟨List.mem_append_right _ (List.mem_of_getElem? (i := 339) (by decide +kernel)), by decide +kernel⟩
theorem ml_X0_73 : am_T (.methodLink RX0 73 yX0_makeRoom) := ⟨List.mem_append_right _ (List.mem_of_getElem? (i := 343) (by decide +kernel)), by decide +kernel⟩
theorem ml_X0_76 : am_T (.methodLink RX0 76 yX0_findNext) := ⟨List.mem_append_right _ (List.mem_of_getElem? (i := 347) (by decide +kernel)), by decide +kernel⟩
theorem ml_X0_91 : am_T (.methodLink RX0 91 yJ7_fill_53178) := ⟨List.mem_append_right _ (List.mem_of_getElem? (i := 351) (by decide +kernel)), by decide +kernel⟩
theorem ml_X0_97 : am_T (.methodLink RX0 97 yX3_takeFirstRow) := ⟨List.mem_append_right _ (List.mem_of_getElem? (i := 354) (by decide +kernel)), by decide +kernel⟩
theorem ml_X3_51 : am_T (.methodLink RX3 51 yJ7_fill_53178) := ⟨List.mem_append_right _ (List.mem_of_getElem? (i := 358) (by decide +kernel)), by decide +kernel⟩
theorem ml_X0_100 : am_T (.methodLink RX0 100 yX3_steppedCode) := ⟨List.mem_append_right _ (List.mem_of_getElem? (i := 359) (by decide +kernel)), by decide +kernel⟩
theorem ml_X0_104 : am_T (.methodLink RX0 104 yX0_isRow) := ⟨List.mem_append_right _ (List.mem_of_getElem? (i := 363) (by decide +kernel)), by decide +kernel⟩
theorem ml_X0_108 : am_T (.methodLink RX0 108 yX3_takeNextRow) := ⟨List.mem_append_right _ (List.mem_of_getElem? (i := 367) (by decide +kernel)), by decide +kernel⟩
theorem ml_X0_79 : am_T (.methodLink RX0 79 yX0_orderThoseThatDoNotComeBack) := ⟨List.mem_append_right _ (List.mem_of_getElem? (i := 371) (by decide +kernel)), by decide +kernel⟩
theorem ml_X0_111 : am_T (.methodLink RX0 111 yX0_takeAway) := ⟨List.mem_append_right _ (List.mem_of_getElem? (i := 375) (by decide +kernel)), by decide +kernel⟩
theorem ml_X0_115 : am_T (.methodLink RX0 115 yX0_nextOf) := ⟨List.mem_append_right _ (List.mem_of_getElem? (i := 379) (by decide +kernel)), by decide +kernel⟩
theorem ml_X0_82 : am_T (.methodLink RX0 82 yX0_findRounds) := ⟨List.mem_append_right _ (List.mem_of_getElem? (i := 383) (by decide +kernel)), by decide +kernel⟩
theorem ml_X0_119 : am_T (.methodLink RX0 119 yX0_markRound) := ⟨List.mem_append_right _ (List.mem_of_getElem? (i := 387) (by decide +kernel)), by decide +kernel⟩
theorem ml_X0_85 : am_T (.methodLink RX0 85 yX0_findTails) := ⟨List.mem_append_right _ (List.mem_of_getElem? (i := 391) (by decide +kernel)), by decide +kernel⟩
theorem ml_X0_88 : am_T (.methodLink RX0 88 yX0_sumUp) := ⟨List.mem_append_right _ (List.mem_of_getElem? (i := 395) (by decide +kernel)), by decide +kernel⟩
theorem ml_X0_122 : am_T (.methodLink RX0 122 yX0_goesOut) := ⟨List.mem_append_right _ (List.mem_of_getElem? (i := 399) (by decide +kernel)), by decide +kernel⟩
theorem ml_X7_132 : am_T (.methodLink RX7 132 yX3_code) := ⟨List.mem_append_right _ (List.mem_of_getElem? (i := 403) (by decide +kernel)), by decide +kernel⟩
theorem ml_X7_135 : am_T (.methodLink RX7 135 yX0_behind) := ⟨List.mem_append_right _ (List.mem_of_getElem? (i := 407) (by decide +kernel)), by decide +kernel⟩
theorem ml_X0_125 : am_T (.methodLink RX0 125 yX0_tailOf) := ⟨List.mem_append_right _ (List.mem_of_getElem? (i := 411) (by decide +kernel)), by decide +kernel⟩
theorem ml_X0_128 : am_T (.methodLink RX0 128 yX0_roundOf) := ⟨List.mem_append_right _ (List.mem_of_getElem? (i := 415) (by decide +kernel)), by decide +kernel⟩
theorem ml_X7_139 : am_T (.methodLink RX7 139 yX0_numberIn) := ⟨List.mem_append_right _ (List.mem_of_getElem? (i := 419) (by decide +kernel)), by decide +kernel⟩
theorem ml_L_39 : am_T (.methodLink RL 39 yX7_day) := ⟨List.mem_append_right _ (List.mem_of_getElem? (i := 423) (by decide +kernel)), by decide +kernel⟩
theorem ml_X7_143 : am_T (.methodLink RX7 143 yX7_isOfDay) := ⟨List.mem_append_right _ (List.mem_of_getElem? (i := 427) (by decide +kernel)), by decide +kernel⟩
theorem ml_X7_146 : am_T (.methodLink RX7 146 yX1_areActs) := ⟨List.mem_append_right _ (List.mem_of_getElem? (i := 430) (by decide +kernel)), by decide +kernel⟩
theorem ml_X1_21 : am_T (.methodLink RX1 21 yX4_at) := ⟨List.mem_append_right _ (List.mem_of_getElem? (i := 433) (by decide +kernel)), by decide +kernel⟩
theorem ml_X1_27 : am_T (.methodLink RX1 27 yX1_isAct) := ⟨List.mem_append_right _ (List.mem_of_getElem? (i := 434) (by decide +kernel)), by decide +kernel⟩
theorem ml_X7_150 : am_T (.methodLink RX7 150 yX3_takeAll) := ⟨List.mem_append_right _ (List.mem_of_getElem? (i := 437) (by decide +kernel)), by decide +kernel⟩
theorem ml_X3_32 : am_T (.methodLink RX3 32 yX3_takeKinds) := ⟨List.mem_append_right _ (List.mem_of_getElem? (i := 441) (by decide +kernel)), by decide +kernel⟩
theorem ml_X7_153 : am_T (.methodLink RX7 153 yX1_play) := ⟨List.mem_append_right _ (List.mem_of_getElem? (i := 442) (by decide +kernel)), by decide +kernel⟩
theorem ml_X1_31 : am_T (.methodLink RX1 31 yX1_canDo) := ⟨List.mem_append_right _ (List.mem_of_getElem? (i := 446) (by decide +kernel)), by decide +kernel⟩
theorem ml_X1_41 : am_T (.methodLink RX1 41 yX3_go) := ⟨List.mem_append_right _ (List.mem_of_getElem? (i := 450) (by decide +kernel)), by decide +kernel⟩
theorem ml_X1_45 : am_T (.methodLink RX1 45 yX3_has) := ⟨List.mem_append_right _ (List.mem_of_getElem? (i := 451) (by decide +kernel)), by decide +kernel⟩
theorem ml_X1_49 : am_T (.methodLink RX1 49 yX3_isNumber) := ⟨List.mem_append_right _ (List.mem_of_getElem? (i := 452) (by decide +kernel)), by decide +kernel⟩
theorem ml_X1_35 : am_T (.methodLink RX1 35 yX3_isOut) := ⟨List.mem_append_right _ (List.mem_of_getElem? (i := 453) (by decide +kernel)), by decide +kernel⟩
theorem ml_X3_69 : am_T (.methodLink RX3 69 yX3_zeros) := ⟨List.mem_append_right _ (List.mem_of_getElem? (i := 457) (by decide +kernel)), by decide +kernel⟩
theorem ml_X7_157 : am_T (.methodLink RX7 157 yX7_ofDay) := ⟨List.mem_append_right _ (List.mem_of_getElem? (i := 458) (by decide +kernel)), by decide +kernel⟩
theorem ml_X7_163 : am_T (.methodLink RX7 163 yX3_total) := ⟨List.mem_append_right _ (List.mem_of_getElem? (i := 462) (by decide +kernel)), by decide +kernel⟩
theorem ml_X7_172 : am_T (.methodLink RX7 172 yX0_tailOf) := ⟨List.mem_append_right _ (List.mem_of_getElem? (i := 466) (by decide +kernel)), by decide +kernel⟩
theorem ml_X7_175 : am_T (.methodLink RX7 175 yX3_numberAt) := ⟨List.mem_append_right _ (List.mem_of_getElem? (i := 467) (by decide +kernel)), by decide +kernel⟩
theorem ml_X3_28 : am_T (.methodLink RX3 28 yX3_has) := ⟨List.mem_append_right _ (List.mem_of_getElem? (i := 471) (by decide +kernel)), by decide +kernel⟩
theorem ml_L_44 : am_T (.methodLink RL 44 yX7_now) := ⟨List.mem_append_right _ (List.mem_of_getElem? (i := 472) (by decide +kernel)), by decide +kernel⟩
theorem ml_X7_178 : am_T (.methodLink RX7 178 yX0_roundOf) := ⟨List.mem_append_right _ (List.mem_of_getElem? (i := 476) (by decide +kernel)), by decide +kernel⟩
theorem ml_X7_181 : am_T (.methodLink RX7 181 yX0_goesOut) := ⟨List.mem_append_right _ (List.mem_of_getElem? (i := 477) (by decide +kernel)), by decide +kernel⟩
theorem ml_L_48 : am_T (.methodLink RL 48 yX7_from) := ⟨List.mem_append_right _ (List.mem_of_getElem? (i := 478) (by decide +kernel)), by decide +kernel⟩
theorem ml_X7_184 : am_T (.methodLink RX7 184 yX0_comersOf) := ⟨List.mem_append_right _ (List.mem_of_getElem? (i := 482) (by decide +kernel)), by decide +kernel⟩
theorem ml_X7_187 : am_T (.methodLink RX7 187 yX0_firstComerOf) := ⟨List.mem_append_right _ (List.mem_of_getElem? (i := 486) (by decide +kernel)), by decide +kernel⟩
theorem ml_L_52 : am_T (.methodLink RL 52 yX7_rows) := ⟨List.mem_append_right _ (List.mem_of_getElem? (i := 490) (by decide +kernel)), by decide +kernel⟩
theorem ml_L_56 : am_T (.methodLink RL 56 yX7_longest) := ⟨List.mem_append_right _ (List.mem_of_getElem? (i := 494) (by decide +kernel)), by decide +kernel⟩
theorem ml_L_60 : am_T (.methodLink RL 60 yX7_meet) := ⟨List.mem_append_right _ (List.mem_of_getElem? (i := 498) (by decide +kernel)), by decide +kernel⟩
theorem ml_X7_209 : am_T (.methodLink RX7 209 yX3_takeRow) := ⟨List.mem_append_right _ (List.mem_of_getElem? (i := 502) (by decide +kernel)), by decide +kernel⟩
theorem ml_X3_42 : am_T (.methodLink RX3 42 yX4_at) := ⟨List.mem_append_right _ (List.mem_of_getElem? (i := 506) (by decide +kernel)), by decide +kernel⟩
theorem ml_X3_48 : am_T (.methodLink RX3 48 yX3_isNumber) := ⟨List.mem_append_right _ (List.mem_of_getElem? (i := 507) (by decide +kernel)), by decide +kernel⟩
theorem ml_X7_213 : am_T (.methodLink RX7 213 yX0_meeting) := ⟨List.mem_append_right _ (List.mem_of_getElem? (i := 508) (by decide +kernel)), by decide +kernel⟩
theorem ml_L_65 : am_T (.methodLink RL 65 yX7_few) := ⟨List.mem_append_right _ (List.mem_of_getElem? (i := 512) (by decide +kernel)), by decide +kernel⟩
theorem ml_X7_216 : am_T (.methodLink RX7 216 yX0_leastSetToGoOut) := ⟨List.mem_append_right _ (List.mem_of_getElem? (i := 516) (by decide +kernel)), by decide +kernel⟩
theorem ml_X0_131 : am_T (.methodLink RX0 131 yX0_unlikePlaces) := ⟨List.mem_append_right _ (List.mem_of_getElem? (i := 520) (by decide +kernel)), by decide +kernel⟩
theorem ml_X0_135 : am_T (.methodLink RX0 135 yJ6_bitCount_0f7a4) := ⟨List.mem_append_right _ (List.mem_of_getElem? (i := 524) (by decide +kernel)), by decide +kernel⟩
theorem ml_X7_219 : am_T (.methodLink RX7 219 yJ6_bitCount_0f7a4) := ⟨List.mem_append_right _ (List.mem_of_getElem? (i := 530) (by decide +kernel)), by decide +kernel⟩
theorem ml_L_69 : am_T (.methodLink RL 69 yX7_reading) := ⟨List.mem_append_right _ (List.mem_of_getElem? (i := 531) (by decide +kernel)), by decide +kernel⟩
theorem ml_X7_224 : am_T (.methodLink RX7 224 yX7_isReadable) := ⟨List.mem_append_right _ (List.mem_of_getElem? (i := 535) (by decide +kernel)), by decide +kernel⟩
theorem ml_X7_228 : am_T (.methodLink RX7 228 yX2_keep) := ⟨List.mem_append_right _ (List.mem_of_getElem? (i := 538) (by decide +kernel)), by decide +kernel⟩
theorem ml_L_73 : am_T (.methodLink RL 73 yX7_back) := ⟨List.mem_append_right _ (List.mem_of_getElem? (i := 542) (by decide +kernel)), by decide +kernel⟩
theorem ml_L_77 : am_T (.methodLink RL 77 yX7_kinds) := ⟨List.mem_append_right _ (List.mem_of_getElem? (i := 546) (by decide +kernel)), by decide +kernel⟩
theorem ml_X7_231 : am_T (.methodLink RX7 231 yX2_areSo) := ⟨List.mem_append_right _ (List.mem_of_getElem? (i := 550) (by decide +kernel)), by decide +kernel⟩
theorem ml_X2_25 : am_T (.methodLink RX2 25 yX2_lastTime) := ⟨List.mem_append_right _ (List.mem_of_getElem? (i := 554) (by decide +kernel)), by decide +kernel⟩
theorem ml_X2_39 : am_T (.methodLink RX2 39 yJ9_max_7cf53) := ⟨List.mem_append_right _ (List.mem_of_getElem? (i := 558) (by decide +kernel)), by decide +kernel⟩
theorem ml_X2_29 : am_T (.methodLink RX2 29 yX2_areSoAt) := ⟨List.mem_append_right _ (List.mem_of_getElem? (i := 561) (by decide +kernel)), by decide +kernel⟩
theorem ml_X2_45 : am_T (.methodLink RX2 45 yX3_numberAt) := ⟨List.mem_append_right _ (List.mem_of_getElem? (i := 565) (by decide +kernel)), by decide +kernel⟩
theorem ml_X2_33 : am_T (.methodLink RX2 33 yX3_go) := ⟨List.mem_append_right _ (List.mem_of_getElem? (i := 566) (by decide +kernel)), by decide +kernel⟩
theorem ml_L_81 : am_T (.methodLink RL 81 yX7_firsts) := ⟨List.mem_append_right _ (List.mem_of_getElem? (i := 567) (by decide +kernel)), by decide +kernel⟩
theorem ml_L_85 : am_T (.methodLink RL 85 yX7_odds) := ⟨List.mem_append_right _ (List.mem_of_getElem? (i := 571) (by decide +kernel)), by decide +kernel⟩
theorem ml_X7_240 : am_T (.methodLink RX7 240 yX5_goTo) := ⟨List.mem_append_right _ (List.mem_of_getElem? (i := 576) (by decide +kernel)), by decide +kernel⟩
theorem ml_X5_28 : am_T (.methodLink RX5 28 yX5_begin) := ⟨List.mem_append_right _ (List.mem_of_getElem? (i := 580) (by decide +kernel)), by decide +kernel⟩
theorem ml_X5_32 : am_T (.methodLink RX5 32 yX5_stepAll) := ⟨List.mem_append_right _ (List.mem_of_getElem? (i := 584) (by decide +kernel)), by decide +kernel⟩
theorem ml_X5_40 : am_T (.methodLink RX5 40 yX0_nextOf) := ⟨List.mem_append_right _ (List.mem_of_getElem? (i := 588) (by decide +kernel)), by decide +kernel⟩
theorem ml_X5_44 : am_T (.methodLink RX5 44 yX5_whereKept) := ⟨List.mem_append_right _ (List.mem_of_getElem? (i := 589) (by decide +kernel)), by decide +kernel⟩
theorem ml_X7_244 : am_T (.methodLink RX7 244 yX5_howMany) := ⟨List.mem_append_right _ (List.mem_of_getElem? (i := 593) (by decide +kernel)), by decide +kernel⟩
theorem ml_X5_48 : am_T (.methodLink RX5 48 yX0_numberIn) := ⟨List.mem_append_right _ (List.mem_of_getElem? (i := 597) (by decide +kernel)), by decide +kernel⟩
theorem ml_X7_248 : am_T (.methodLink RX7 248 yX7_commonDivisor) := ⟨List.mem_append_right _ (List.mem_of_getElem? (i := 598) (by decide +kernel)), by decide +kernel⟩
theorem ml_L_90 : am_T (.methodLink RL 90 yX7_sheet) := ⟨List.mem_append_right _ (List.mem_of_getElem? (i := 601) (by decide +kernel)), by decide +kernel⟩
theorem ml_X7_251 : am_T (.methodLink RX7 251 yX4_renew) := ⟨List.mem_append_right _ (List.mem_of_getElem? (i := 605) (by decide +kernel)), by decide +kernel⟩
theorem ml_X4_22 : am_T (.methodLink RX4 22 yJ7_fill_53178) := ⟨List.mem_append_right _ (List.mem_of_getElem? (i := 609) (by decide +kernel)), by decide +kernel⟩
theorem ml_L_94 : am_T (.methodLink RL 94 yX7_lose) := ⟨List.mem_append_right _ (List.mem_of_getElem? (i := 610) (by decide +kernel)), by decide +kernel⟩
theorem ml_X7_255 : am_T (.methodLink RX7 255 yX4_hasNothing) := ⟨List.mem_append_right _ (List.mem_of_getElem? (i := 614) (by decide +kernel)), by decide +kernel⟩
theorem ml_X7_258 : am_T (.methodLink RX7 258 yX4_drop) := ⟨List.mem_append_right _ (List.mem_of_getElem? (i := 615) (by decide +kernel)), by decide +kernel⟩
theorem ml_L_98 : am_T (.methodLink RL 98 yX7_put) := ⟨List.mem_append_right _ (List.mem_of_getElem? (i := 619) (by decide +kernel)), by decide +kernel⟩
theorem ml_X7_261 : am_T (.methodLink RX7 261 yX4_faultOf) := ⟨List.mem_append_right _ (List.mem_of_getElem? (i := 623) (by decide +kernel)), by decide +kernel⟩
theorem ml_X7_264 : am_T (.methodLink RX7 264 yX4_change) := ⟨List.mem_append_right _ (List.mem_of_getElem? (i := 624) (by decide +kernel)), by decide +kernel⟩
theorem ml_X4_40 : am_T (.methodLink RX4 40 yX4_cut) := ⟨List.mem_append_right _ (List.mem_of_getElem? (i := 628) (by decide +kernel)), by decide +kernel⟩
theorem ml_L_102 : am_T (.methodLink RL 102 yX7_cell) := ⟨List.mem_append_right _ (List.mem_of_getElem? (i := 632) (by decide +kernel)), by decide +kernel⟩
theorem ml_X7_267 : am_T (.methodLink RX7 267 yX4_at) := ⟨List.mem_append_right _ (List.mem_of_getElem? (i := 636) (by decide +kernel)), by decide +kernel⟩
theorem ml_L_107 : am_T (.methodLink RL 107 yX7_copy) := ⟨List.mem_append_right _ (List.mem_of_getElem? (i := 637) (by decide +kernel)), by decide +kernel⟩
theorem ml_X7_270 : am_T (.methodLink RX7 270 yX4_faultOfCopy) := ⟨List.mem_append_right _ (List.mem_of_getElem? (i := 641) (by decide +kernel)), by decide +kernel⟩
theorem ml_X7_277 : am_T (.methodLink RX7 277 arraycopyName) := ⟨List.mem_append_right _ (List.mem_of_getElem? (i := 645) (by decide +kernel)), by decide +kernel⟩
theorem ml_L_111 : am_T (.methodLink RL 111 yX7_tell) := ⟨List.mem_append_right _ (List.mem_of_getElem? (i := 646) (by decide +kernel)), by decide +kernel⟩
theorem ml_X7_283 : am_T (.methodLink RX7 283 yX7_tellPlain) := ⟨List.mem_append_right _ (List.mem_of_getElem? (i := 650) (by decide +kernel)), by decide +kernel⟩
theorem ml_X7_292 : am_T (.methodLink RX7 292 yX7_leave) := ⟨List.mem_append_right _ (List.mem_of_getElem? (i := 654) (by decide +kernel)), by decide +kernel⟩
theorem ml_X7_286 : am_T (.methodLink RX7 286 yX7_tellFar) := ⟨List.mem_append_right _ (List.mem_of_getElem? (i := 658) (by decide +kernel)), by decide +kernel⟩
theorem ml_X7_289 : am_T (.methodLink RX7 289 yX7_tellMixed) := ⟨List.mem_append_right _ (List.mem_of_getElem? (i := 662) (by decide +kernel)), by decide +kernel⟩
theorem ml_L_115 : am_T (.methodLink RL 115 yX7_call) := ⟨List.mem_append_right _ (List.mem_of_getElem? (i := 666) (by decide +kernel)), by decide +kernel⟩
theorem ml_L_119 : am_T (.methodLink RL 119 yX7_as) := ⟨List.mem_append_right _ (List.mem_of_getElem? (i := 670) (by decide +kernel)), by decide +kernel⟩
theorem ml_L_123 : am_T (.methodLink RL 123 yX7_trace) := ⟨List.mem_append_right _ (List.mem_of_getElem? (i := 674) (by decide +kernel)), by decide +kernel⟩
theorem ml_L_128 : am_T (.methodLink RL 128 yX7_fault) := ⟨List.mem_append_right _ (List.mem_of_getElem? (i := 678) (by decide +kernel)), by decide +kernel⟩
theorem ml_L_132 : am_T (.methodLink RL 132 yX7_many) := ⟨List.mem_append_right _ (List.mem_of_getElem? (i := 682) (by decide +kernel)), by decide +kernel⟩
theorem ml_L_12 : am_T (.methodLink RL 12 yX8_init) := ⟨List.mem_append_right _ (List.mem_of_getElem? (i := 688) (by decide +kernel)), by decide +kernel⟩
theorem ml_X8_1 : am_T (.methodLink RX8 1 objectInit) := ⟨List.mem_append_right _ (List.mem_of_getElem? (i := 691) (by decide +kernel)), by decide +kernel⟩
theorem ml_L_17 : am_T (.methodLink RL 17 yX8_ring) := ⟨List.mem_append_right _ (List.mem_of_getElem? (i := 789) (by decide +kernel)), by decide +kernel⟩
theorem ml_X8_113 : am_T (.methodLink RX8 113 yX8_noSheet) := ⟨List.mem_append_right _ (List.mem_of_getElem? (i := 793) (by decide +kernel)), by decide +kernel⟩
theorem ml_X8_80 : am_T (.methodLink RX8 80 yX8_in) := ⟨List.mem_append_right _ (List.mem_of_getElem? (i := 797) (by decide +kernel)), by decide +kernel⟩
theorem ml_X8_117 : am_T (.methodLink RX8 117 yX8_refused) := ⟨List.mem_append_right _ (List.mem_of_getElem? (i := 800) (by decide +kernel)), by decide +kernel⟩
theorem ml_X8_120 : am_T (.methodLink RX8 120 yX8_cellsBarred) := ⟨List.mem_append_right _ (List.mem_of_getElem? (i := 805) (by decide +kernel)), by decide +kernel⟩
theorem ml_X8_105 : am_T (.methodLink RX8 105 yX8_failed) := ⟨List.mem_append_right _ (List.mem_of_getElem? (i := 809) (by decide +kernel)), by decide +kernel⟩
theorem ml_X8_109 : am_T (.methodLink RX8 109 yX8_isBeyond) := ⟨List.mem_append_right _ (List.mem_of_getElem? (i := 813) (by decide +kernel)), by decide +kernel⟩
theorem ml_X8_124 : am_T (.methodLink RX8 124 yX8_readsRing) := ⟨List.mem_append_right _ (List.mem_of_getElem? (i := 816) (by decide +kernel)), by decide +kernel⟩
theorem ml_X8_90 : am_T (.methodLink RX8 90 yX8_codeAt) := ⟨List.mem_append_right _ (List.mem_of_getElem? (i := 820) (by decide +kernel)), by decide +kernel⟩
theorem ml_X8_101 : am_T (.methodLink RX8 101 yX8_readsPlace) := ⟨List.mem_append_right _ (List.mem_of_getElem? (i := 825) (by decide +kernel)), by decide +kernel⟩
theorem ml_L_22 : am_T (.methodLink RL 22 yX8_ofPlace) := ⟨List.mem_append_right _ (List.mem_of_getElem? (i := 829) (by decide +kernel)), by decide +kernel⟩
theorem ml_X8_149 : am_T (.methodLink RX8 149 yX8_noPlace) := ⟨List.mem_append_right _ (List.mem_of_getElem? (i := 833) (by decide +kernel)), by decide +kernel⟩
theorem ml_X8_142 : am_T (.methodLink RX8 142 yX8_takesNow) := ⟨List.mem_append_right _ (List.mem_of_getElem? (i := 837) (by decide +kernel)), by decide +kernel⟩
theorem ml_X8_139 : am_T (.methodLink RX8 139 yX8_becomes) := ⟨List.mem_append_right _ (List.mem_of_getElem? (i := 841) (by decide +kernel)), by decide +kernel⟩
theorem ml_X8_136 : am_T (.methodLink RX8 136 yX8_apart) := ⟨List.mem_append_right _ (List.mem_of_getElem? (i := 845) (by decide +kernel)), by decide +kernel⟩
theorem ml_L_26 : am_T (.methodLink RL 26 yX8_write) := ⟨List.mem_append_right _ (List.mem_of_getElem? (i := 848) (by decide +kernel)), by decide +kernel⟩
theorem ml_X8_152 : am_T (.methodLink RX8 152 yX8_isNumber) := ⟨List.mem_append_right _ (List.mem_of_getElem? (i := 852) (by decide +kernel)), by decide +kernel⟩
theorem ml_L_31 : am_T (.methodLink RL 31 yX8_steps) := ⟨List.mem_append_right _ (List.mem_of_getElem? (i := 856) (by decide +kernel)), by decide +kernel⟩
theorem ml_X8_160 : am_T (.methodLink RX8 160 yX8_doesSteps) := ⟨List.mem_append_right _ (List.mem_of_getElem? (i := 861) (by decide +kernel)), by decide +kernel⟩
theorem ml_X8_155 : am_T (.methodLink RX8 155 yX8_stepsOnce) := ⟨List.mem_append_right _ (List.mem_of_getElem? (i := 865) (by decide +kernel)), by decide +kernel⟩
theorem ml_X8_164 : am_T (.methodLink RX8 164 yX8_zeros) := ⟨List.mem_append_right _ (List.mem_of_getElem? (i := 869) (by decide +kernel)), by decide +kernel⟩
theorem ml_L_38 : am_T (.methodLink RL 38 yX8_after) := ⟨List.mem_append_right _ (List.mem_of_getElem? (i := 873) (by decide +kernel)), by decide +kernel⟩
theorem ml_X8_191 : am_T (.methodLink RX8 191 yX8_rowNow) := ⟨List.mem_append_right _ (List.mem_of_getElem? (i := 878) (by decide +kernel)), by decide +kernel⟩
theorem ml_X8_145 : am_T (.methodLink RX8 145 yX8_rowAt) := ⟨List.mem_append_right _ (List.mem_of_getElem? (i := 882) (by decide +kernel)), by decide +kernel⟩
theorem ml_X8_194 : am_T (.methodLink RX8 194 yX8_tables) := ⟨List.mem_append_right _ (List.mem_of_getElem? (i := 886) (by decide +kernel)), by decide +kernel⟩
theorem ml_X8_170 : am_T (.methodLink RX8 170 yX8_allRows) := ⟨List.mem_append_right _ (List.mem_of_getElem? (i := 890) (by decide +kernel)), by decide +kernel⟩
theorem ml_X8_173 : am_T (.methodLink RX8 173 yX8_takesRow) := ⟨List.mem_append_right _ (List.mem_of_getElem? (i := 894) (by decide +kernel)), by decide +kernel⟩
theorem ml_X8_176 : am_T (.methodLink RX8 176 yX8_takesAway) := ⟨List.mem_append_right _ (List.mem_of_getElem? (i := 898) (by decide +kernel)), by decide +kernel⟩
theorem ml_X8_197 : am_T (.methodLink RX8 197 yX8_roundOf) := ⟨List.mem_append_right _ (List.mem_of_getElem? (i := 902) (by decide +kernel)), by decide +kernel⟩
theorem ml_X8_182 : am_T (.methodLink RX8 182 yX8_behind) := ⟨List.mem_append_right _ (List.mem_of_getElem? (i := 906) (by decide +kernel)), by decide +kernel⟩
theorem ml_X8_186 : am_T (.methodLink RX8 186 yX8_roundFrom) := ⟨List.mem_append_right _ (List.mem_of_getElem? (i := 910) (by decide +kernel)), by decide +kernel⟩
theorem ml_L_43 : am_T (.methodLink RL 43 yX8_day) := ⟨List.mem_append_right _ (List.mem_of_getElem? (i := 914) (by decide +kernel)), by decide +kernel⟩
theorem ml_X8_228 : am_T (.methodLink RX8 228 yX8_dayOf) := ⟨List.mem_append_right _ (List.mem_of_getElem? (i := 923) (by decide +kernel)), by decide +kernel⟩
theorem ml_X8_209 : am_T (.methodLink RX8 209 yX8_doesPair) := ⟨List.mem_append_right _ (List.mem_of_getElem? (i := 927) (by decide +kernel)), by decide +kernel⟩
theorem ml_X8_203 : am_T (.methodLink RX8 203 yX8_write) := ⟨List.mem_append_right _ (List.mem_of_getElem? (i := 931) (by decide +kernel)), by decide +kernel⟩
theorem ml_X8_212 : am_T (.methodLink RX8 212 yX8_sumNow) := ⟨List.mem_append_right _ (List.mem_of_getElem? (i := 932) (by decide +kernel)), by decide +kernel⟩
theorem ml_X8_215 : am_T (.methodLink RX8 215 yX8_tailNow) := ⟨List.mem_append_right _ (List.mem_of_getElem? (i := 936) (by decide +kernel)), by decide +kernel⟩
theorem ml_L_47 : am_T (.methodLink RL 47 yX8_now) := ⟨List.mem_append_right _ (List.mem_of_getElem? (i := 940) (by decide +kernel)), by decide +kernel⟩
theorem ml_L_51 : am_T (.methodLink RL 51 yX8_from) := ⟨List.mem_append_right _ (List.mem_of_getElem? (i := 944) (by decide +kernel)), by decide +kernel⟩
theorem ml_L_55 : am_T (.methodLink RL 55 yX8_rows) := ⟨List.mem_append_right _ (List.mem_of_getElem? (i := 949) (by decide +kernel)), by decide +kernel⟩
theorem ml_X8_234 : am_T (.methodLink RX8 234 yX8_rounds) := ⟨List.mem_append_right _ (List.mem_of_getElem? (i := 953) (by decide +kernel)), by decide +kernel⟩
theorem ml_L_59 : am_T (.methodLink RL 59 yX8_longest) := ⟨List.mem_append_right _ (List.mem_of_getElem? (i := 957) (by decide +kernel)), by decide +kernel⟩
theorem ml_L_64 : am_T (.methodLink RL 64 yX8_meet) := ⟨List.mem_append_right _ (List.mem_of_getElem? (i := 961) (by decide +kernel)), by decide +kernel⟩
theorem ml_L_68 : am_T (.methodLink RL 68 yX8_few) := ⟨List.mem_append_right _ (List.mem_of_getElem? (i := 965) (by decide +kernel)), by decide +kernel⟩
theorem ml_X8_237 : am_T (.methodLink RX8 237 yX8_unlikeNow) := ⟨List.mem_append_right _ (List.mem_of_getElem? (i := 969) (by decide +kernel)), by decide +kernel⟩
theorem ml_X8_240 : am_T (.methodLink RX8 240 yX8_bits) := ⟨List.mem_append_right _ (List.mem_of_getElem? (i := 973) (by decide +kernel)), by decide +kernel⟩
theorem ml_L_72 : am_T (.methodLink RL 72 yX8_reading) := ⟨List.mem_append_right _ (List.mem_of_getElem? (i := 976) (by decide +kernel)), by decide +kernel⟩
theorem ml_L_76 : am_T (.methodLink RL 76 yX8_back) := ⟨List.mem_append_right _ (List.mem_of_getElem? (i := 980) (by decide +kernel)), by decide +kernel⟩
theorem ml_L_80 : am_T (.methodLink RL 80 yX8_kinds) := ⟨List.mem_append_right _ (List.mem_of_getElem? (i := 984) (by decide +kernel)), by decide +kernel⟩
theorem ml_X8_246 : am_T (.methodLink RX8 246 yX8_areSo) := ⟨List.mem_append_right _ (List.mem_of_getElem? (i := 988) (by decide +kernel)), by decide +kernel⟩
theorem ml_X8_243 : am_T (.methodLink RX8 243 yX8_isSo) := ⟨List.mem_append_right _ (List.mem_of_getElem? (i := 992) (by decide +kernel)), by decide +kernel⟩
theorem ml_L_84 : am_T (.methodLink RL 84 yX8_firsts) := ⟨List.mem_append_right _ (List.mem_of_getElem? (i := 996) (by decide +kernel)), by decide +kernel⟩
theorem ml_L_89 : am_T (.methodLink RL 89 yX8_odds) := ⟨List.mem_append_right _ (List.mem_of_getElem? (i := 1000) (by decide +kernel)), by decide +kernel⟩
theorem ml_X8_73 : am_T (.methodLink RX8 73 yX8_lost) := ⟨List.mem_append_right _ (List.mem_of_getElem? (i := 1004) (by decide +kernel)), by decide +kernel⟩
theorem ml_X8_250 : am_T (.methodLink RX8 250 yX8_share) := ⟨List.mem_append_right _ (List.mem_of_getElem? (i := 1008) (by decide +kernel)), by decide +kernel⟩
theorem ml_L_93 : am_T (.methodLink RL 93 yX8_sheet) := ⟨List.mem_append_right _ (List.mem_of_getElem? (i := 1011) (by decide +kernel)), by decide +kernel⟩
theorem ml_L_97 : am_T (.methodLink RL 97 yX8_lose) := ⟨List.mem_append_right _ (List.mem_of_getElem? (i := 1015) (by decide +kernel)), by decide +kernel⟩
theorem ml_L_101 : am_T (.methodLink RL 101 yX8_put) := ⟨List.mem_append_right _ (List.mem_of_getElem? (i := 1019) (by decide +kernel)), by decide +kernel⟩
theorem ml_X8_256 : am_T (.methodLink RX8 256 yX8_noCell) := ⟨List.mem_append_right _ (List.mem_of_getElem? (i := 1023) (by decide +kernel)), by decide +kernel⟩
theorem ml_L_106 : am_T (.methodLink RL 106 yX8_cell) := ⟨List.mem_append_right _ (List.mem_of_getElem? (i := 1027) (by decide +kernel)), by decide +kernel⟩
theorem ml_X8_259 : am_T (.methodLink RX8 259 yX8_failedLong) := ⟨List.mem_append_right _ (List.mem_of_getElem? (i := 1031) (by decide +kernel)), by decide +kernel⟩
theorem ml_L_110 : am_T (.methodLink RL 110 yX8_copy) := ⟨List.mem_append_right _ (List.mem_of_getElem? (i := 1035) (by decide +kernel)), by decide +kernel⟩
theorem ml_L_114 : am_T (.methodLink RL 114 yX8_tell) := ⟨List.mem_append_right _ (List.mem_of_getElem? (i := 1039) (by decide +kernel)), by decide +kernel⟩
theorem ml_X8_266 : am_T (.methodLink RX8 266 yX8_traced) := ⟨List.mem_append_right _ (List.mem_of_getElem? (i := 1043) (by decide +kernel)), by decide +kernel⟩
theorem ml_L_118 : am_T (.methodLink RL 118 yX8_call) := ⟨List.mem_append_right _ (List.mem_of_getElem? (i := 1047) (by decide +kernel)), by decide +kernel⟩
theorem ml_L_122 : am_T (.methodLink RL 122 yX8_as) := ⟨List.mem_append_right _ (List.mem_of_getElem? (i := 1051) (by decide +kernel)), by decide +kernel⟩
theorem ml_L_127 : am_T (.methodLink RL 127 yX8_trace) := ⟨List.mem_append_right _ (List.mem_of_getElem? (i := 1055) (by decide +kernel)), by decide +kernel⟩
theorem ml_L_131 : am_T (.methodLink RL 131 yX8_fault) := ⟨List.mem_append_right _ (List.mem_of_getElem? (i := 1059) (by decide +kernel)), by decide +kernel⟩
theorem ml_L_135 : am_T (.methodLink RL 135 yX8_many) := ⟨List.mem_append_right _ (List.mem_of_getElem? (i := 1063) (by decide +kernel)), by decide +kernel⟩
theorem ml_X7_17 : .methodLinkNest RX7 17 yX4_init "DifferRings" ∈ am_nest := List.mem_of_getElem? (i := 0) rfl
theorem ml_X7_20 : .methodLinkNest RX7 20 yX3_init "DifferRings" ∈ am_nest := List.mem_of_getElem? (i := 1) rfl
theorem ml_X7_30 : .methodLinkNest RX7 30 yX0_init "DifferRings" ∈ am_nest := List.mem_of_getElem? (i := 2) rfl
theorem ml_X0_11 : .methodLinkNest RX0 11 yX3_init "DifferRings" ∈ am_nest := List.mem_of_getElem? (i := 3) rfl
theorem ml_X7_37 : .methodLinkNest RX7 37 yX5_init "DifferRings" ∈ am_nest := List.mem_of_getElem? (i := 4) rfl
theorem ml_X7_44 : .methodLinkNest RX7 44 yX2_init "DifferRings" ∈ am_nest := List.mem_of_getElem? (i := 5) rfl
theorem ml_X7_51 : .methodLinkNest RX7 51 yX1_init "DifferRings" ∈ am_nest := List.mem_of_getElem? (i := 6) rfl
theorem in_L : am_T (.initialized RL) := ⟨List.mem_append_right _ (List.mem_of_getElem? (i := 0) (by decide +kernel)), by decide +kernel⟩
theorem in_X7 : am_T (.initialized RX7) := ⟨List.mem_append_right _ (List.mem_of_getElem? (i := 1) (by decide +kernel)), by decide +kernel⟩
theorem in_X4 : am_T (.initialized RX4) := ⟨List.mem_append_right _ (List.mem_of_getElem? (i := 2) (by decide +kernel)), by decide +kernel⟩
theorem in_X3 : am_T (.initialized RX3) := ⟨List.mem_append_right _ (List.mem_of_getElem? (i := 3) (by decide +kernel)), by decide +kernel⟩
theorem in_X0 : am_T (.initialized RX0) := ⟨List.mem_append_right _ (List.mem_of_getElem? (i := 4) (by decide +kernel)), by decide +kernel⟩
theorem in_X5 : am_T (.initialized RX5) := ⟨List.mem_append_right _ (List.mem_of_getElem? (i := 5) (by decide +kernel)), by decide +kernel⟩
theorem in_X2 : am_T (.initialized RX2) := ⟨List.mem_append_right _ (List.mem_of_getElem? (i := 6) (by decide +kernel)), by decide +kernel⟩
theorem in_X1 : am_T (.initialized RX1) := ⟨List.mem_append_right _ (List.mem_of_getElem? (i := 7) (by decide +kernel)), by decide +kernel⟩
theorem in_X8 : am_T (.initialized RX8) := ⟨List.mem_append_right _ (List.mem_of_getElem? (i := 8) (by decide +kernel)), by decide +kernel⟩
theorem in_X6 : am_T (.initialized RX6) := ⟨List.mem_append_right _ (List.mem_of_getElem? (i := 9) (by decide +kernel)), by decide +kernel⟩
theorem in_J9 : am_T (.initialized RJ9) := ⟨List.mem_append_right _ (List.mem_of_getElem? (i := 10) (by decide +kernel)), by decide +kernel⟩
theorem in_J10 : am_T (.initialized RJ10) := ⟨List.mem_append_right _ (List.mem_of_getElem? (i := 11) (by decide +kernel)), by decide +kernel⟩
theorem in_J7 : am_T (.initialized RJ7) := ⟨List.mem_append_right _ (List.mem_of_getElem? (i := 12) (by decide +kernel)), by decide +kernel⟩
theorem in_J6 : am_T (.initialized RJ6) := ⟨List.mem_append_right _ (List.mem_of_getElem? (i := 13) (by decide +kernel)), by decide +kernel⟩
theorem in_System : am_T (.initialized "java/lang/System") := ⟨List.mem_append_right _ (List.mem_of_getElem? (i := 11) (by decide +kernel)), by decide +kernel⟩
theorem im_X7_init : am_T (.instanceMethod yX7_init) := ⟨List.mem_append_right _ (List.mem_of_getElem? (i := 17) (by decide +kernel)), by decide +kernel⟩
theorem im_Object : am_T (.instanceMethod objectInit) := ⟨List.mem_append_right _ (List.mem_of_getElem? (i := 20) (by decide +kernel)), by decide +kernel⟩
theorem im_X4_init : am_T (.instanceMethod yX4_init) := ⟨List.mem_append_right _ (List.mem_of_getElem? (i := 26) (by decide +kernel)), by decide +kernel⟩
theorem im_X3_init : am_T (.instanceMethod yX3_init) := ⟨List.mem_append_right _ (List.mem_of_getElem? (i := 44) (by decide +kernel)), by decide +kernel⟩
theorem im_X0_init : am_T (.instanceMethod yX0_init) := ⟨List.mem_append_right _ (List.mem_of_getElem? (i := 77) (by decide +kernel)), by decide +kernel⟩
theorem im_X5_init : am_T (.instanceMethod yX5_init) := ⟨List.mem_append_right _ (List.mem_of_getElem? (i := 136) (by decide +kernel)), by decide +kernel⟩
theorem im_X2_init : am_T (.instanceMethod yX2_init) := ⟨List.mem_append_right _ (List.mem_of_getElem? (i := 158) (by decide +kernel)), by decide +kernel⟩
theorem im_X1_init : am_T (.instanceMethod yX1_init) := ⟨List.mem_append_right _ (List.mem_of_getElem? (i := 178) (by decide +kernel)), by decide +kernel⟩
theorem im_X7_ring : am_T (.instanceMethod yX7_ring) := ⟨List.mem_append_right _ (List.mem_of_getElem? (i := 226) (by decide +kernel)), by decide +kernel⟩
theorem im_X4_faultAs : am_T (.instanceMethod yX4_faultAs) := ⟨List.mem_append_right _ (List.mem_of_getElem? (i := 236) (by decide +kernel)), by decide +kernel⟩
theorem im_X4_hasNothing : am_T (.instanceMethod yX4_hasNothing) := ⟨List.mem_append_right _ (List.mem_of_getElem? (i := 240) (by decide +kernel)), by decide +kernel⟩
theorem im_X4_faultOf : am_T (.instanceMethod yX4_faultOf) := ⟨List.mem_append_right _ (List.mem_of_getElem? (i := 244) (by decide +kernel)), by decide +kernel⟩
