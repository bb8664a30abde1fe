/-! Words of calls and fields, by their places in the tables. -/
theorem mi {w : Cond} (i : Nat) (h : lw_tbl[i]? = some w) : w ∈ lw_tbl := List.mem_of_getElem? h
set_option maxRecDepth 100000 in
theorem in_X0 : ∀ w ∈ u_ws RX0 TX0 4, w ∈ lw_tbl := by decide +kernel
theorem ins_X0 : (u_ws RX0 TX0 4).all pw_st = true := by decide +kernel
set_option maxRecDepth 100000 in
theorem in_X1 : ∀ w ∈ u_ws RX1 TX1 13, w ∈ lw_tbl := by decide +kernel
theorem ins_X1 : (u_ws RX1 TX1 13).all pw_st = true := by decide +kernel
set_option maxRecDepth 100000 in
theorem in_X2 : ∀ w ∈ u_ws RX2 TX2 9, w ∈ lw_tbl := by decide +kernel
theorem ins_X2 : (u_ws RX2 TX2 9).all pw_st = true := by decide +kernel
set_option maxRecDepth 100000 in
theorem in_X3 : ∀ w ∈ u_ws RX3 TX3 8, w ∈ lw_tbl := by decide +kernel
theorem ins_X3 : (u_ws RX3 TX3 8).all pw_st = true := by decide +kernel
set_option maxRecDepth 100000 in
theorem in_X4 : ∀ w ∈ u_ws RX4 TX4 9, w ∈ lw_tbl := by decide +kernel
theorem ins_X4 : (u_ws RX4 TX4 9).all pw_st = true := by decide +kernel
set_option maxRecDepth 100000 in
theorem in_X5 : ∀ w ∈ u_ws RX5 TX5 8, w ∈ lw_tbl := by decide +kernel
theorem ins_X5 : (u_ws RX5 TX5 8).all pw_st = true := by decide +kernel
set_option maxRecDepth 100000 in
theorem in_X6 : ∀ w ∈ u_ws RX6 TX6 2, w ∈ lw_tbl := by decide +kernel
theorem ins_X6 : (u_ws RX6 TX6 2).all pw_st = true := by decide +kernel
set_option maxRecDepth 100000 in
theorem in_X7 : ∀ w ∈ u_ws RX7 TX7 5, w ∈ lw_tbl := by decide +kernel
theorem ins_X7 : (u_ws RX7 TX7 5).all pw_st = true := by decide +kernel
set_option maxRecDepth 100000 in
theorem in_X8 : ∀ w ∈ u_ws RX8 TX8 32, w ∈ lw_tbl := by decide +kernel
theorem ins_X8 : (u_ws RX8 TX8 32).all pw_st = true := by decide +kernel
theorem jm_max : Cond.static Lib.Math.max.name ∈ lw_tbl ∧ Cond.initialized "java/lang/Math" ∈ lw_tbl ∧ Cond.code Lib.Math.max.name Lib.Math.max.code 2 (some .int) ∈ lw_tbl := ⟨mi 554 (by decide +kernel), mi 75 (by decide +kernel), mi 555 (by decide +kernel)⟩
theorem jm_min : Cond.static Lib.Math.min.name ∈ lw_tbl ∧ Cond.initialized "java/lang/Math" ∈ lw_tbl ∧ Cond.code Lib.Math.min.name Lib.Math.min.code 2 (some .int) ∈ lw_tbl := ⟨mi 1133 (by decide +kernel), mi 75 (by decide +kernel), mi 1134 (by decide +kernel)⟩
theorem fl_X0_15 : lw_tbl[202]? = some (Cond.fieldLink RX0 15 (TX0 2).1 (TX0 2).2.1 (TX0 2).2.2.1) := by decide +kernel
theorem fl_X0_19 : lw_tbl[203]? = some (Cond.fieldLink RX0 19 (TX0 3).1 (TX0 3).2.1 (TX0 3).2.2.1) := by decide +kernel
theorem fl_X0_22 : lw_tbl[200]? = some (Cond.fieldLink RX0 22 (TX0 0).1 (TX0 0).2.1 (TX0 0).2.2.1) := by decide +kernel
theorem fl_X0_35 : lw_tbl[105]? = some (Cond.fieldLink RX0 35 (TX1 6).1 (TX1 6).2.1 (TX1 6).2.2.1) := by decide +kernel
theorem fl_X0_46 : lw_tbl[108]? = some (Cond.fieldLink RX0 46 (TX1 7).1 (TX1 7).2.1 (TX1 7).2.2.1) := by decide +kernel
theorem fl_X0_51 : lw_tbl[110]? = some (Cond.fieldLink RX0 51 (TX1 8).1 (TX1 8).2.1 (TX1 8).2.2.1) := by decide +kernel
theorem fl_X0_9 : lw_tbl[201]? = some (Cond.fieldLink RX0 9 (TX0 1).1 (TX0 1).2.1 (TX0 1).2.2.1) := by decide +kernel
theorem fl_X1_15 : lw_tbl[99]? = some (Cond.fieldLink RX1 15 (TX1 1).1 (TX1 1).2.1 (TX1 1).2.2.1) := by decide +kernel
theorem fl_X1_18 : lw_tbl[100]? = some (Cond.fieldLink RX1 18 (TX1 2).1 (TX1 2).2.1 (TX1 2).2.2.1) := by decide +kernel
theorem fl_X1_22 : lw_tbl[101]? = some (Cond.fieldLink RX1 22 (TX1 3).1 (TX1 3).2.1 (TX1 3).2.2.1) := by decide +kernel
theorem fl_X1_25 : lw_tbl[102]? = some (Cond.fieldLink RX1 25 (TX1 4).1 (TX1 4).2.1 (TX1 4).2.2.1) := by decide +kernel
theorem fl_X1_28 : lw_tbl[103]? = some (Cond.fieldLink RX1 28 (TX1 5).1 (TX1 5).2.1 (TX1 5).2.2.1) := by decide +kernel
theorem fl_X1_31 : lw_tbl[104]? = some (Cond.fieldLink RX1 31 (TX1 6).1 (TX1 6).2.1 (TX1 6).2.2.1) := by decide +kernel
theorem fl_X1_34 : lw_tbl[107]? = some (Cond.fieldLink RX1 34 (TX1 7).1 (TX1 7).2.1 (TX1 7).2.2.1) := by decide +kernel
theorem fl_X1_38 : lw_tbl[109]? = some (Cond.fieldLink RX1 38 (TX1 8).1 (TX1 8).2.1 (TX1 8).2.2.1) := by decide +kernel
theorem fl_X1_41 : lw_tbl[111]? = some (Cond.fieldLink RX1 41 (TX1 9).1 (TX1 9).2.1 (TX1 9).2.2.1) := by decide +kernel
theorem fl_X1_44 : lw_tbl[113]? = some (Cond.fieldLink RX1 44 (TX1 10).1 (TX1 10).2.1 (TX1 10).2.2.1) := by decide +kernel
theorem fl_X1_47 : lw_tbl[115]? = some (Cond.fieldLink RX1 47 (TX1 11).1 (TX1 11).2.1 (TX1 11).2.2.1) := by decide +kernel
theorem fl_X1_51 : lw_tbl[118]? = some (Cond.fieldLink RX1 51 (TX1 12).1 (TX1 12).2.1 (TX1 12).2.2.1) := by decide +kernel
theorem fl_X1_9 : lw_tbl[98]? = some (Cond.fieldLink RX1 9 (TX1 0).1 (TX1 0).2.1 (TX1 0).2.2.1) := by decide +kernel
theorem fl_X2_15 : lw_tbl[156]? = some (Cond.fieldLink RX2 15 (TX2 1).1 (TX2 1).2.1 (TX2 1).2.2.1) := by decide +kernel
theorem fl_X2_18 : lw_tbl[157]? = some (Cond.fieldLink RX2 18 (TX2 2).1 (TX2 2).2.1 (TX2 2).2.2.1) := by decide +kernel
theorem fl_X2_22 : lw_tbl[158]? = some (Cond.fieldLink RX2 22 (TX2 3).1 (TX2 3).2.1 (TX2 3).2.2.1) := by decide +kernel
theorem fl_X2_25 : lw_tbl[159]? = some (Cond.fieldLink RX2 25 (TX2 4).1 (TX2 4).2.1 (TX2 4).2.2.1) := by decide +kernel
theorem fl_X2_28 : lw_tbl[160]? = some (Cond.fieldLink RX2 28 (TX2 5).1 (TX2 5).2.1 (TX2 5).2.2.1) := by decide +kernel
theorem fl_X2_32 : lw_tbl[161]? = some (Cond.fieldLink RX2 32 (TX2 6).1 (TX2 6).2.1 (TX2 6).2.2.1) := by decide +kernel
theorem fl_X2_35 : lw_tbl[162]? = some (Cond.fieldLink RX2 35 (TX2 7).1 (TX2 7).2.1 (TX2 7).2.2.1) := by decide +kernel
theorem fl_X2_39 : lw_tbl[164]? = some (Cond.fieldLink RX2 39 (TX2 8).1 (TX2 8).2.1 (TX2 8).2.2.1) := by decide +kernel
theorem fl_X2_9 : lw_tbl[155]? = some (Cond.fieldLink RX2 9 (TX2 0).1 (TX2 0).2.1 (TX2 0).2.2.1) := by decide +kernel
theorem fl_X3_15 : lw_tbl[232]? = some (Cond.fieldLink RX3 15 (TX3 5).1 (TX3 5).2.1 (TX3 5).2.2.1) := by decide +kernel
theorem fl_X3_18 : lw_tbl[233]? = some (Cond.fieldLink RX3 18 (TX3 6).1 (TX3 6).2.1 (TX3 6).2.2.1) := by decide +kernel
theorem fl_X3_21 : lw_tbl[227]? = some (Cond.fieldLink RX3 21 (TX3 0).1 (TX3 0).2.1 (TX3 0).2.2.1) := by decide +kernel
theorem fl_X3_30 : lw_tbl[228]? = some (Cond.fieldLink RX3 30 (TX3 1).1 (TX3 1).2.1 (TX3 1).2.2.1) := by decide +kernel
theorem fl_X3_34 : lw_tbl[229]? = some (Cond.fieldLink RX3 34 (TX3 2).1 (TX3 2).2.1 (TX3 2).2.2.1) := by decide +kernel
theorem fl_X3_42 : lw_tbl[230]? = some (Cond.fieldLink RX3 42 (TX3 3).1 (TX3 3).2.1 (TX3 3).2.2.1) := by decide +kernel
theorem fl_X3_53 : lw_tbl[234]? = some (Cond.fieldLink RX3 53 (TX3 7).1 (TX3 7).2.1 (TX3 7).2.2.1) := by decide +kernel
theorem fl_X3_86 : lw_tbl[116]? = some (Cond.fieldLink RX3 86 (TX1 11).1 (TX1 11).2.1 (TX1 11).2.2.1) := by decide +kernel
theorem fl_X3_9 : lw_tbl[231]? = some (Cond.fieldLink RX3 9 (TX3 4).1 (TX3 4).2.1 (TX3 4).2.2.1) := by decide +kernel
theorem fl_X4_15 : lw_tbl[259]? = some (Cond.fieldLink RX4 15 (TX4 1).1 (TX4 1).2.1 (TX4 1).2.2.1) := by decide +kernel
theorem fl_X4_19 : lw_tbl[260]? = some (Cond.fieldLink RX4 19 (TX4 2).1 (TX4 2).2.1 (TX4 2).2.2.1) := by decide +kernel
theorem fl_X4_22 : lw_tbl[261]? = some (Cond.fieldLink RX4 22 (TX4 3).1 (TX4 3).2.1 (TX4 3).2.2.1) := by decide +kernel
theorem fl_X4_25 : lw_tbl[262]? = some (Cond.fieldLink RX4 25 (TX4 4).1 (TX4 4).2.1 (TX4 4).2.2.1) := by decide +kernel
theorem fl_X4_28 : lw_tbl[265]? = some (Cond.fieldLink RX4 28 (TX4 7).1 (TX4 7).2.1 (TX4 7).2.2.1) := by decide +kernel
theorem fl_X4_32 : lw_tbl[266]? = some (Cond.fieldLink RX4 32 (TX4 8).1 (TX4 8).2.1 (TX4 8).2.2.1) := by decide +kernel
theorem fl_X4_41 : lw_tbl[221]? = some (Cond.fieldLink RX4 41 (TX6 1).1 (TX6 1).2.1 (TX6 1).2.2.1) := by decide +kernel
theorem fl_X4_82 : lw_tbl[263]? = some (Cond.fieldLink RX4 82 (TX4 5).1 (TX4 5).2.1 (TX4 5).2.2.1) := by decide +kernel
theorem fl_X4_85 : lw_tbl[264]? = some (Cond.fieldLink RX4 85 (TX4 6).1 (TX4 6).2.1 (TX4 6).2.2.1) := by decide +kernel
theorem fl_X4_9 : lw_tbl[258]? = some (Cond.fieldLink RX4 9 (TX4 0).1 (TX4 0).2.1 (TX4 0).2.2.1) := by decide +kernel
theorem fl_X5_112 : lw_tbl[106]? = some (Cond.fieldLink RX5 112 (TX1 6).1 (TX1 6).2.1 (TX1 6).2.2.1) := by decide +kernel
theorem fl_X5_120 : lw_tbl[112]? = some (Cond.fieldLink RX5 120 (TX1 9).1 (TX1 9).2.1 (TX1 9).2.2.1) := by decide +kernel
theorem fl_X5_128 : lw_tbl[114]? = some (Cond.fieldLink RX5 128 (TX1 10).1 (TX1 10).2.1 (TX1 10).2.2.1) := by decide +kernel
theorem fl_X5_15 : lw_tbl[306]? = some (Cond.fieldLink RX5 15 (TX5 7).1 (TX5 7).2.1 (TX5 7).2.2.1) := by decide +kernel
theorem fl_X5_19 : lw_tbl[295]? = some (Cond.fieldLink RX5 19 (TX5 0).1 (TX5 0).2.1 (TX5 0).2.2.1) := by decide +kernel
theorem fl_X5_22 : lw_tbl[297]? = some (Cond.fieldLink RX5 22 (TX5 1).1 (TX5 1).2.1 (TX5 1).2.2.1) := by decide +kernel
theorem fl_X5_31 : lw_tbl[298]? = some (Cond.fieldLink RX5 31 (TX5 2).1 (TX5 2).2.1 (TX5 2).2.2.1) := by decide +kernel
theorem fl_X5_48 : lw_tbl[303]? = some (Cond.fieldLink RX5 48 (TX5 5).1 (TX5 5).2.1 (TX5 5).2.2.1) := by decide +kernel
theorem fl_X5_51 : lw_tbl[305]? = some (Cond.fieldLink RX5 51 (TX5 6).1 (TX5 6).2.1 (TX5 6).2.2.1) := by decide +kernel
theorem fl_X5_9 : lw_tbl[302]? = some (Cond.fieldLink RX5 9 (TX5 4).1 (TX5 4).2.1 (TX5 4).2.2.1) := by decide +kernel
theorem fl_X6_15 : lw_tbl[220]? = some (Cond.fieldLink RX6 15 (TX6 1).1 (TX6 1).2.1 (TX6 1).2.2.1) := by decide +kernel
theorem fl_X6_9 : lw_tbl[219]? = some (Cond.fieldLink RX6 9 (TX6 0).1 (TX6 0).2.1 (TX6 0).2.2.1) := by decide +kernel
theorem fl_X7_12 : lw_tbl[324]? = some (Cond.fieldLink RX7 12 (TX7 0).1 (TX7 0).2.1 (TX7 0).2.2.1) := by decide +kernel
theorem fl_X7_168 : lw_tbl[165]? = some (Cond.fieldLink RX7 168 (TX2 8).1 (TX2 8).2.1 (TX2 8).2.2.1) := by decide +kernel
theorem fl_X7_19 : lw_tbl[325]? = some (Cond.fieldLink RX7 19 (TX7 1).1 (TX7 1).2.1 (TX7 1).2.2.1) := by decide +kernel
theorem fl_X7_223 : lw_tbl[304]? = some (Cond.fieldLink RX7 223 (TX5 5).1 (TX5 5).2.1 (TX5 5).2.2.1) := by decide +kernel
theorem fl_X7_228 : lw_tbl[117]? = some (Cond.fieldLink RX7 228 (TX1 11).1 (TX1 11).2.1 (TX1 11).2.2.1) := by decide +kernel
theorem fl_X7_25 : lw_tbl[326]? = some (Cond.fieldLink RX7 25 (TX7 2).1 (TX7 2).2.1 (TX7 2).2.2.1) := by decide +kernel
theorem fl_X7_321 : lw_tbl[299]? = some (Cond.fieldLink RX7 321 (TX5 2).1 (TX5 2).2.1 (TX5 2).2.2.1) := by decide +kernel
theorem fl_X7_34 : lw_tbl[327]? = some (Cond.fieldLink RX7 34 (TX7 3).1 (TX7 3).2.1 (TX7 3).2.2.1) := by decide +kernel
theorem fl_X7_363 : lw_tbl[296]? = some (Cond.fieldLink RX7 363 (TX5 0).1 (TX5 0).2.1 (TX5 0).2.2.1) := by decide +kernel
theorem fl_X7_41 : lw_tbl[328]? = some (Cond.fieldLink RX7 41 (TX7 4).1 (TX7 4).2.1 (TX7 4).2.2.1) := by decide +kernel
theorem fl_X7_67 : lw_tbl[163]? = some (Cond.fieldLink RX7 67 (TX2 7).1 (TX2 7).2.1 (TX2 7).2.2.1) := by decide +kernel
theorem fl_X7_79 : lw_tbl[301]? = some (Cond.fieldLink RX7 79 (TX5 3).1 (TX5 3).2.1 (TX5 3).2.2.1) := by decide +kernel
theorem fl_X8_108 : lw_tbl[1374]? = some (Cond.fieldLink RX8 108 (TX8 20).1 (TX8 20).2.1 (TX8 20).2.2.1) := by decide +kernel
theorem fl_X8_119 : lw_tbl[1362]? = some (Cond.fieldLink RX8 119 (TX8 8).1 (TX8 8).2.1 (TX8 8).2.2.1) := by decide +kernel
theorem fl_X8_122 : lw_tbl[1363]? = some (Cond.fieldLink RX8 122 (TX8 9).1 (TX8 9).2.1 (TX8 9).2.2.1) := by decide +kernel
theorem fl_X8_13 : lw_tbl[1356]? = some (Cond.fieldLink RX8 13 (TX8 2).1 (TX8 2).2.1 (TX8 2).2.2.1) := by decide +kernel
theorem fl_X8_148 : lw_tbl[1381]? = some (Cond.fieldLink RX8 148 (TX8 27).1 (TX8 27).2.1 (TX8 27).2.2.1) := by decide +kernel
theorem fl_X8_16 : lw_tbl[1357]? = some (Cond.fieldLink RX8 16 (TX8 3).1 (TX8 3).2.1 (TX8 3).2.2.1) := by decide +kernel
theorem fl_X8_19 : lw_tbl[1358]? = some (Cond.fieldLink RX8 19 (TX8 4).1 (TX8 4).2.1 (TX8 4).2.2.1) := by decide +kernel
theorem fl_X8_22 : lw_tbl[1359]? = some (Cond.fieldLink RX8 22 (TX8 5).1 (TX8 5).2.1 (TX8 5).2.2.1) := by decide +kernel
theorem fl_X8_26 : lw_tbl[1360]? = some (Cond.fieldLink RX8 26 (TX8 6).1 (TX8 6).2.1 (TX8 6).2.2.1) := by decide +kernel
theorem fl_X8_30 : lw_tbl[1361]? = some (Cond.fieldLink RX8 30 (TX8 7).1 (TX8 7).2.1 (TX8 7).2.2.1) := by decide +kernel
theorem fl_X8_33 : lw_tbl[1364]? = some (Cond.fieldLink RX8 33 (TX8 10).1 (TX8 10).2.1 (TX8 10).2.2.1) := by decide +kernel
theorem fl_X8_36 : lw_tbl[1365]? = some (Cond.fieldLink RX8 36 (TX8 11).1 (TX8 11).2.1 (TX8 11).2.2.1) := by decide +kernel
theorem fl_X8_39 : lw_tbl[1366]? = some (Cond.fieldLink RX8 39 (TX8 12).1 (TX8 12).2.1 (TX8 12).2.2.1) := by decide +kernel
theorem fl_X8_44 : lw_tbl[1367]? = some (Cond.fieldLink RX8 44 (TX8 13).1 (TX8 13).2.1 (TX8 13).2.2.1) := by decide +kernel
theorem fl_X8_47 : lw_tbl[1368]? = some (Cond.fieldLink RX8 47 (TX8 14).1 (TX8 14).2.1 (TX8 14).2.2.1) := by decide +kernel
theorem fl_X8_50 : lw_tbl[1369]? = some (Cond.fieldLink RX8 50 (TX8 15).1 (TX8 15).2.1 (TX8 15).2.2.1) := by decide +kernel
theorem fl_X8_53 : lw_tbl[1370]? = some (Cond.fieldLink RX8 53 (TX8 16).1 (TX8 16).2.1 (TX8 16).2.2.1) := by decide +kernel
theorem fl_X8_56 : lw_tbl[1371]? = some (Cond.fieldLink RX8 56 (TX8 17).1 (TX8 17).2.1 (TX8 17).2.2.1) := by decide +kernel
theorem fl_X8_59 : lw_tbl[1372]? = some (Cond.fieldLink RX8 59 (TX8 18).1 (TX8 18).2.1 (TX8 18).2.2.1) := by decide +kernel
theorem fl_X8_64 : lw_tbl[1373]? = some (Cond.fieldLink RX8 64 (TX8 19).1 (TX8 19).2.1 (TX8 19).2.2.1) := by decide +kernel
theorem fl_X8_67 : lw_tbl[1375]? = some (Cond.fieldLink RX8 67 (TX8 21).1 (TX8 21).2.1 (TX8 21).2.2.1) := by decide +kernel
theorem fl_X8_70 : lw_tbl[1376]? = some (Cond.fieldLink RX8 70 (TX8 22).1 (TX8 22).2.1 (TX8 22).2.2.1) := by decide +kernel
theorem fl_X8_73 : lw_tbl[1377]? = some (Cond.fieldLink RX8 73 (TX8 23).1 (TX8 23).2.1 (TX8 23).2.2.1) := by decide +kernel
theorem fl_X8_76 : lw_tbl[1378]? = some (Cond.fieldLink RX8 76 (TX8 24).1 (TX8 24).2.1 (TX8 24).2.2.1) := by decide +kernel
theorem fl_X8_79 : lw_tbl[1379]? = some (Cond.fieldLink RX8 79 (TX8 25).1 (TX8 25).2.1 (TX8 25).2.2.1) := by decide +kernel
theorem fl_X8_82 : lw_tbl[1380]? = some (Cond.fieldLink RX8 82 (TX8 26).1 (TX8 26).2.1 (TX8 26).2.2.1) := by decide +kernel
theorem fl_X8_85 : lw_tbl[1382]? = some (Cond.fieldLink RX8 85 (TX8 28).1 (TX8 28).2.1 (TX8 28).2.2.1) := by decide +kernel
theorem fl_X8_88 : lw_tbl[1383]? = some (Cond.fieldLink RX8 88 (TX8 29).1 (TX8 29).2.1 (TX8 29).2.2.1) := by decide +kernel
theorem fl_X8_9 : lw_tbl[1355]? = some (Cond.fieldLink RX8 9 (TX8 1).1 (TX8 1).2.1 (TX8 1).2.2.1) := by decide +kernel
theorem fl_X8_91 : lw_tbl[1384]? = some (Cond.fieldLink RX8 91 (TX8 30).1 (TX8 30).2.1 (TX8 30).2.2.1) := by decide +kernel
theorem fl_X8_94 : lw_tbl[1385]? = some (Cond.fieldLink RX8 94 (TX8 31).1 (TX8 31).2.1 (TX8 31).2.2.1) := by decide +kernel
theorem fl_X8_97 : lw_tbl[1354]? = some (Cond.fieldLink RX8 97 (TX8 0).1 (TX8 0).2.1 (TX8 0).2.2.1) := by decide +kernel
theorem lk_Jxf58ca_59 : Cond.methodLink RJxf58ca 59 yJxf58ca_isNaN_12338 ∈ lw_tbl := mi 1515 (by decide +kernel)
theorem lk_Jxf58ca_74 : Cond.methodLink RJxf58ca 74 ⟨"java/lang/Float", "floatToRawIntBits", "(F)I"⟩ ∈ lw_tbl := mi 1518 (by decide +kernel)
theorem lk_L_103 : Cond.methodLink RL 103 yX7_keyBits ∈ lw_tbl := mi 1003 (by decide +kernel)
theorem lk_L_106 : Cond.methodLink RL 106 yX7_keyCut ∈ lw_tbl := mi 1019 (by decide +kernel)
theorem lk_L_109 : Cond.methodLink RL 109 yX7_topAt ∈ lw_tbl := mi 1027 (by decide +kernel)
theorem lk_L_112 : Cond.methodLink RL 112 yX7_lockedBy ∈ lw_tbl := mi 1041 (by decide +kernel)
theorem lk_L_115 : Cond.methodLink RL 115 yX7_inside ∈ lw_tbl := mi 1048 (by decide +kernel)
theorem lk_L_118 : Cond.methodLink RL 118 yX7_connectors ∈ lw_tbl := mi 1059 (by decide +kernel)
theorem lk_L_121 : Cond.methodLink RL 121 yX7_bends ∈ lw_tbl := mi 1066 (by decide +kernel)
theorem lk_L_124 : Cond.methodLink RL 124 yX7_bendsByRounds ∈ lw_tbl := mi 1146 (by decide +kernel)
theorem lk_L_127 : Cond.methodLink RL 127 yX7_routeLength ∈ lw_tbl := mi 1161 (by decide +kernel)
theorem lk_L_130 : Cond.methodLink RL 130 yX7_ownVotes ∈ lw_tbl := mi 1181 (by decide +kernel)
theorem lk_L_133 : Cond.methodLink RL 133 yX7_votesFor ∈ lw_tbl := mi 1188 (by decide +kernel)
theorem lk_L_136 : Cond.methodLink RL 136 yX7_winner ∈ lw_tbl := mi 1203 (by decide +kernel)
theorem lk_L_139 : Cond.methodLink RL 139 yX7_outcome ∈ lw_tbl := mi 1216 (by decide +kernel)
theorem lk_L_142 : Cond.methodLink RL 142 yX7_outcomeAnew ∈ lw_tbl := mi 1231 (by decide +kernel)
theorem lk_L_145 : Cond.methodLink RL 145 yX7_outcomes ∈ lw_tbl := mi 1258 (by decide +kernel)
theorem lk_L_148 : Cond.methodLink RL 148 yX7_areAlike ∈ lw_tbl := mi 1286 (by decide +kernel)
theorem lk_L_151 : Cond.methodLink RL 151 yX7_frameShare ∈ lw_tbl := mi 1314 (by decide +kernel)
theorem lk_L_157 : Cond.methodLink RL 157 yX7_meanRoute ∈ lw_tbl := mi 1328 (by decide +kernel)
theorem lk_L_161 : Cond.methodLink RL 161 yX7_area ∈ lw_tbl := mi 1336 (by decide +kernel)
theorem lk_L_169 : Cond.methodLink RL 169 yL_addShape ∈ lw_tbl := mi 344 (by decide +kernel)
theorem lk_L_17 : Cond.methodLink RL 17 yX7_move ∈ lw_tbl := mi 578 (by decide +kernel)
theorem lk_L_174 : Cond.methodLink RL 174 yX8_addShape ∈ lw_tbl := mi 1455 (by decide +kernel)
theorem lk_L_175 : Cond.methodLink RL 175 yX8_thrown ∈ lw_tbl := mi 1451 (by decide +kernel)
theorem lk_L_179 : Cond.methodLink RL 179 yL_move ∈ lw_tbl := mi 573 (by decide +kernel)
theorem lk_L_182 : Cond.methodLink RL 182 yX8_move ∈ lw_tbl := mi 1527 (by decide +kernel)
theorem lk_L_183 : Cond.methodLink RL 183 yL_raise ∈ lw_tbl := mi 678 (by decide +kernel)
theorem lk_L_186 : Cond.methodLink RL 186 yX8_raise ∈ lw_tbl := mi 1551 (by decide +kernel)
theorem lk_L_187 : Cond.methodLink RL 187 yL_lower ∈ lw_tbl := mi 696 (by decide +kernel)
theorem lk_L_189 : Cond.methodLink RL 189 yX8_lower ∈ lw_tbl := mi 1563 (by decide +kernel)
theorem lk_L_190 : Cond.methodLink RL 190 yL_putAbove ∈ lw_tbl := mi 707 (by decide +kernel)
theorem lk_L_193 : Cond.methodLink RL 193 yX8_putAbove ∈ lw_tbl := mi 1571 (by decide +kernel)
theorem lk_L_194 : Cond.methodLink RL 194 yL_remove ∈ lw_tbl := mi 724 (by decide +kernel)
theorem lk_L_196 : Cond.methodLink RL 196 yX8_remove ∈ lw_tbl := mi 1575 (by decide +kernel)
theorem lk_L_197 : Cond.methodLink RL 197 yL_lock ∈ lw_tbl := mi 731 (by decide +kernel)
theorem lk_L_199 : Cond.methodLink RL 199 yX8_lock ∈ lw_tbl := mi 1583 (by decide +kernel)
theorem lk_L_200 : Cond.methodLink RL 200 yL_unlock ∈ lw_tbl := mi 742 (by decide +kernel)
theorem lk_L_202 : Cond.methodLink RL 202 yX8_unlock ∈ lw_tbl := mi 1587 (by decide +kernel)
theorem lk_L_203 : Cond.methodLink RL 203 yL_connect ∈ lw_tbl := mi 751 (by decide +kernel)
theorem lk_L_206 : Cond.methodLink RL 206 yX8_connect ∈ lw_tbl := mi 1591 (by decide +kernel)
theorem lk_L_207 : Cond.methodLink RL 207 yL_disconnect ∈ lw_tbl := mi 767 (by decide +kernel)
theorem lk_L_209 : Cond.methodLink RL 209 yX8_disconnect ∈ lw_tbl := mi 1598 (by decide +kernel)
theorem lk_L_210 : Cond.methodLink RL 210 yL_vote ∈ lw_tbl := mi 795 (by decide +kernel)
theorem lk_L_212 : Cond.methodLink RL 212 yX8_vote ∈ lw_tbl := mi 1610 (by decide +kernel)
theorem lk_L_213 : Cond.methodLink RL 213 yL_show ∈ lw_tbl := mi 821 (by decide +kernel)
theorem lk_L_216 : Cond.methodLink RL 216 yX8_show ∈ lw_tbl := mi 1614 (by decide +kernel)
theorem lk_L_217 : Cond.methodLink RL 217 yL_takeBack ∈ lw_tbl := mi 828 (by decide +kernel)
theorem lk_L_220 : Cond.methodLink RL 220 yX8_takeBack ∈ lw_tbl := mi 1622 (by decide +kernel)
theorem lk_L_221 : Cond.methodLink RL 221 yL_deliver ∈ lw_tbl := mi 857 (by decide +kernel)
theorem lk_L_223 : Cond.methodLink RL 223 yX8_deliver ∈ lw_tbl := mi 1626 (by decide +kernel)
theorem lk_L_224 : Cond.methodLink RL 224 yL_sync ∈ lw_tbl := mi 876 (by decide +kernel)
theorem lk_L_226 : Cond.methodLink RL 226 yX8_sync ∈ lw_tbl := mi 1638 (by decide +kernel)
theorem lk_L_227 : Cond.methodLink RL 227 yX7_operations ∈ lw_tbl := mi 340 (by decide +kernel)
theorem lk_L_230 : Cond.methodLink RL 230 yX8_operations ∈ lw_tbl := mi 1642 (by decide +kernel)
theorem lk_L_231 : Cond.methodLink RL 231 yL_userOf ∈ lw_tbl := mi 884 (by decide +kernel)
theorem lk_L_233 : Cond.methodLink RL 233 yX8_userOf ∈ lw_tbl := mi 1646 (by decide +kernel)
theorem lk_L_234 : Cond.methodLink RL 234 yL_clockOf ∈ lw_tbl := mi 892 (by decide +kernel)
theorem lk_L_236 : Cond.methodLink RL 236 yX8_clockOf ∈ lw_tbl := mi 1650 (by decide +kernel)
theorem lk_L_237 : Cond.methodLink RL 237 yL_knows ∈ lw_tbl := mi 900 (by decide +kernel)
theorem lk_L_239 : Cond.methodLink RL 239 yX8_knows ∈ lw_tbl := mi 1654 (by decide +kernel)
theorem lk_L_240 : Cond.methodLink RL 240 yL_shapes ∈ lw_tbl := mi 907 (by decide +kernel)
theorem lk_L_242 : Cond.methodLink RL 242 yX8_shapes ∈ lw_tbl := mi 1658 (by decide +kernel)
theorem lk_L_243 : Cond.methodLink RL 243 yL_sees ∈ lw_tbl := mi 914 (by decide +kernel)
theorem lk_L_245 : Cond.methodLink RL 245 yX8_sees ∈ lw_tbl := mi 1666 (by decide +kernel)
theorem lk_L_246 : Cond.methodLink RL 246 yL_columnOf ∈ lw_tbl := mi 921 (by decide +kernel)
theorem lk_L_248 : Cond.methodLink RL 248 yX8_columnOf ∈ lw_tbl := mi 1670 (by decide +kernel)
theorem lk_L_249 : Cond.methodLink RL 249 yL_rowOf ∈ lw_tbl := mi 933 (by decide +kernel)
theorem lk_L_25 : Cond.methodLink RL 25 yX7_raise ∈ lw_tbl := mi 681 (by decide +kernel)
theorem lk_L_251 : Cond.methodLink RL 251 yX8_rowOf ∈ lw_tbl := mi 1678 (by decide +kernel)
theorem lk_L_252 : Cond.methodLink RL 252 yL_rankOf ∈ lw_tbl := mi 941 (by decide +kernel)
theorem lk_L_254 : Cond.methodLink RL 254 yX8_rankOf ∈ lw_tbl := mi 1682 (by decide +kernel)
theorem lk_L_255 : Cond.methodLink RL 255 yL_shapeAt ∈ lw_tbl := mi 948 (by decide +kernel)
theorem lk_L_257 : Cond.methodLink RL 257 yX8_shapeAt ∈ lw_tbl := mi 1686 (by decide +kernel)
theorem lk_L_258 : Cond.methodLink RL 258 yL_keyOf ∈ lw_tbl := mi 993 (by decide +kernel)
theorem lk_L_261 : Cond.methodLink RL 261 yX8_keyOf ∈ lw_tbl := mi 1690 (by decide +kernel)
theorem lk_L_262 : Cond.methodLink RL 262 yL_keyBits ∈ lw_tbl := mi 1000 (by decide +kernel)
theorem lk_L_264 : Cond.methodLink RL 264 yX8_keyBits ∈ lw_tbl := mi 1694 (by decide +kernel)
theorem lk_L_265 : Cond.methodLink RL 265 yL_keyCut ∈ lw_tbl := mi 1016 (by decide +kernel)
theorem lk_L_267 : Cond.methodLink RL 267 yX8_keyCut ∈ lw_tbl := mi 1698 (by decide +kernel)
theorem lk_L_268 : Cond.methodLink RL 268 yL_topAt ∈ lw_tbl := mi 1024 (by decide +kernel)
theorem lk_L_270 : Cond.methodLink RL 270 yX8_topAt ∈ lw_tbl := mi 1703 (by decide +kernel)
theorem lk_L_271 : Cond.methodLink RL 271 yL_lockedBy ∈ lw_tbl := mi 1038 (by decide +kernel)
theorem lk_L_273 : Cond.methodLink RL 273 yX8_lockedBy ∈ lw_tbl := mi 1711 (by decide +kernel)
theorem lk_L_274 : Cond.methodLink RL 274 yL_inside ∈ lw_tbl := mi 1045 (by decide +kernel)
theorem lk_L_276 : Cond.methodLink RL 276 yX8_inside ∈ lw_tbl := mi 1715 (by decide +kernel)
theorem lk_L_277 : Cond.methodLink RL 277 yL_connectors ∈ lw_tbl := mi 1056 (by decide +kernel)
theorem lk_L_279 : Cond.methodLink RL 279 yX8_connectors ∈ lw_tbl := mi 1719 (by decide +kernel)
theorem lk_L_280 : Cond.methodLink RL 280 yL_bends ∈ lw_tbl := mi 1063 (by decide +kernel)
theorem lk_L_282 : Cond.methodLink RL 282 yX8_bends ∈ lw_tbl := mi 1723 (by decide +kernel)
theorem lk_L_283 : Cond.methodLink RL 283 yL_bendsByRounds ∈ lw_tbl := mi 1143 (by decide +kernel)
theorem lk_L_285 : Cond.methodLink RL 285 yX8_bendsByRounds ∈ lw_tbl := mi 1759 (by decide +kernel)
theorem lk_L_286 : Cond.methodLink RL 286 yL_routeLength ∈ lw_tbl := mi 1158 (by decide +kernel)
theorem lk_L_288 : Cond.methodLink RL 288 yX8_routeLength ∈ lw_tbl := mi 1764 (by decide +kernel)
theorem lk_L_289 : Cond.methodLink RL 289 yL_ownVotes ∈ lw_tbl := mi 1178 (by decide +kernel)
theorem lk_L_29 : Cond.methodLink RL 29 yX7_lower ∈ lw_tbl := mi 699 (by decide +kernel)
theorem lk_L_291 : Cond.methodLink RL 291 yX8_ownVotes ∈ lw_tbl := mi 1768 (by decide +kernel)
theorem lk_L_292 : Cond.methodLink RL 292 yL_votesFor ∈ lw_tbl := mi 1185 (by decide +kernel)
theorem lk_L_294 : Cond.methodLink RL 294 yX8_votesFor ∈ lw_tbl := mi 1772 (by decide +kernel)
theorem lk_L_295 : Cond.methodLink RL 295 yL_winner ∈ lw_tbl := mi 1200 (by decide +kernel)
theorem lk_L_297 : Cond.methodLink RL 297 yX8_winner ∈ lw_tbl := mi 1780 (by decide +kernel)
theorem lk_L_298 : Cond.methodLink RL 298 yL_outcome ∈ lw_tbl := mi 1213 (by decide +kernel)
theorem lk_L_300 : Cond.methodLink RL 300 yX8_outcome ∈ lw_tbl := mi 1784 (by decide +kernel)
theorem lk_L_301 : Cond.methodLink RL 301 yL_outcomeAnew ∈ lw_tbl := mi 1228 (by decide +kernel)
theorem lk_L_303 : Cond.methodLink RL 303 yX8_outcomeAnew ∈ lw_tbl := mi 1797 (by decide +kernel)
theorem lk_L_304 : Cond.methodLink RL 304 yL_outcomes ∈ lw_tbl := mi 1255 (by decide +kernel)
theorem lk_L_306 : Cond.methodLink RL 306 yX8_outcomes ∈ lw_tbl := mi 1802 (by decide +kernel)
theorem lk_L_307 : Cond.methodLink RL 307 yL_areAlike ∈ lw_tbl := mi 1283 (by decide +kernel)
theorem lk_L_309 : Cond.methodLink RL 309 yX8_areAlike ∈ lw_tbl := mi 1806 (by decide +kernel)
theorem lk_L_310 : Cond.methodLink RL 310 yL_frameShare ∈ lw_tbl := mi 1297 (by decide +kernel)
theorem lk_L_313 : Cond.methodLink RL 313 yX8_frameShare ∈ lw_tbl := mi 1810 (by decide +kernel)
theorem lk_L_314 : Cond.methodLink RL 314 yL_meanRoute ∈ lw_tbl := mi 1325 (by decide +kernel)
theorem lk_L_316 : Cond.methodLink RL 316 yX8_meanRoute ∈ lw_tbl := mi 1814 (by decide +kernel)
theorem lk_L_317 : Cond.methodLink RL 317 yL_area ∈ lw_tbl := mi 1333 (by decide +kernel)
theorem lk_L_319 : Cond.methodLink RL 319 yX8_area ∈ lw_tbl := mi 1818 (by decide +kernel)
theorem lk_L_32 : Cond.methodLink RL 32 yX7_putAbove ∈ lw_tbl := mi 710 (by decide +kernel)
theorem lk_L_36 : Cond.methodLink RL 36 yX7_remove ∈ lw_tbl := mi 727 (by decide +kernel)
theorem lk_L_39 : Cond.methodLink RL 39 yX7_lock ∈ lw_tbl := mi 734 (by decide +kernel)
theorem lk_L_42 : Cond.methodLink RL 42 yX7_unlock ∈ lw_tbl := mi 745 (by decide +kernel)
theorem lk_L_45 : Cond.methodLink RL 45 yX7_connect ∈ lw_tbl := mi 754 (by decide +kernel)
theorem lk_L_49 : Cond.methodLink RL 49 yX7_disconnect ∈ lw_tbl := mi 770 (by decide +kernel)
theorem lk_L_52 : Cond.methodLink RL 52 yX7_vote ∈ lw_tbl := mi 798 (by decide +kernel)
theorem lk_L_55 : Cond.methodLink RL 55 yX7_show ∈ lw_tbl := mi 824 (by decide +kernel)
theorem lk_L_59 : Cond.methodLink RL 59 yX7_takeBack ∈ lw_tbl := mi 831 (by decide +kernel)
theorem lk_L_63 : Cond.methodLink RL 63 yX7_deliver ∈ lw_tbl := mi 860 (by decide +kernel)
theorem lk_L_66 : Cond.methodLink RL 66 yX7_sync ∈ lw_tbl := mi 879 (by decide +kernel)
theorem lk_L_69 : Cond.methodLink RL 69 yX7_userOf ∈ lw_tbl := mi 887 (by decide +kernel)
theorem lk_L_7 : Cond.methodLink RL 7 yX7_addShape ∈ lw_tbl := mi 349 (by decide +kernel)
theorem lk_L_72 : Cond.methodLink RL 72 yX7_clockOf ∈ lw_tbl := mi 895 (by decide +kernel)
theorem lk_L_75 : Cond.methodLink RL 75 yX7_knows ∈ lw_tbl := mi 903 (by decide +kernel)
theorem lk_L_79 : Cond.methodLink RL 79 yX7_shapes ∈ lw_tbl := mi 910 (by decide +kernel)
theorem lk_L_82 : Cond.methodLink RL 82 yX7_sees ∈ lw_tbl := mi 917 (by decide +kernel)
theorem lk_L_85 : Cond.methodLink RL 85 yX7_columnOf ∈ lw_tbl := mi 924 (by decide +kernel)
theorem lk_L_88 : Cond.methodLink RL 88 yX7_rowOf ∈ lw_tbl := mi 936 (by decide +kernel)
theorem lk_L_91 : Cond.methodLink RL 91 yX7_rankOf ∈ lw_tbl := mi 944 (by decide +kernel)
theorem lk_L_94 : Cond.methodLink RL 94 yX7_shapeAt ∈ lw_tbl := mi 975 (by decide +kernel)
theorem lk_L_99 : Cond.methodLink RL 99 yX7_keyOf ∈ lw_tbl := mi 996 (by decide +kernel)
theorem lk_X0_26 : Cond.methodLink RX0 26 yX1_endRowOf ∈ lw_tbl := mi 560 (by decide +kernel)
theorem lk_X0_32 : Cond.methodLink RX0 32 yX1_firstRowOf ∈ lw_tbl := mi 564 (by decide +kernel)
theorem lk_X0_38 : Cond.methodLinkNest RX0 38 yX7_intAt "Plugboard" ∈ lw_tbl := mi 568 (by decide +kernel)
theorem lk_X0_42 : Cond.methodLink RX0 42 yX1_isLater ∈ lw_tbl := mi 569 (by decide +kernel)
theorem lk_X0_47 : Cond.methodLinkNest RX0 47 yX7_floatAt "Plugboard" ∈ lw_tbl := mi 570 (by decide +kernel)
theorem lk_X0_52 : Cond.methodLinkNest RX0 52 yX7_isSameValue "Plugboard" ∈ lw_tbl := mi 1294 (by decide +kernel)
theorem lk_X1_54 : Cond.methodLink RX1 54 yX1_fileByTime ∈ lw_tbl := mi 510 (by decide +kernel)
theorem lk_X1_58 : Cond.methodLink RX1 58 yX1_isLater ∈ lw_tbl := mi 514 (by decide +kernel)
theorem lk_X1_62 : Cond.methodLinkNest RX1 62 yX7_isAt "Plugboard" ∈ lw_tbl := mi 839 (by decide +kernel)
theorem lk_X1_66 : Cond.methodLink RX1 66 yX1_userAt ∈ lw_tbl := mi 840 (by decide +kernel)
theorem lk_X1_70 : Cond.methodLinkNest RX1 70 yX7_intAt "Plugboard" ∈ lw_tbl := mi 550 (by decide +kernel)
theorem lk_X2_42 : Cond.methodLinkNest RX2 42 yX7_intAt "Plugboard" ∈ lw_tbl := mi 587 (by decide +kernel)
theorem lk_X2_46 : Cond.methodLinkNest RX2 46 yX7_isAt "Plugboard" ∈ lw_tbl := mi 652 (by decide +kernel)
theorem lk_X3_101 : Cond.methodLink RX3 101 yJ9_floorMod_7cf53 ∈ lw_tbl := mi 1276 (by decide +kernel)
theorem lk_X3_46 : Cond.methodLink RX3 46 yX3_listKnown ∈ lw_tbl := mi 1239 (by decide +kernel)
theorem lk_X3_50 : Cond.methodLink RX3 50 yX0_empty ∈ lw_tbl := mi 1248 (by decide +kernel)
theorem lk_X3_57 : Cond.methodLinkNest RX3 57 yX7_intAt "Plugboard" ∈ lw_tbl := mi 1252 (by decide +kernel)
theorem lk_X3_61 : Cond.methodLink RX3 61 yX0_take ∈ lw_tbl := mi 1253 (by decide +kernel)
theorem lk_X3_65 : Cond.methodLink RX3 65 yX6_sumUp ∈ lw_tbl := mi 1254 (by decide +kernel)
theorem lk_X3_69 : Cond.methodLink RX3 69 yJ9_min_7cf53 ∈ lw_tbl := mi 1267 (by decide +kernel)
theorem lk_X3_75 : Cond.methodLink RX3 75 yX0_copy ∈ lw_tbl := mi 1268 (by decide +kernel)
theorem lk_X3_79 : Cond.methodLink RX3 79 yX3_mix ∈ lw_tbl := mi 1272 (by decide +kernel)
theorem lk_X3_83 : Cond.methodLink RX3 83 yX3_collect ∈ lw_tbl := mi 1279 (by decide +kernel)
theorem lk_X3_91 : Cond.methodLink RX3 91 yX1_operationAtTime ∈ lw_tbl := mi 1243 (by decide +kernel)
theorem lk_X3_95 : Cond.methodLink RX3 95 yX5_isKnown ∈ lw_tbl := mi 1247 (by decide +kernel)
theorem lk_X4_100 : Cond.methodLink RX4 100 yX4_turnPage ∈ lw_tbl := mi 1135 (by decide +kernel)
theorem lk_X4_104 : Cond.methodLinkNest RX4 104 yX7_intAt "Plugboard" ∈ lw_tbl := mi 1116 (by decide +kernel)
theorem lk_X4_108 : Cond.methodLink RX4 108 yJ9_min_7cf53 ∈ lw_tbl := mi 1132 (by decide +kernel)
theorem lk_X4_113 : Cond.methodLink RX4 113 yX4_spotBeside ∈ lw_tbl := mi 1117 (by decide +kernel)
theorem lk_X4_116 : Cond.methodLink RX4 116 yX4_pushLater ∈ lw_tbl := mi 1124 (by decide +kernel)
theorem lk_X4_119 : Cond.methodLink RX4 119 yX4_cellBeside ∈ lw_tbl := mi 1121 (by decide +kernel)
theorem lk_X4_122 : Cond.methodLink RX4 122 yX4_improve ∈ lw_tbl := mi 1154 (by decide +kernel)
theorem lk_X4_125 : Cond.methodLink RX4 125 yX4_fewestTurns ∈ lw_tbl := mi 1169 (by decide +kernel)
theorem lk_X4_128 : Cond.methodLink RX4 128 yX4_count ∈ lw_tbl := mi 1170 (by decide +kernel)
theorem lk_X4_131 : Cond.methodLink RX4 131 yX4_countOn ∈ lw_tbl := mi 1174 (by decide +kernel)
theorem lk_X4_35 : Cond.methodLink RX4 35 yX6_isSeen ∈ lw_tbl := mi 1078 (by decide +kernel)
theorem lk_X4_45 : Cond.methodLink RX4 45 yX2_isFrameAt ∈ lw_tbl := mi 1079 (by decide +kernel)
theorem lk_X4_50 : Cond.methodLink RX4 50 yX4_block ∈ lw_tbl := mi 1080 (by decide +kernel)
theorem lk_X4_54 : Cond.methodLink RX4 54 yX6_endOf ∈ lw_tbl := mi 1089 (by decide +kernel)
theorem lk_X4_58 : Cond.methodLink RX4 58 yX2_widthAt ∈ lw_tbl := mi 1084 (by decide +kernel)
theorem lk_X4_62 : Cond.methodLink RX4 62 yX2_heightAt ∈ lw_tbl := mi 1085 (by decide +kernel)
theorem lk_X4_65 : Cond.methodLink RX4 65 yX6_columnAt ∈ lw_tbl := mi 1086 (by decide +kernel)
theorem lk_X4_68 : Cond.methodLink RX4 68 yX6_rowAt ∈ lw_tbl := mi 1087 (by decide +kernel)
theorem lk_X4_71 : Cond.methodLinkNest RX4 71 yX7_cellAt "Plugboard" ∈ lw_tbl := mi 1088 (by decide +kernel)
theorem lk_X4_75 : Cond.methodLinkNest RX4 75 yX7_isAt "Plugboard" ∈ lw_tbl := mi 1102 (by decide +kernel)
theorem lk_X4_79 : Cond.methodLink RX4 79 yX4_startAnew ∈ lw_tbl := mi 1103 (by decide +kernel)
theorem lk_X4_88 : Cond.methodLink RX4 88 yX4_pushHere ∈ lw_tbl := mi 1108 (by decide +kernel)
theorem lk_X4_92 : Cond.methodLink RX4 92 yX4_goOn ∈ lw_tbl := mi 1112 (by decide +kernel)
theorem lk_X4_96 : Cond.methodLink RX4 96 yX4_turnsAtEnd ∈ lw_tbl := mi 1128 (by decide +kernel)
theorem lk_X5_100 : Cond.methodLink RX5 100 yX5_end ∈ lw_tbl := mi 694 (by decide +kernel)
theorem lk_X5_103 : Cond.methodLink RX5 103 yX1_close ∈ lw_tbl := mi 849 (by decide +kernel)
theorem lk_X5_106 : Cond.methodLink RX5 106 yX1_endRowOf ∈ lw_tbl := mi 853 (by decide +kernel)
theorem lk_X5_109 : Cond.methodLink RX5 109 yX1_firstRowOf ∈ lw_tbl := mi 854 (by decide +kernel)
theorem lk_X5_116 : Cond.methodLinkNest RX5 116 yX7_intAt "Plugboard" ∈ lw_tbl := mi 855 (by decide +kernel)
theorem lk_X5_124 : Cond.methodLinkNest RX5 124 yX7_floatAt "Plugboard" ∈ lw_tbl := mi 856 (by decide +kernel)
theorem lk_X5_44 : Cond.methodLinkNest RX5 44 yX7_isAt "Plugboard" ∈ lw_tbl := mi 873 (by decide +kernel)
theorem lk_X5_54 : Cond.methodLink RX5 54 yX1_clockAt ∈ lw_tbl := mi 546 (by decide +kernel)
theorem lk_X5_60 : Cond.methodLink RX5 60 yJ9_max_7cf53 ∈ lw_tbl := mi 553 (by decide +kernel)
theorem lk_X5_66 : Cond.methodLink RX5 66 yX0_take ∈ lw_tbl := mi 556 (by decide +kernel)
theorem lk_X5_70 : Cond.methodLink RX5 70 yX1_open ∈ lw_tbl := mi 506 (by decide +kernel)
theorem lk_X5_74 : Cond.methodLink RX5 74 yX1_add ∈ lw_tbl := mi 522 (by decide +kernel)
theorem lk_X5_78 : Cond.methodLink RX5 78 yX0_valueAt ∈ lw_tbl := mi 526 (by decide +kernel)
theorem lk_X5_82 : Cond.methodLink RX5 82 yX0_stemAt ∈ lw_tbl := mi 527 (by decide +kernel)
theorem lk_X5_85 : Cond.methodLink RX5 85 yX1_remember ∈ lw_tbl := mi 531 (by decide +kernel)
theorem lk_X5_89 : Cond.methodLink RX5 89 yX5_learn ∈ lw_tbl := mi 542 (by decide +kernel)
theorem lk_X5_92 : Cond.methodLink RX5 92 yX5_begin ∈ lw_tbl := mi 692 (by decide +kernel)
theorem lk_X5_96 : Cond.methodLink RX5 96 yX5_write ∈ lw_tbl := mi 693 (by decide +kernel)
theorem lk_X6_101 : Cond.methodLink RX6 101 yX6_votesBy ∈ lw_tbl := mi 818 (by decide +kernel)
theorem lk_X6_104 : Cond.methodLink RX6 104 yX6_allVotesFor ∈ lw_tbl := mi 1211 (by decide +kernel)
theorem lk_X6_107 : Cond.methodLink RX6 107 yX6_join ∈ lw_tbl := mi 1224 (by decide +kernel)
theorem lk_X6_19 : Cond.methodLink RX6 19 yX2_hasShape ∈ lw_tbl := mi 469 (by decide +kernel)
theorem lk_X6_25 : Cond.methodLink RX6 25 yX0_valueAt ∈ lw_tbl := mi 473 (by decide +kernel)
theorem lk_X6_31 : Cond.methodLink RX6 31 yX6_isSeen ∈ lw_tbl := mi 465 (by decide +kernel)
theorem lk_X6_34 : Cond.methodLink RX6 34 yX2_isFrameAt ∈ lw_tbl := mi 1036 (by decide +kernel)
theorem lk_X6_37 : Cond.methodLink RX6 37 yX2_widthAt ∈ lw_tbl := mi 667 (by decide +kernel)
theorem lk_X6_41 : Cond.methodLink RX6 41 yX2_heightAt ∈ lw_tbl := mi 672 (by decide +kernel)
theorem lk_X6_44 : Cond.methodLink RX6 44 yX6_countShapes ∈ lw_tbl := mi 481 (by decide +kernel)
theorem lk_X6_48 : Cond.methodLink RX6 48 yX6_shapeWithRank ∈ lw_tbl := mi 482 (by decide +kernel)
theorem lk_X6_51 : Cond.methodLink RX6 51 yX6_keyAt ∈ lw_tbl := mi 494 (by decide +kernel)
theorem lk_X6_54 : Cond.methodLink RX6 54 yX6_isBelow ∈ lw_tbl := mi 490 (by decide +kernel)
theorem lk_X6_58 : Cond.methodLink RX6 58 yX6_rankAt ∈ lw_tbl := mi 486 (by decide +kernel)
theorem lk_X6_61 : Cond.methodLink RX6 61 yX6_columnAt ∈ lw_tbl := mi 663 (by decide +kernel)
theorem lk_X6_64 : Cond.methodLink RX6 64 yX6_rowAt ∈ lw_tbl := mi 668 (by decide +kernel)
theorem lk_X6_67 : Cond.methodLink RX6 67 yX6_isOver ∈ lw_tbl := mi 673 (by decide +kernel)
theorem lk_X6_71 : Cond.methodLink RX6 71 yX6_covers ∈ lw_tbl := mi 659 (by decide +kernel)
theorem lk_X6_74 : Cond.methodLink RX6 74 yX6_isLockedByOther ∈ lw_tbl := mi 677 (by decide +kernel)
theorem lk_X6_77 : Cond.methodLink RX6 77 yX6_lockerAt ∈ lw_tbl := mi 620 (by decide +kernel)
theorem lk_X6_80 : Cond.methodLink RX6 80 yX2_hasConnector ∈ lw_tbl := mi 781 (by decide +kernel)
theorem lk_X6_83 : Cond.methodLink RX6 83 yX2_shapeOfEnd ∈ lw_tbl := mi 785 (by decide +kernel)
theorem lk_X6_87 : Cond.methodLink RX6 87 yX6_isSeenConnector ∈ lw_tbl := mi 794 (by decide +kernel)
theorem lk_X6_90 : Cond.methodLink RX6 90 yX2_sideOfEnd ∈ lw_tbl := mi 1093 (by decide +kernel)
theorem lk_X6_94 : Cond.methodLinkNest RX6 94 yX7_cellAt "Plugboard" ∈ lw_tbl := mi 1097 (by decide +kernel)
theorem lk_X6_98 : Cond.methodLinkNest RX6 98 yX7_voteField "Plugboard" ∈ lw_tbl := mi 807 (by decide +kernel)
theorem lk_X7_101 : Cond.methodLink RX7 101 yX5_write ∈ lw_tbl := mi 518 (by decide +kernel)
theorem lk_X7_105 : Cond.methodLink RX7 105 yX7_cellAt ∈ lw_tbl := mi 535 (by decide +kernel)
theorem lk_X7_109 : Cond.methodLink RX7 109 yX5_end ∈ lw_tbl := mi 538 (by decide +kernel)
theorem lk_X7_112 : Cond.methodLink RX7 112 yX2_hasShape ∈ lw_tbl := mi 582 (by decide +kernel)
theorem lk_X7_115 : Cond.methodLink RX7 115 yX2_widthAt ∈ lw_tbl := mi 583 (by decide +kernel)
theorem lk_X7_119 : Cond.methodLink RX7 119 yX2_heightAt ∈ lw_tbl := mi 588 (by decide +kernel)
theorem lk_X7_124 : Cond.methodLink RX7 124 yX7_needChangeable ∈ lw_tbl := mi 593 (by decide +kernel)
theorem lk_X7_128 : Cond.methodLink RX7 128 yX7_carry ∈ lw_tbl := mi 640 (by decide +kernel)
theorem lk_X7_132 : Cond.methodLink RX7 132 yX7_giveKey ∈ lw_tbl := mi 685 (by decide +kernel)
theorem lk_X7_136 : Cond.methodLink RX7 136 yX6_lowestKey ∈ lw_tbl := mi 703 (by decide +kernel)
theorem lk_X7_141 : Cond.methodLink RX7 141 yX7_needSeen ∈ lw_tbl := mi 596 (by decide +kernel)
theorem lk_X7_144 : Cond.methodLink RX7 144 yX7_keyAbove ∈ lw_tbl := mi 715 (by decide +kernel)
theorem lk_X7_148 : Cond.methodLink RX7 148 yX5_step ∈ lw_tbl := mi 688 (by decide +kernel)
theorem lk_X7_151 : Cond.methodLink RX7 151 yX6_countLockedBy ∈ lw_tbl := mi 738 (by decide +kernel)
theorem lk_X7_154 : Cond.methodLink RX7 154 yX6_lockerAt ∈ lw_tbl := mi 749 (by decide +kernel)
theorem lk_X7_162 : Cond.methodLink RX7 162 yX7_isSideName ∈ lw_tbl := mi 758 (by decide +kernel)
theorem lk_X7_173 : Cond.methodLink RX7 173 yX2_makeConnector ∈ lw_tbl := mi 763 (by decide +kernel)
theorem lk_X7_177 : Cond.methodLink RX7 177 yX7_needSeenConnector ∈ lw_tbl := mi 774 (by decide +kernel)
theorem lk_X7_180 : Cond.methodLink RX7 180 yX6_countConnectors ∈ lw_tbl := mi 790 (by decide +kernel)
theorem lk_X7_185 : Cond.methodLink RX7 185 yX6_votesBy ∈ lw_tbl := mi 803 (by decide +kernel)
theorem lk_X7_188 : Cond.methodLink RX7 188 yX6_areVotesShown ∈ lw_tbl := mi 810 (by decide +kernel)
theorem lk_X7_192 : Cond.methodLink RX7 192 yX6_allVotesBy ∈ lw_tbl := mi 814 (by decide +kernel)
theorem lk_X7_197 : Cond.methodLink RX7 197 yX7_voteField ∈ lw_tbl := mi 820 (by decide +kernel)
theorem lk_X7_200 : Cond.methodLink RX7 200 yX1_lastOpenStepOf ∈ lw_tbl := mi 835 (by decide +kernel)
theorem lk_X7_208 : Cond.methodLink RX7 208 yX5_undo ∈ lw_tbl := mi 845 (by decide +kernel)
theorem lk_X7_211 : Cond.methodLink RX7 211 yX7_needOperation ∈ lw_tbl := mi 864 (by decide +kernel)
theorem lk_X7_215 : Cond.methodLink RX7 215 yX5_isKnown ∈ lw_tbl := mi 869 (by decide +kernel)
theorem lk_X7_220 : Cond.methodLink RX7 220 yX5_learn ∈ lw_tbl := mi 875 (by decide +kernel)
theorem lk_X7_231 : Cond.methodLink RX7 231 yX1_userAt ∈ lw_tbl := mi 891 (by decide +kernel)
theorem lk_X7_234 : Cond.methodLink RX7 234 yX1_clockAt ∈ lw_tbl := mi 899 (by decide +kernel)
theorem lk_X7_237 : Cond.methodLink RX7 237 yX6_isSeen ∈ lw_tbl := mi 599 (by decide +kernel)
theorem lk_X7_240 : Cond.methodLink RX7 240 yX7_needView ∈ lw_tbl := mi 928 (by decide +kernel)
theorem lk_X7_244 : Cond.methodLink RX7 244 yX6_columnAt ∈ lw_tbl := mi 932 (by decide +kernel)
theorem lk_X7_247 : Cond.methodLink RX7 247 yX6_rowAt ∈ lw_tbl := mi 940 (by decide +kernel)
theorem lk_X7_250 : Cond.methodLink RX7 250 yX6_rankAt ∈ lw_tbl := mi 695 (by decide +kernel)
theorem lk_X7_253 : Cond.methodLink RX7 253 yX6_shapeWithRank ∈ lw_tbl := mi 979 (by decide +kernel)
theorem lk_X7_261 : Cond.methodLink RX7 261 yX6_keyAt ∈ lw_tbl := mi 718 (by decide +kernel)
theorem lk_X7_265 : Cond.methodLink RX7 265 yX7_bitsOf ∈ lw_tbl := mi 1007 (by decide +kernel)
theorem lk_X7_272 : Cond.methodLink RX7 272 yX6_topOn ∈ lw_tbl := mi 1032 (by decide +kernel)
theorem lk_X7_277 : Cond.methodLink RX7 277 yX6_countCovered ∈ lw_tbl := mi 1052 (by decide +kernel)
theorem lk_X7_280 : Cond.methodLink RX7 280 yX7_needMap ∈ lw_tbl := mi 1070 (by decide +kernel)
theorem lk_X7_284 : Cond.methodLink RX7 284 yX4_fewestTurns ∈ lw_tbl := mi 1098 (by decide +kernel)
theorem lk_X7_287 : Cond.methodLink RX7 287 yX7_needWay ∈ lw_tbl := mi 1139 (by decide +kernel)
theorem lk_X7_290 : Cond.methodLink RX7 290 yX4_fewestTurnsByRounds ∈ lw_tbl := mi 1150 (by decide +kernel)
theorem lk_X7_293 : Cond.methodLink RX7 293 yX4_fewestCells ∈ lw_tbl := mi 1165 (by decide +kernel)
theorem lk_X7_296 : Cond.methodLink RX7 296 yX7_needShown ∈ lw_tbl := mi 1192 (by decide +kernel)
theorem lk_X7_300 : Cond.methodLink RX7 300 yX6_allVotesFor ∈ lw_tbl := mi 1196 (by decide +kernel)
theorem lk_X7_303 : Cond.methodLink RX7 303 yX6_mostVoted ∈ lw_tbl := mi 1207 (by decide +kernel)
theorem lk_X7_308 : Cond.methodLink RX7 308 yX6_sumUp ∈ lw_tbl := mi 1220 (by decide +kernel)
theorem lk_X7_311 : Cond.methodLink RX7 311 yX3_sumUpAnew ∈ lw_tbl := mi 1235 (by decide +kernel)
theorem lk_X7_317 : Cond.methodLink RX7 317 yX3_countDifferent ∈ lw_tbl := mi 1263 (by decide +kernel)
theorem lk_X7_325 : Cond.methodLink RX7 325 yX0_hasSameValues ∈ lw_tbl := mi 1290 (by decide +kernel)
theorem lk_X7_336 : Cond.methodLink RX7 336 yX6_countFrames ∈ lw_tbl := mi 1321 (by decide +kernel)
theorem lk_X7_339 : Cond.methodLink RX7 339 yX6_isSeenConnector ∈ lw_tbl := mi 777 (by decide +kernel)
theorem lk_X7_342 : Cond.methodLink RX7 342 yX4_draw ∈ lw_tbl := mi 1074 (by decide +kernel)
theorem lk_X7_348 : Cond.methodLink RX7 348 yX6_sumOfAreas ∈ lw_tbl := mi 1340 (by decide +kernel)
theorem lk_X7_354 : Cond.methodLink RX7 354 yX1_isFull ∈ lw_tbl := mi 456 (by decide +kernel)
theorem lk_X7_366 : Cond.methodLink RX7 366 yX6_isLockedByOther ∈ lw_tbl := mi 616 (by decide +kernel)
theorem lk_X7_378 : Cond.methodLink RX7 378 yX6_nextAbove ∈ lw_tbl := mi 719 (by decide +kernel)
theorem lk_X7_383 : Cond.methodLink RX7 383 yX6_cellUnder ∈ lw_tbl := mi 644 (by decide +kernel)
theorem lk_X7_386 : Cond.methodLink RX7 386 yX2_isFrameAt ∈ lw_tbl := mi 648 (by decide +kernel)
theorem lk_X7_389 : Cond.methodLink RX7 389 yX6_isCarried ∈ lw_tbl := mi 655 (by decide +kernel)
theorem lk_X7_393 : Cond.methodLink RX7 393 yX7_isNegativeZero ∈ lw_tbl := mi 1010 (by decide +kernel)
theorem lk_X7_48 : Cond.methodLink RX7 48 yX7_needUser ∈ lw_tbl := mi 353 (by decide +kernel)
theorem lk_X7_52 : Cond.methodLink RX7 52 yX7_isSide ∈ lw_tbl := mi 429 (by decide +kernel)
theorem lk_X7_56 : Cond.methodLink RX7 56 yX7_fits ∈ lw_tbl := mi 432 (by decide +kernel)
theorem lk_X7_76 : Cond.methodLink RX7 76 yX7_needRoom ∈ lw_tbl := mi 452 (by decide +kernel)
theorem lk_X7_83 : Cond.methodLink RX7 83 yX6_countShapes ∈ lw_tbl := mi 461 (by decide +kernel)
theorem lk_X7_89 : Cond.methodLink RX7 89 yX6_greatestKey ∈ lw_tbl := mi 477 (by decide +kernel)
theorem lk_X7_93 : Cond.methodLink RX7 93 yX2_makeShape ∈ lw_tbl := mi 498 (by decide +kernel)
theorem lk_X7_97 : Cond.methodLink RX7 97 yX5_begin ∈ lw_tbl := mi 502 (by decide +kernel)
theorem lk_X8_101 : Cond.methodLink RX8 101 yX8_isBetween ∈ lw_tbl := mi 1462 (by decide +kernel)
theorem lk_X8_105 : Cond.methodLink RX8 105 yX8_empties ∈ lw_tbl := mi 1477 (by decide +kernel)
theorem lk_X8_111 : Cond.methodLink RX8 111 yX8_isLater ∈ lw_tbl := mi 1481 (by decide +kernel)
theorem lk_X8_115 : Cond.methodLink RX8 115 yX8_writes ∈ lw_tbl := mi 1485 (by decide +kernel)
theorem lk_X8_125 : Cond.methodLink RX8 125 yX8_isSeen ∈ lw_tbl := mi 1493 (by decide +kernel)
theorem lk_X8_129 : Cond.methodLink RX8 129 ⟨"java/lang/Float", "intBitsToFloat", "(I)F"⟩ ∈ lw_tbl := mi 1501 (by decide +kernel)
theorem lk_X8_135 : Cond.methodLink RX8 135 yX8_isJoined ∈ lw_tbl := mi 1602 (by decide +kernel)
theorem lk_X8_138 : Cond.methodLink RX8 138 yX8_key ∈ lw_tbl := mi 1497 (by decide +kernel)
theorem lk_X8_141 : Cond.methodLink RX8 141 yX8_column ∈ lw_tbl := mi 1539 (by decide +kernel)
theorem lk_X8_145 : Cond.methodLink RX8 145 yX8_row ∈ lw_tbl := mi 1543 (by decide +kernel)
theorem lk_X8_151 : Cond.methodLink RX8 151 yX8_restores ∈ lw_tbl := mi 1508 (by decide +kernel)
theorem lk_X8_155 : Cond.methodLink RX8 155 yJ9_max_7cf53 ∈ lw_tbl := mi 1526 (by decide +kernel)
theorem lk_X8_161 : Cond.methodLink RX8 161 yX8_builds ∈ lw_tbl := mi 1473 (by decide +kernel)
theorem lk_X8_165 : Cond.methodLink RX8 165 yX8_isUser ∈ lw_tbl := mi 1459 (by decide +kernel)
theorem lk_X8_168 : Cond.methodLink RX8 168 yX8_isOnBoard ∈ lw_tbl := mi 1465 (by decide +kernel)
theorem lk_X8_172 : Cond.methodLink RX8 172 yX8_fails ∈ lw_tbl := mi 1469 (by decide +kernel)
theorem lk_X8_175 : Cond.methodLink RX8 175 yX8_greatest ∈ lw_tbl := mi 1489 (by decide +kernel)
theorem lk_X8_179 : Cond.methodLink RX8 179 yX8_plans ∈ lw_tbl := mi 1504 (by decide +kernel)
theorem lk_X8_182 : Cond.methodLink RX8 182 yJxf58ca_floatToIntBits_5c35a ∈ lw_tbl := mi 1512 (by decide +kernel)
theorem lk_X8_186 : Cond.methodLink RX8 186 yX8_makes ∈ lw_tbl := mi 1522 (by decide +kernel)
theorem lk_X8_190 : Cond.methodLink RX8 190 yX8_isBarred ∈ lw_tbl := mi 1535 (by decide +kernel)
theorem lk_X8_193 : Cond.methodLink RX8 193 yX8_bar ∈ lw_tbl := mi 1531 (by decide +kernel)
theorem lk_X8_196 : Cond.methodLink RX8 196 yX8_isInside ∈ lw_tbl := mi 1547 (by decide +kernel)
theorem lk_X8_199 : Cond.methodLink RX8 199 yX8_rank ∈ lw_tbl := mi 1559 (by decide +kernel)
theorem lk_X8_202 : Cond.methodLink RX8 202 yX8_keys ∈ lw_tbl := mi 1555 (by decide +kernel)
theorem lk_X8_206 : Cond.methodLink RX8 206 yX8_lowest ∈ lw_tbl := mi 1567 (by decide +kernel)
theorem lk_X8_209 : Cond.methodLink RX8 209 yX8_seenMany ∈ lw_tbl := mi 1579 (by decide +kernel)
theorem lk_X8_212 : Cond.methodLink RX8 212 yX8_isSide ∈ lw_tbl := mi 1595 (by decide +kernel)
theorem lk_X8_216 : Cond.methodLink RX8 216 yX8_joinedMany ∈ lw_tbl := mi 1606 (by decide +kernel)
theorem lk_X8_219 : Cond.methodLink RX8 219 yX8_isWrong ∈ lw_tbl := mi 1618 (by decide +kernel)
theorem lk_X8_222 : Cond.methodLink RX8 222 yX8_isOperation ∈ lw_tbl := mi 1630 (by decide +kernel)
theorem lk_X8_225 : Cond.methodLink RX8 225 yX8_knownMany ∈ lw_tbl := mi 1634 (by decide +kernel)
theorem lk_X8_228 : Cond.methodLink RX8 228 yX8_isNobody ∈ lw_tbl := mi 1662 (by decide +kernel)
theorem lk_X8_231 : Cond.methodLink RX8 231 yX8_isUnseen ∈ lw_tbl := mi 1674 (by decide +kernel)
theorem lk_X8_235 : Cond.methodLink RX8 235 yX8_isCovering ∈ lw_tbl := mi 1707 (by decide +kernel)
theorem lk_X8_238 : Cond.methodLink RX8 238 yX8_shuts ∈ lw_tbl := mi 1735 (by decide +kernel)
theorem lk_X8_241 : Cond.methodLink RX8 241 yX8_endColumn ∈ lw_tbl := mi 1739 (by decide +kernel)
theorem lk_X8_245 : Cond.methodLink RX8 245 yX8_endRow ∈ lw_tbl := mi 1743 (by decide +kernel)
theorem lk_X8_248 : Cond.methodLink RX8 248 yX8_isOpen ∈ lw_tbl := mi 1747 (by decide +kernel)
theorem lk_X8_252 : Cond.methodLink RX8 252 yX8_stepOver ∈ lw_tbl := mi 1752 (by decide +kernel)
theorem lk_X8_255 : Cond.methodLink RX8 255 yX8_stepDown ∈ lw_tbl := mi 1755 (by decide +kernel)
theorem lk_X8_258 : Cond.methodLink RX8 258 yJ9_min_7cf53 ∈ lw_tbl := mi 1758 (by decide +kernel)
theorem lk_X8_261 : Cond.methodLink RX8 261 yX8_route ∈ lw_tbl := mi 1731 (by decide +kernel)
theorem lk_X8_264 : Cond.methodLink RX8 264 yX8_asked ∈ lw_tbl := mi 1727 (by decide +kernel)
theorem lk_X8_267 : Cond.methodLink RX8 267 yX8_bends ∈ lw_tbl := mi 1763 (by decide +kernel)
theorem lk_X8_270 : Cond.methodLink RX8 270 yX8_votes ∈ lw_tbl := mi 1776 (by decide +kernel)
theorem lk_X8_274 : Cond.methodLink RX8 274 yX8_joins ∈ lw_tbl := mi 1792 (by decide +kernel)
theorem lk_X8_277 : Cond.methodLink RX8 277 yX8_outcomeNow ∈ lw_tbl := mi 1788 (by decide +kernel)
theorem lk_X8_280 : Cond.methodLink RX8 280 yX8_outcome ∈ lw_tbl := mi 1801 (by decide +kernel)
theorem mvX7_addShape : MV RX7 yX7_addShape cX7_addShape 10 (some (.int)) 6 := ⟨⟨mi 350 (by decide +kernel), mi 351 (by decide +kernel), rfl, mi 352 (by decide +kernel), mi 61 (by decide +kernel)⟩, by decide +kernel, by decide +kernel, by decide +kernel⟩
theorem mvX7_areAlike : MV RX7 yX7_areAlike cX7_areAlike 5 (some (.boolean)) 2 := ⟨⟨mi 1287 (by decide +kernel), mi 1288 (by decide +kernel), rfl, mi 1289 (by decide +kernel), mi 61 (by decide +kernel)⟩, by decide +kernel, by decide +kernel, by decide +kernel⟩
theorem mvX7_area : MV RX7 yX7_area cX7_area 2 (some (.long)) 1 := ⟨⟨mi 1337 (by decide +kernel), mi 1338 (by decide +kernel), rfl, mi 1339 (by decide +kernel), mi 61 (by decide +kernel)⟩, by decide +kernel, by decide +kernel, by decide +kernel⟩
theorem mvX7_bends : MV RX7 yX7_bends cX7_bends 3 (some (.int)) 2 := ⟨⟨mi 1067 (by decide +kernel), mi 1068 (by decide +kernel), rfl, mi 1069 (by decide +kernel), mi 61 (by decide +kernel)⟩, by decide +kernel, by decide +kernel, by decide +kernel⟩
theorem mvX7_bendsByRounds : MV RX7 yX7_bendsByRounds cX7_bendsByRounds 3 (some (.int)) 2 := ⟨⟨mi 1147 (by decide +kernel), mi 1148 (by decide +kernel), rfl, mi 1149 (by decide +kernel), mi 61 (by decide +kernel)⟩, by decide +kernel, by decide +kernel, by decide +kernel⟩
theorem mvX7_carry : MV RX7 yX7_carry cX7_carry 8 (some (.int)) 3 := ⟨⟨mi 642 (by decide +kernel), mi 4 (by decide +kernel), rfl, mi 643 (by decide +kernel), mi 61 (by decide +kernel)⟩, by decide +kernel, by decide +kernel, by decide +kernel⟩
theorem mvX7_clockOf : MV RX7 yX7_clockOf cX7_clockOf 2 (some (.int)) 1 := ⟨⟨mi 896 (by decide +kernel), mi 897 (by decide +kernel), rfl, mi 898 (by decide +kernel), mi 61 (by decide +kernel)⟩, by decide +kernel, by decide +kernel, by decide +kernel⟩
theorem mvX7_columnOf : MV RX7 yX7_columnOf cX7_columnOf 3 (some (.int)) 2 := ⟨⟨mi 925 (by decide +kernel), mi 926 (by decide +kernel), rfl, mi 927 (by decide +kernel), mi 61 (by decide +kernel)⟩, by decide +kernel, by decide +kernel, by decide +kernel⟩
theorem mvX7_connect : MV RX7 yX7_connect cX7_connect 8 (some (.int)) 5 := ⟨⟨mi 755 (by decide +kernel), mi 756 (by decide +kernel), rfl, mi 757 (by decide +kernel), mi 61 (by decide +kernel)⟩, by decide +kernel, by decide +kernel, by decide +kernel⟩
theorem mvX7_connectors : MV RX7 yX7_connectors cX7_connectors 2 (some (.int)) 1 := ⟨⟨mi 1060 (by decide +kernel), mi 1061 (by decide +kernel), rfl, mi 1062 (by decide +kernel), mi 61 (by decide +kernel)⟩, by decide +kernel, by decide +kernel, by decide +kernel⟩
theorem mvX7_deliver : MV RX7 yX7_deliver cX7_deliver 4 (some (.int)) 2 := ⟨⟨mi 861 (by decide +kernel), mi 862 (by decide +kernel), rfl, mi 863 (by decide +kernel), mi 61 (by decide +kernel)⟩, by decide +kernel, by decide +kernel, by decide +kernel⟩
theorem mvX7_disconnect : MV RX7 yX7_disconnect cX7_disconnect 4 (some (.int)) 2 := ⟨⟨mi 771 (by decide +kernel), mi 772 (by decide +kernel), rfl, mi 773 (by decide +kernel), mi 61 (by decide +kernel)⟩, by decide +kernel, by decide +kernel, by decide +kernel⟩
theorem mvX7_frameShare : MV RX7 yX7_frameShare cX7_frameShare 4 (some (.float)) 1 := ⟨⟨mi 1315 (by decide +kernel), mi 1316 (by decide +kernel), rfl, mi 1317 (by decide +kernel), mi 61 (by decide +kernel)⟩, by decide +kernel, by decide +kernel, by decide +kernel⟩
theorem mvX7_inside : MV RX7 yX7_inside cX7_inside 3 (some (.int)) 2 := ⟨⟨mi 1049 (by decide +kernel), mi 1050 (by decide +kernel), rfl, mi 1051 (by decide +kernel), mi 61 (by decide +kernel)⟩, by decide +kernel, by decide +kernel, by decide +kernel⟩
theorem mvX7_keyBits : MV RX7 yX7_keyBits cX7_keyBits 3 (some (.int)) 2 := ⟨⟨mi 1004 (by decide +kernel), mi 1005 (by decide +kernel), rfl, mi 1006 (by decide +kernel), mi 61 (by decide +kernel)⟩, by decide +kernel, by decide +kernel, by decide +kernel⟩
theorem mvX7_keyCut : MV RX7 yX7_keyCut cX7_keyCut 3 (some (.int)) 2 := ⟨⟨mi 1020 (by decide +kernel), mi 1021 (by decide +kernel), rfl, mi 1022 (by decide +kernel), mi 61 (by decide +kernel)⟩, by decide +kernel, by decide +kernel, by decide +kernel⟩
theorem mvX7_keyOf : MV RX7 yX7_keyOf cX7_keyOf 3 (some (.float)) 2 := ⟨⟨mi 997 (by decide +kernel), mi 998 (by decide +kernel), rfl, mi 999 (by decide +kernel), mi 61 (by decide +kernel)⟩, by decide +kernel, by decide +kernel, by decide +kernel⟩
theorem mvX7_knows : MV RX7 yX7_knows cX7_knows 4 (some (.boolean)) 2 := ⟨⟨mi 904 (by decide +kernel), mi 905 (by decide +kernel), rfl, mi 906 (by decide +kernel), mi 61 (by decide +kernel)⟩, by decide +kernel, by decide +kernel, by decide +kernel⟩
theorem mvX7_lock : MV RX7 yX7_lock cX7_lock 4 (some (.int)) 2 := ⟨⟨mi 735 (by decide +kernel), mi 736 (by decide +kernel), rfl, mi 737 (by decide +kernel), mi 61 (by decide +kernel)⟩, by decide +kernel, by decide +kernel, by decide +kernel⟩
theorem mvX7_lockedBy : MV RX7 yX7_lockedBy cX7_lockedBy 3 (some (.int)) 2 := ⟨⟨mi 1042 (by decide +kernel), mi 1043 (by decide +kernel), rfl, mi 1044 (by decide +kernel), mi 61 (by decide +kernel)⟩, by decide +kernel, by decide +kernel, by decide +kernel⟩
theorem mvX7_lower : MV RX7 yX7_lower cX7_lower 4 (some (.int)) 2 := ⟨⟨mi 700 (by decide +kernel), mi 701 (by decide +kernel), rfl, mi 702 (by decide +kernel), mi 61 (by decide +kernel)⟩, by decide +kernel, by decide +kernel, by decide +kernel⟩
theorem mvX7_meanRoute : MV RX7 yX7_meanRoute cX7_meanRoute 7 (some (.double)) 1 := ⟨⟨mi 1329 (by decide +kernel), mi 1330 (by decide +kernel), rfl, mi 1331 (by decide +kernel), mi 61 (by decide +kernel)⟩, by decide +kernel, by decide +kernel, by decide +kernel⟩
theorem mvX7_move : MV RX7 yX7_move cX7_move 6 (some (.int)) 4 := ⟨⟨mi 579 (by decide +kernel), mi 580 (by decide +kernel), rfl, mi 581 (by decide +kernel), mi 61 (by decide +kernel)⟩, by decide +kernel, by decide +kernel, by decide +kernel⟩
theorem mvX7_needMap : MV RX7 yX7_needMap cX7_needMap 4 none 2 := ⟨⟨mi 1072 (by decide +kernel), mi 7 (by decide +kernel), rfl, mi 1073 (by decide +kernel), mi 61 (by decide +kernel)⟩, by decide +kernel, by decide +kernel, by decide +kernel⟩
theorem mvX7_needOperation : MV RX7 yX7_needOperation cX7_needOperation 2 none 1 := ⟨⟨mi 866 (by decide +kernel), mi 5 (by decide +kernel), rfl, mi 867 (by decide +kernel), mi 61 (by decide +kernel)⟩, by decide +kernel, by decide +kernel, by decide +kernel⟩
theorem mvX7_needRoom : MV RX7 yX7_needRoom cX7_needRoom 1 none 0 := ⟨⟨mi 454 (by decide +kernel), mi 2 (by decide +kernel), rfl, mi 455 (by decide +kernel), mi 61 (by decide +kernel)⟩, by decide +kernel, by decide +kernel, by decide +kernel⟩
theorem mvX7_needUser : MV RX7 yX7_needUser cX7_needUser 3 (some (.object "Plugboard$User")) 1 := ⟨⟨mi 355 (by decide +kernel), mi 0 (by decide +kernel), rfl, mi 356 (by decide +kernel), mi 61 (by decide +kernel)⟩, by decide +kernel, by decide +kernel, by decide +kernel⟩
theorem mvX7_needView : MV RX7 yX7_needView cX7_needView 4 (some (.object "Plugboard$View")) 2 := ⟨⟨mi 930 (by decide +kernel), mi 6 (by decide +kernel), rfl, mi 931 (by decide +kernel), mi 61 (by decide +kernel)⟩, by decide +kernel, by decide +kernel, by decide +kernel⟩
theorem mvX7_operations : MV RX7 yX7_operations cX7_operations 1 (some (.int)) 0 := ⟨⟨mi 341 (by decide +kernel), mi 342 (by decide +kernel), rfl, mi 343 (by decide +kernel), mi 61 (by decide +kernel)⟩, by decide +kernel, by decide +kernel, by decide +kernel⟩
theorem mvX7_outcome : MV RX7 yX7_outcome cX7_outcome 2 (some (.int)) 1 := ⟨⟨mi 1217 (by decide +kernel), mi 1218 (by decide +kernel), rfl, mi 1219 (by decide +kernel), mi 61 (by decide +kernel)⟩, by decide +kernel, by decide +kernel, by decide +kernel⟩
theorem mvX7_outcomeAnew : MV RX7 yX7_outcomeAnew cX7_outcomeAnew 2 (some (.int)) 1 := ⟨⟨mi 1232 (by decide +kernel), mi 1233 (by decide +kernel), rfl, mi 1234 (by decide +kernel), mi 61 (by decide +kernel)⟩, by decide +kernel, by decide +kernel, by decide +kernel⟩
theorem mvX7_outcomes : MV RX7 yX7_outcomes cX7_outcomes 4 (some (.int)) 2 := ⟨⟨mi 1259 (by decide +kernel), mi 1260 (by decide +kernel), rfl, mi 1261 (by decide +kernel), mi 61 (by decide +kernel)⟩, by decide +kernel, by decide +kernel, by decide +kernel⟩
theorem mvX7_ownVotes : MV RX7 yX7_ownVotes cX7_ownVotes 3 (some (.int)) 2 := ⟨⟨mi 1182 (by decide +kernel), mi 1183 (by decide +kernel), rfl, mi 1184 (by decide +kernel), mi 61 (by decide +kernel)⟩, by decide +kernel, by decide +kernel, by decide +kernel⟩
theorem mvX7_putAbove : MV RX7 yX7_putAbove cX7_putAbove 6 (some (.int)) 3 := ⟨⟨mi 711 (by decide +kernel), mi 712 (by decide +kernel), rfl, mi 713 (by decide +kernel), mi 61 (by decide +kernel)⟩, by decide +kernel, by decide +kernel, by decide +kernel⟩
theorem mvX7_raise : MV RX7 yX7_raise cX7_raise 4 (some (.int)) 2 := ⟨⟨mi 682 (by decide +kernel), mi 683 (by decide +kernel), rfl, mi 684 (by decide +kernel), mi 61 (by decide +kernel)⟩, by decide +kernel, by decide +kernel, by decide +kernel⟩
theorem mvX7_rankOf : MV RX7 yX7_rankOf cX7_rankOf 3 (some (.int)) 2 := ⟨⟨mi 945 (by decide +kernel), mi 946 (by decide +kernel), rfl, mi 947 (by decide +kernel), mi 61 (by decide +kernel)⟩, by decide +kernel, by decide +kernel, by decide +kernel⟩
theorem mvX7_remove : MV RX7 yX7_remove cX7_remove 4 (some (.int)) 2 := ⟨⟨mi 728 (by decide +kernel), mi 729 (by decide +kernel), rfl, mi 730 (by decide +kernel), mi 61 (by decide +kernel)⟩, by decide +kernel, by decide +kernel, by decide +kernel⟩
theorem mvX7_routeLength : MV RX7 yX7_routeLength cX7_routeLength 3 (some (.int)) 2 := ⟨⟨mi 1162 (by decide +kernel), mi 1163 (by decide +kernel), rfl, mi 1164 (by decide +kernel), mi 61 (by decide +kernel)⟩, by decide +kernel, by decide +kernel, by decide +kernel⟩
theorem mvX7_rowOf : MV RX7 yX7_rowOf cX7_rowOf 3 (some (.int)) 2 := ⟨⟨mi 937 (by decide +kernel), mi 938 (by decide +kernel), rfl, mi 939 (by decide +kernel), mi 61 (by decide +kernel)⟩, by decide +kernel, by decide +kernel, by decide +kernel⟩
theorem mvX7_sees : MV RX7 yX7_sees cX7_sees 3 (some (.boolean)) 2 := ⟨⟨mi 918 (by decide +kernel), mi 919 (by decide +kernel), rfl, mi 920 (by decide +kernel), mi 61 (by decide +kernel)⟩, by decide +kernel, by decide +kernel, by decide +kernel⟩
theorem mvX7_shapeAt : MV RX7 yX7_shapeAt cX7_shapeAt 4 (some (.int)) 2 := ⟨⟨mi 976 (by decide +kernel), mi 977 (by decide +kernel), rfl, mi 978 (by decide +kernel), mi 61 (by decide +kernel)⟩, by decide +kernel, by decide +kernel, by decide +kernel⟩
theorem mvX7_shapes : MV RX7 yX7_shapes cX7_shapes 2 (some (.int)) 1 := ⟨⟨mi 911 (by decide +kernel), mi 912 (by decide +kernel), rfl, mi 913 (by decide +kernel), mi 61 (by decide +kernel)⟩, by decide +kernel, by decide +kernel, by decide +kernel⟩
theorem mvX7_show : MV RX7 yX7_show cX7_show 5 (some (.boolean)) 2 := ⟨⟨mi 825 (by decide +kernel), mi 826 (by decide +kernel), rfl, mi 827 (by decide +kernel), mi 61 (by decide +kernel)⟩, by decide +kernel, by decide +kernel, by decide +kernel⟩
theorem mvX7_sync : MV RX7 yX7_sync cX7_sync 8 (some (.int)) 2 := ⟨⟨mi 880 (by decide +kernel), mi 881 (by decide +kernel), rfl, mi 882 (by decide +kernel), mi 61 (by decide +kernel)⟩, by decide +kernel, by decide +kernel, by decide +kernel⟩
theorem mvX7_takeBack : MV RX7 yX7_takeBack cX7_takeBack 4 (some (.int)) 1 := ⟨⟨mi 832 (by decide +kernel), mi 833 (by decide +kernel), rfl, mi 834 (by decide +kernel), mi 61 (by decide +kernel)⟩, by decide +kernel, by decide +kernel, by decide +kernel⟩
theorem mvX7_topAt : MV RX7 yX7_topAt cX7_topAt 6 (some (.int)) 3 := ⟨⟨mi 1028 (by decide +kernel), mi 1029 (by decide +kernel), rfl, mi 1030 (by decide +kernel), mi 61 (by decide +kernel)⟩, by decide +kernel, by decide +kernel, by decide +kernel⟩
theorem mvX7_unlock : MV RX7 yX7_unlock cX7_unlock 5 (some (.int)) 2 := ⟨⟨mi 746 (by decide +kernel), mi 747 (by decide +kernel), rfl, mi 748 (by decide +kernel), mi 61 (by decide +kernel)⟩, by decide +kernel, by decide +kernel, by decide +kernel⟩
theorem mvX7_userOf : MV RX7 yX7_userOf cX7_userOf 2 (some (.int)) 1 := ⟨⟨mi 888 (by decide +kernel), mi 889 (by decide +kernel), rfl, mi 890 (by decide +kernel), mi 61 (by decide +kernel)⟩, by decide +kernel, by decide +kernel, by decide +kernel⟩
theorem mvX7_vote : MV RX7 yX7_vote cX7_vote 6 (some (.int)) 3 := ⟨⟨mi 799 (by decide +kernel), mi 800 (by decide +kernel), rfl, mi 801 (by decide +kernel), mi 61 (by decide +kernel)⟩, by decide +kernel, by decide +kernel, by decide +kernel⟩
theorem mvX7_votesFor : MV RX7 yX7_votesFor cX7_votesFor 4 (some (.int)) 2 := ⟨⟨mi 1189 (by decide +kernel), mi 1190 (by decide +kernel), rfl, mi 1191 (by decide +kernel), mi 61 (by decide +kernel)⟩, by decide +kernel, by decide +kernel, by decide +kernel⟩
theorem mvX7_winner : MV RX7 yX7_winner cX7_winner 4 (some (.int)) 1 := ⟨⟨mi 1204 (by decide +kernel), mi 1205 (by decide +kernel), rfl, mi 1206 (by decide +kernel), mi 61 (by decide +kernel)⟩, by decide +kernel, by decide +kernel, by decide +kernel⟩
theorem mvX0_copy : MV RX0 yX0_copy cX0_copy 3 none 1 := ⟨⟨mi 1269 (by decide +kernel), mi 1270 (by decide +kernel), rfl, mi 1271 (by decide +kernel), mi 65 (by decide +kernel)⟩, by decide +kernel, by decide +kernel, by decide +kernel⟩
theorem mvX0_empty : MV RX0 yX0_empty cX0_empty 2 none 0 := ⟨⟨mi 1249 (by decide +kernel), mi 1250 (by decide +kernel), rfl, mi 1251 (by decide +kernel), mi 65 (by decide +kernel)⟩, by decide +kernel, by decide +kernel, by decide +kernel⟩
theorem mvX0_hasSameValues : MV RX0 yX0_hasSameValues cX0_hasSameValues 3 (some (.boolean)) 1 := ⟨⟨mi 1291 (by decide +kernel), mi 1292 (by decide +kernel), rfl, mi 1293 (by decide +kernel), mi 65 (by decide +kernel)⟩, by decide +kernel, by decide +kernel, by decide +kernel⟩
theorem mvX0_stemAt : MV RX0 yX0_stemAt cX0_stemAt 2 (some (.int)) 1 := ⟨⟨mi 528 (by decide +kernel), mi 529 (by decide +kernel), rfl, mi 530 (by decide +kernel), mi 65 (by decide +kernel)⟩, by decide +kernel, by decide +kernel, by decide +kernel⟩
theorem mvX0_take : MV RX0 yX0_take cX0_take 5 none 1 := ⟨⟨mi 557 (by decide +kernel), mi 558 (by decide +kernel), rfl, mi 559 (by decide +kernel), mi 65 (by decide +kernel)⟩, by decide +kernel, by decide +kernel, by decide +kernel⟩
theorem mvX0_valueAt : MV RX0 yX0_valueAt cX0_valueAt 2 (some (.float)) 1 := ⟨⟨mi 474 (by decide +kernel), mi 475 (by decide +kernel), rfl, mi 476 (by decide +kernel), mi 65 (by decide +kernel)⟩, by decide +kernel, by decide +kernel, by decide +kernel⟩
theorem mvX1_add : MV RX1 yX1_add cX1_add 5 none 3 := ⟨⟨mi 523 (by decide +kernel), mi 524 (by decide +kernel), rfl, mi 525 (by decide +kernel), mi 62 (by decide +kernel)⟩, by decide +kernel, by decide +kernel, by decide +kernel⟩
theorem mvX1_clockAt : MV RX1 yX1_clockAt cX1_clockAt 2 (some (.int)) 1 := ⟨⟨mi 547 (by decide +kernel), mi 548 (by decide +kernel), rfl, mi 549 (by decide +kernel), mi 62 (by decide +kernel)⟩, by decide +kernel, by decide +kernel, by decide +kernel⟩
theorem mvX1_close : MV RX1 yX1_close cX1_close 2 none 1 := ⟨⟨mi 850 (by decide +kernel), mi 851 (by decide +kernel), rfl, mi 852 (by decide +kernel), mi 62 (by decide +kernel)⟩, by decide +kernel, by decide +kernel, by decide +kernel⟩
theorem mvX1_endRowOf : MV RX1 yX1_endRowOf cX1_endRowOf 2 (some (.int)) 1 := ⟨⟨mi 561 (by decide +kernel), mi 562 (by decide +kernel), rfl, mi 563 (by decide +kernel), mi 62 (by decide +kernel)⟩, by decide +kernel, by decide +kernel, by decide +kernel⟩
theorem mvX1_fileByTime : MV RX1 yX1_fileByTime cX1_fileByTime 4 none 1 := ⟨⟨mi 512 (by decide +kernel), mi 3 (by decide +kernel), rfl, mi 513 (by decide +kernel), mi 62 (by decide +kernel)⟩, by decide +kernel, by decide +kernel, by decide +kernel⟩
theorem mvX1_firstRowOf : MV RX1 yX1_firstRowOf cX1_firstRowOf 2 (some (.int)) 1 := ⟨⟨mi 565 (by decide +kernel), mi 566 (by decide +kernel), rfl, mi 567 (by decide +kernel), mi 62 (by decide +kernel)⟩, by decide +kernel, by decide +kernel, by decide +kernel⟩
theorem mvX1_isFull : MV RX1 yX1_isFull cX1_isFull 1 (some (.boolean)) 0 := ⟨⟨mi 457 (by decide +kernel), mi 458 (by decide +kernel), rfl, mi 459 (by decide +kernel), mi 62 (by decide +kernel)⟩, by decide +kernel, by decide +kernel, by decide +kernel⟩
theorem mvX1_isLater : MV RX1 yX1_isLater cX1_isLater 4 (some (.boolean)) 2 := ⟨⟨mi 515 (by decide +kernel), mi 516 (by decide +kernel), rfl, mi 517 (by decide +kernel), mi 62 (by decide +kernel)⟩, by decide +kernel, by decide +kernel, by decide +kernel⟩
theorem mvX1_lastOpenStepOf : MV RX1 yX1_lastOpenStepOf cX1_lastOpenStepOf 3 (some (.int)) 1 := ⟨⟨mi 836 (by decide +kernel), mi 837 (by decide +kernel), rfl, mi 838 (by decide +kernel), mi 62 (by decide +kernel)⟩, by decide +kernel, by decide +kernel, by decide +kernel⟩
theorem mvX1_open : MV RX1 yX1_open cX1_open 5 (some (.int)) 3 := ⟨⟨mi 507 (by decide +kernel), mi 508 (by decide +kernel), rfl, mi 509 (by decide +kernel), mi 62 (by decide +kernel)⟩, by decide +kernel, by decide +kernel, by decide +kernel⟩
theorem mvX1_operationAtTime : MV RX1 yX1_operationAtTime cX1_operationAtTime 2 (some (.int)) 1 := ⟨⟨mi 1244 (by decide +kernel), mi 1245 (by decide +kernel), rfl, mi 1246 (by decide +kernel), mi 62 (by decide +kernel)⟩, by decide +kernel, by decide +kernel, by decide +kernel⟩
theorem mvX1_remember : MV RX1 yX1_remember cX1_remember 4 none 2 := ⟨⟨mi 532 (by decide +kernel), mi 533 (by decide +kernel), rfl, mi 534 (by decide +kernel), mi 62 (by decide +kernel)⟩, by decide +kernel, by decide +kernel, by decide +kernel⟩
theorem mvX1_userAt : MV RX1 yX1_userAt cX1_userAt 2 (some (.int)) 1 := ⟨⟨mi 841 (by decide +kernel), mi 842 (by decide +kernel), rfl, mi 843 (by decide +kernel), mi 62 (by decide +kernel)⟩, by decide +kernel, by decide +kernel, by decide +kernel⟩
theorem mvX2_hasConnector : MV RX2 yX2_hasConnector cX2_hasConnector 2 (some (.boolean)) 1 := ⟨⟨mi 782 (by decide +kernel), mi 783 (by decide +kernel), rfl, mi 784 (by decide +kernel), mi 63 (by decide +kernel)⟩, by decide +kernel, by decide +kernel, by decide +kernel⟩
theorem mvX2_hasShape : MV RX2 yX2_hasShape cX2_hasShape 2 (some (.boolean)) 1 := ⟨⟨mi 470 (by decide +kernel), mi 471 (by decide +kernel), rfl, mi 472 (by decide +kernel), mi 63 (by decide +kernel)⟩, by decide +kernel, by decide +kernel, by decide +kernel⟩
theorem mvX2_heightAt : MV RX2 yX2_heightAt cX2_heightAt 2 (some (.int)) 1 := ⟨⟨mi 589 (by decide +kernel), mi 590 (by decide +kernel), rfl, mi 591 (by decide +kernel), mi 63 (by decide +kernel)⟩, by decide +kernel, by decide +kernel, by decide +kernel⟩
theorem mvX2_isFrameAt : MV RX2 yX2_isFrameAt cX2_isFrameAt 2 (some (.boolean)) 1 := ⟨⟨mi 649 (by decide +kernel), mi 650 (by decide +kernel), rfl, mi 651 (by decide +kernel), mi 63 (by decide +kernel)⟩, by decide +kernel, by decide +kernel, by decide +kernel⟩
theorem mvX2_makeConnector : MV RX2 yX2_makeConnector cX2_makeConnector 6 (some (.int)) 4 := ⟨⟨mi 764 (by decide +kernel), mi 765 (by decide +kernel), rfl, mi 766 (by decide +kernel), mi 63 (by decide +kernel)⟩, by decide +kernel, by decide +kernel, by decide +kernel⟩
theorem mvX2_makeShape : MV RX2 yX2_makeShape cX2_makeShape 5 (some (.int)) 3 := ⟨⟨mi 499 (by decide +kernel), mi 500 (by decide +kernel), rfl, mi 501 (by decide +kernel), mi 63 (by decide +kernel)⟩, by decide +kernel, by decide +kernel, by decide +kernel⟩
theorem mvX2_shapeOfEnd : MV RX2 yX2_shapeOfEnd cX2_shapeOfEnd 3 (some (.int)) 2 := ⟨⟨mi 786 (by decide +kernel), mi 787 (by decide +kernel), rfl, mi 788 (by decide +kernel), mi 63 (by decide +kernel)⟩, by decide +kernel, by decide +kernel, by decide +kernel⟩
theorem mvX2_sideOfEnd : MV RX2 yX2_sideOfEnd cX2_sideOfEnd 4 (some (.char)) 2 := ⟨⟨mi 1094 (by decide +kernel), mi 1095 (by decide +kernel), rfl, mi 1096 (by decide +kernel), mi 63 (by decide +kernel)⟩, by decide +kernel, by decide +kernel, by decide +kernel⟩
theorem mvX2_widthAt : MV RX2 yX2_widthAt cX2_widthAt 2 (some (.int)) 1 := ⟨⟨mi 584 (by decide +kernel), mi 585 (by decide +kernel), rfl, mi 586 (by decide +kernel), mi 63 (by decide +kernel)⟩, by decide +kernel, by decide +kernel, by decide +kernel⟩
theorem mvX3_collect : MV RX3 yX3_collect cX3_collect 4 (some (.int)) 2 := ⟨⟨mi 1281 (by decide +kernel), mi 21 (by decide +kernel), rfl, mi 1282 (by decide +kernel), mi 64 (by decide +kernel)⟩, by decide +kernel, by decide +kernel, by decide +kernel⟩
theorem mvX3_countDifferent : MV RX3 yX3_countDifferent cX3_countDifferent 7 (some (.int)) 2 := ⟨⟨mi 1264 (by decide +kernel), mi 1265 (by decide +kernel), rfl, mi 1266 (by decide +kernel), mi 64 (by decide +kernel)⟩, by decide +kernel, by decide +kernel, by decide +kernel⟩
theorem mvX3_listKnown : MV RX3 yX3_listKnown cX3_listKnown 4 none 1 := ⟨⟨mi 1241 (by decide +kernel), mi 19 (by decide +kernel), rfl, mi 1242 (by decide +kernel), mi 64 (by decide +kernel)⟩, by decide +kernel, by decide +kernel, by decide +kernel⟩
theorem mvX3_mix : MV RX3 yX3_mix cX3_mix 6 none 2 := ⟨⟨mi 1274 (by decide +kernel), mi 20 (by decide +kernel), rfl, mi 1275 (by decide +kernel), mi 64 (by decide +kernel)⟩, by decide +kernel, by decide +kernel, by decide +kernel⟩
theorem mvX3_sumUpAnew : MV RX3 yX3_sumUpAnew cX3_sumUpAnew 3 (some (.int)) 1 := ⟨⟨mi 1236 (by decide +kernel), mi 1237 (by decide +kernel), rfl, mi 1238 (by decide +kernel), mi 64 (by decide +kernel)⟩, by decide +kernel, by decide +kernel, by decide +kernel⟩
theorem mvX4_block : MV RX4 yX4_block cX4_block 8 none 2 := ⟨⟨mi 1082 (by decide +kernel), mi 8 (by decide +kernel), rfl, mi 1083 (by decide +kernel), mi 67 (by decide +kernel)⟩, by decide +kernel, by decide +kernel, by decide +kernel⟩
theorem mvX4_count : MV RX4 yX4_count cX4_count 3 none 2 := ⟨⟨mi 1172 (by decide +kernel), mi 17 (by decide +kernel), rfl, mi 1173 (by decide +kernel), mi 67 (by decide +kernel)⟩, by decide +kernel, by decide +kernel, by decide +kernel⟩
theorem mvX4_countOn : MV RX4 yX4_countOn cX4_countOn 7 none 1 := ⟨⟨mi 1176 (by decide +kernel), mi 18 (by decide +kernel), rfl, mi 1177 (by decide +kernel), mi 67 (by decide +kernel)⟩, by decide +kernel, by decide +kernel, by decide +kernel⟩
theorem mvX4_draw : MV RX4 yX4_draw cX4_draw 4 none 2 := ⟨⟨mi 1075 (by decide +kernel), mi 1076 (by decide +kernel), rfl, mi 1077 (by decide +kernel), mi 67 (by decide +kernel)⟩, by decide +kernel, by decide +kernel, by decide +kernel⟩
theorem mvX4_fewestCells : MV RX4 yX4_fewestCells cX4_fewestCells 4 (some (.int)) 0 := ⟨⟨mi 1166 (by decide +kernel), mi 1167 (by decide +kernel), rfl, mi 1168 (by decide +kernel), mi 67 (by decide +kernel)⟩, by decide +kernel, by decide +kernel, by decide +kernel⟩
theorem mvX4_fewestTurns : MV RX4 yX4_fewestTurns cX4_fewestTurns 3 (some (.int)) 0 := ⟨⟨mi 1099 (by decide +kernel), mi 1100 (by decide +kernel), rfl, mi 1101 (by decide +kernel), mi 67 (by decide +kernel)⟩, by decide +kernel, by decide +kernel, by decide +kernel⟩
theorem mvX4_fewestTurnsByRounds : MV RX4 yX4_fewestTurnsByRounds cX4_fewestTurnsByRounds 4 (some (.int)) 0 := ⟨⟨mi 1151 (by decide +kernel), mi 1152 (by decide +kernel), rfl, mi 1153 (by decide +kernel), mi 67 (by decide +kernel)⟩, by decide +kernel, by decide +kernel, by decide +kernel⟩
theorem mvX4_goOn : MV RX4 yX4_goOn cX4_goOn 6 none 2 := ⟨⟨mi 1114 (by decide +kernel), mi 11 (by decide +kernel), rfl, mi 1115 (by decide +kernel), mi 67 (by decide +kernel)⟩, by decide +kernel, by decide +kernel, by decide +kernel⟩
theorem mvX4_improve : MV RX4 yX4_improve cX4_improve 10 (some (.boolean)) 1 := ⟨⟨mi 1156 (by decide +kernel), mi 16 (by decide +kernel), rfl, mi 1157 (by decide +kernel), mi 67 (by decide +kernel)⟩, by decide +kernel, by decide +kernel, by decide +kernel⟩
theorem mvX4_pushHere : MV RX4 yX4_pushHere cX4_pushHere 2 none 1 := ⟨⟨mi 1110 (by decide +kernel), mi 10 (by decide +kernel), rfl, mi 1111 (by decide +kernel), mi 67 (by decide +kernel)⟩, by decide +kernel, by decide +kernel, by decide +kernel⟩
theorem mvX4_pushLater : MV RX4 yX4_pushLater cX4_pushLater 2 none 1 := ⟨⟨mi 1126 (by decide +kernel), mi 13 (by decide +kernel), rfl, mi 1127 (by decide +kernel), mi 67 (by decide +kernel)⟩, by decide +kernel, by decide +kernel, by decide +kernel⟩
theorem mvX4_spotBeside : MV RX4 yX4_spotBeside cX4_spotBeside 4 (some (.int)) 2 := ⟨⟨mi 1119 (by decide +kernel), mi 12 (by decide +kernel), rfl, mi 1120 (by decide +kernel), mi 67 (by decide +kernel)⟩, by decide +kernel, by decide +kernel, by decide +kernel⟩
theorem mvX4_startAnew : MV RX4 yX4_startAnew cX4_startAnew 2 none 0 := ⟨⟨mi 1105 (by decide +kernel), mi 9 (by decide +kernel), rfl, mi 1106 (by decide +kernel), mi 67 (by decide +kernel)⟩, by decide +kernel, by decide +kernel, by decide +kernel⟩
theorem mvX4_turnPage : MV RX4 yX4_turnPage cX4_turnPage 2 none 0 := ⟨⟨mi 1137 (by decide +kernel), mi 15 (by decide +kernel), rfl, mi 1138 (by decide +kernel), mi 67 (by decide +kernel)⟩, by decide +kernel, by decide +kernel, by decide +kernel⟩
theorem mvX4_turnsAtEnd : MV RX4 yX4_turnsAtEnd cX4_turnsAtEnd 1 (some (.int)) 0 := ⟨⟨mi 1130 (by decide +kernel), mi 14 (by decide +kernel), rfl, mi 1131 (by decide +kernel), mi 67 (by decide +kernel)⟩, by decide +kernel, by decide +kernel, by decide +kernel⟩
theorem mvX5_begin : MV RX5 yX5_begin cX5_begin 2 none 1 := ⟨⟨mi 503 (by decide +kernel), mi 504 (by decide +kernel), rfl, mi 505 (by decide +kernel), mi 68 (by decide +kernel)⟩, by decide +kernel, by decide +kernel, by decide +kernel⟩
theorem mvX5_end : MV RX5 yX5_end cX5_end 1 none 0 := ⟨⟨mi 539 (by decide +kernel), mi 540 (by decide +kernel), rfl, mi 541 (by decide +kernel), mi 68 (by decide +kernel)⟩, by decide +kernel, by decide +kernel, by decide +kernel⟩
theorem mvX5_isKnown : MV RX5 yX5_isKnown cX5_isKnown 2 (some (.boolean)) 1 := ⟨⟨mi 870 (by decide +kernel), mi 871 (by decide +kernel), rfl, mi 872 (by decide +kernel), mi 68 (by decide +kernel)⟩, by decide +kernel, by decide +kernel, by decide +kernel⟩
theorem mvX5_learn : MV RX5 yX5_learn cX5_learn 2 none 1 := ⟨⟨mi 543 (by decide +kernel), mi 544 (by decide +kernel), rfl, mi 545 (by decide +kernel), mi 68 (by decide +kernel)⟩, by decide +kernel, by decide +kernel, by decide +kernel⟩
theorem mvX5_step : MV RX5 yX5_step cX5_step 3 none 2 := ⟨⟨mi 689 (by decide +kernel), mi 690 (by decide +kernel), rfl, mi 691 (by decide +kernel), mi 68 (by decide +kernel)⟩, by decide +kernel, by decide +kernel, by decide +kernel⟩
theorem mvX5_undo : MV RX5 yX5_undo cX5_undo 6 (some (.int)) 1 := ⟨⟨mi 846 (by decide +kernel), mi 847 (by decide +kernel), rfl, mi 848 (by decide +kernel), mi 68 (by decide +kernel)⟩, by decide +kernel, by decide +kernel, by decide +kernel⟩
theorem mvX5_write : MV RX5 yX5_write cX5_write 3 none 2 := ⟨⟨mi 519 (by decide +kernel), mi 520 (by decide +kernel), rfl, mi 521 (by decide +kernel), mi 68 (by decide +kernel)⟩, by decide +kernel, by decide +kernel, by decide +kernel⟩
theorem mvX6_allVotesBy : MV RX6 yX6_allVotesBy cX6_allVotesBy 4 (some (.int)) 1 := ⟨⟨mi 815 (by decide +kernel), mi 816 (by decide +kernel), rfl, mi 817 (by decide +kernel), mi 66 (by decide +kernel)⟩, by decide +kernel, by decide +kernel, by decide +kernel⟩
theorem mvX6_allVotesFor : MV RX6 yX6_allVotesFor cX6_allVotesFor 4 (some (.int)) 1 := ⟨⟨mi 1197 (by decide +kernel), mi 1198 (by decide +kernel), rfl, mi 1199 (by decide +kernel), mi 66 (by decide +kernel)⟩, by decide +kernel, by decide +kernel, by decide +kernel⟩
theorem mvX6_areVotesShown : MV RX6 yX6_areVotesShown cX6_areVotesShown 1 (some (.boolean)) 0 := ⟨⟨mi 811 (by decide +kernel), mi 812 (by decide +kernel), rfl, mi 813 (by decide +kernel), mi 66 (by decide +kernel)⟩, by decide +kernel, by decide +kernel, by decide +kernel⟩
theorem mvX6_cellUnder : MV RX6 yX6_cellUnder cX6_cellUnder 2 (some (.int)) 1 := ⟨⟨mi 645 (by decide +kernel), mi 646 (by decide +kernel), rfl, mi 647 (by decide +kernel), mi 66 (by decide +kernel)⟩, by decide +kernel, by decide +kernel, by decide +kernel⟩
theorem mvX6_columnAt : MV RX6 yX6_columnAt cX6_columnAt 2 (some (.int)) 1 := ⟨⟨mi 664 (by decide +kernel), mi 665 (by decide +kernel), rfl, mi 666 (by decide +kernel), mi 66 (by decide +kernel)⟩, by decide +kernel, by decide +kernel, by decide +kernel⟩
theorem mvX6_countConnectors : MV RX6 yX6_countConnectors cX6_countConnectors 3 (some (.int)) 0 := ⟨⟨mi 791 (by decide +kernel), mi 792 (by decide +kernel), rfl, mi 793 (by decide +kernel), mi 66 (by decide +kernel)⟩, by decide +kernel, by decide +kernel, by decide +kernel⟩
theorem mvX6_countCovered : MV RX6 yX6_countCovered cX6_countCovered 4 (some (.int)) 1 := ⟨⟨mi 1053 (by decide +kernel), mi 1054 (by decide +kernel), rfl, mi 1055 (by decide +kernel), mi 66 (by decide +kernel)⟩, by decide +kernel, by decide +kernel, by decide +kernel⟩
theorem mvX6_countFrames : MV RX6 yX6_countFrames cX6_countFrames 3 (some (.int)) 0 := ⟨⟨mi 1322 (by decide +kernel), mi 1323 (by decide +kernel), rfl, mi 1324 (by decide +kernel), mi 66 (by decide +kernel)⟩, by decide +kernel, by decide +kernel, by decide +kernel⟩
theorem mvX6_countLockedBy : MV RX6 yX6_countLockedBy cX6_countLockedBy 4 (some (.int)) 1 := ⟨⟨mi 739 (by decide +kernel), mi 740 (by decide +kernel), rfl, mi 741 (by decide +kernel), mi 66 (by decide +kernel)⟩, by decide +kernel, by decide +kernel, by decide +kernel⟩
theorem mvX6_countShapes : MV RX6 yX6_countShapes cX6_countShapes 3 (some (.int)) 0 := ⟨⟨mi 462 (by decide +kernel), mi 463 (by decide +kernel), rfl, mi 464 (by decide +kernel), mi 66 (by decide +kernel)⟩, by decide +kernel, by decide +kernel, by decide +kernel⟩
theorem mvX6_covers : MV RX6 yX6_covers cX6_covers 5 (some (.boolean)) 2 := ⟨⟨mi 660 (by decide +kernel), mi 661 (by decide +kernel), rfl, mi 662 (by decide +kernel), mi 66 (by decide +kernel)⟩, by decide +kernel, by decide +kernel, by decide +kernel⟩
theorem mvX6_endOf : MV RX6 yX6_endOf cX6_endOf 10 (some (.int)) 2 := ⟨⟨mi 1090 (by decide +kernel), mi 1091 (by decide +kernel), rfl, mi 1092 (by decide +kernel), mi 66 (by decide +kernel)⟩, by decide +kernel, by decide +kernel, by decide +kernel⟩
theorem mvX6_greatestKey : MV RX6 yX6_greatestKey cX6_greatestKey 2 (some (.float)) 0 := ⟨⟨mi 478 (by decide +kernel), mi 479 (by decide +kernel), rfl, mi 480 (by decide +kernel), mi 66 (by decide +kernel)⟩, by decide +kernel, by decide +kernel, by decide +kernel⟩
theorem mvX6_isBelow : MV RX6 yX6_isBelow cX6_isBelow 5 (some (.boolean)) 2 := ⟨⟨mi 491 (by decide +kernel), mi 492 (by decide +kernel), rfl, mi 493 (by decide +kernel), mi 66 (by decide +kernel)⟩, by decide +kernel, by decide +kernel, by decide +kernel⟩
theorem mvX6_isCarried : MV RX6 yX6_isCarried cX6_isCarried 4 (some (.boolean)) 3 := ⟨⟨mi 656 (by decide +kernel), mi 657 (by decide +kernel), rfl, mi 658 (by decide +kernel), mi 66 (by decide +kernel)⟩, by decide +kernel, by decide +kernel, by decide +kernel⟩
theorem mvX6_isLockedByOther : MV RX6 yX6_isLockedByOther cX6_isLockedByOther 4 (some (.boolean)) 2 := ⟨⟨mi 617 (by decide +kernel), mi 618 (by decide +kernel), rfl, mi 619 (by decide +kernel), mi 66 (by decide +kernel)⟩, by decide +kernel, by decide +kernel, by decide +kernel⟩
theorem mvX6_isOver : MV RX6 yX6_isOver cX6_isOver 6 (some (.boolean)) 3 := ⟨⟨mi 674 (by decide +kernel), mi 675 (by decide +kernel), rfl, mi 676 (by decide +kernel), mi 66 (by decide +kernel)⟩, by decide +kernel, by decide +kernel, by decide +kernel⟩
theorem mvX6_isSeen : MV RX6 yX6_isSeen cX6_isSeen 2 (some (.boolean)) 1 := ⟨⟨mi 466 (by decide +kernel), mi 467 (by decide +kernel), rfl, mi 468 (by decide +kernel), mi 66 (by decide +kernel)⟩, by decide +kernel, by decide +kernel, by decide +kernel⟩
theorem mvX6_isSeenConnector : MV RX6 yX6_isSeenConnector cX6_isSeenConnector 2 (some (.boolean)) 1 := ⟨⟨mi 778 (by decide +kernel), mi 779 (by decide +kernel), rfl, mi 780 (by decide +kernel), mi 66 (by decide +kernel)⟩, by decide +kernel, by decide +kernel, by decide +kernel⟩
theorem mvX6_keyAt : MV RX6 yX6_keyAt cX6_keyAt 2 (some (.float)) 1 := ⟨⟨mi 495 (by decide +kernel), mi 496 (by decide +kernel), rfl, mi 497 (by decide +kernel), mi 66 (by decide +kernel)⟩, by decide +kernel, by decide +kernel, by decide +kernel⟩
theorem mvX6_lockerAt : MV RX6 yX6_lockerAt cX6_lockerAt 2 (some (.int)) 1 := ⟨⟨mi 621 (by decide +kernel), mi 622 (by decide +kernel), rfl, mi 623 (by decide +kernel), mi 66 (by decide +kernel)⟩, by decide +kernel, by decide +kernel, by decide +kernel⟩
theorem mvX6_lowestKey : MV RX6 yX6_lowestKey cX6_lowestKey 2 (some (.float)) 0 := ⟨⟨mi 704 (by decide +kernel), mi 705 (by decide +kernel), rfl, mi 706 (by decide +kernel), mi 66 (by decide +kernel)⟩, by decide +kernel, by decide +kernel, by decide +kernel⟩
theorem mvX6_mostVoted : MV RX6 yX6_mostVoted cX6_mostVoted 4 (some (.int)) 0 := ⟨⟨mi 1208 (by decide +kernel), mi 1209 (by decide +kernel), rfl, mi 1210 (by decide +kernel), mi 66 (by decide +kernel)⟩, by decide +kernel, by decide +kernel, by decide +kernel⟩
theorem mvX6_nextAbove : MV RX6 yX6_nextAbove cX6_nextAbove 4 (some (.int)) 1 := ⟨⟨mi 720 (by decide +kernel), mi 721 (by decide +kernel), rfl, mi 722 (by decide +kernel), mi 66 (by decide +kernel)⟩, by decide +kernel, by decide +kernel, by decide +kernel⟩
theorem mvX6_rankAt : MV RX6 yX6_rankAt cX6_rankAt 4 (some (.int)) 1 := ⟨⟨mi 487 (by decide +kernel), mi 488 (by decide +kernel), rfl, mi 489 (by decide +kernel), mi 66 (by decide +kernel)⟩, by decide +kernel, by decide +kernel, by decide +kernel⟩
theorem mvX6_rowAt : MV RX6 yX6_rowAt cX6_rowAt 2 (some (.int)) 1 := ⟨⟨mi 669 (by decide +kernel), mi 670 (by decide +kernel), rfl, mi 671 (by decide +kernel), mi 66 (by decide +kernel)⟩, by decide +kernel, by decide +kernel, by decide +kernel⟩
theorem mvX6_shapeWithRank : MV RX6 yX6_shapeWithRank cX6_shapeWithRank 3 (some (.int)) 1 := ⟨⟨mi 483 (by decide +kernel), mi 484 (by decide +kernel), rfl, mi 485 (by decide +kernel), mi 66 (by decide +kernel)⟩, by decide +kernel, by decide +kernel, by decide +kernel⟩
theorem mvX6_sumOfAreas : MV RX6 yX6_sumOfAreas cX6_sumOfAreas 4 (some (.long)) 0 := ⟨⟨mi 1341 (by decide +kernel), mi 1342 (by decide +kernel), rfl, mi 1343 (by decide +kernel), mi 66 (by decide +kernel)⟩, by decide +kernel, by decide +kernel, by decide +kernel⟩
theorem mvX6_sumUp : MV RX6 yX6_sumUp cX6_sumUp 3 (some (.int)) 0 := ⟨⟨mi 1221 (by decide +kernel), mi 1222 (by decide +kernel), rfl, mi 1223 (by decide +kernel), mi 66 (by decide +kernel)⟩, by decide +kernel, by decide +kernel, by decide +kernel⟩
theorem mvX6_topOn : MV RX6 yX6_topOn cX6_topOn 5 (some (.int)) 2 := ⟨⟨mi 1033 (by decide +kernel), mi 1034 (by decide +kernel), rfl, mi 1035 (by decide +kernel), mi 66 (by decide +kernel)⟩, by decide +kernel, by decide +kernel, by decide +kernel⟩
theorem mvX6_votesBy : MV RX6 yX6_votesBy cX6_votesBy 3 (some (.int)) 2 := ⟨⟨mi 804 (by decide +kernel), mi 805 (by decide +kernel), rfl, mi 806 (by decide +kernel), mi 66 (by decide +kernel)⟩, by decide +kernel, by decide +kernel, by decide +kernel⟩
theorem mvX8_addShape : MV RX8 yX8_addShape cX8_addShape 8 (some (.int)) 6 := ⟨⟨mi 1456 (by decide +kernel), mi 1457 (by decide +kernel), rfl, mi 1458 (by decide +kernel), mi 69 (by decide +kernel)⟩, by decide +kernel, by decide +kernel, by decide +kernel⟩
theorem mvX8_areAlike : MV RX8 yX8_areAlike cX8_areAlike 5 (some (.boolean)) 2 := ⟨⟨mi 1807 (by decide +kernel), mi 1808 (by decide +kernel), rfl, mi 1809 (by decide +kernel), mi 69 (by decide +kernel)⟩, by decide +kernel, by decide +kernel, by decide +kernel⟩
theorem mvX8_area : MV RX8 yX8_area cX8_area 5 (some (.long)) 1 := ⟨⟨mi 1819 (by decide +kernel), mi 1820 (by decide +kernel), rfl, mi 1821 (by decide +kernel), mi 69 (by decide +kernel)⟩, by decide +kernel, by decide +kernel, by decide +kernel⟩
theorem mvX8_asked : MV RX8 yX8_asked cX8_asked 4 (some (.int)) 2 := ⟨⟨mi 1729 (by decide +kernel), mi 51 (by decide +kernel), rfl, mi 1730 (by decide +kernel), mi 69 (by decide +kernel)⟩, by decide +kernel, by decide +kernel, by decide +kernel⟩
theorem mvX8_bar : MV RX8 yX8_bar cX8_bar 3 (some (.int)) 2 := ⟨⟨mi 1533 (by decide +kernel), mi 34 (by decide +kernel), rfl, mi 1534 (by decide +kernel), mi 69 (by decide +kernel)⟩, by decide +kernel, by decide +kernel, by decide +kernel⟩
theorem mvX8_bends : MV RX8 yX8_bends cX8_bends 3 (some (.int)) 2 := ⟨⟨mi 1724 (by decide +kernel), mi 1725 (by decide +kernel), rfl, mi 1726 (by decide +kernel), mi 69 (by decide +kernel)⟩, by decide +kernel, by decide +kernel, by decide +kernel⟩
theorem mvX8_bendsByRounds : MV RX8 yX8_bendsByRounds cX8_bendsByRounds 3 (some (.int)) 2 := ⟨⟨mi 1760 (by decide +kernel), mi 1761 (by decide +kernel), rfl, mi 1762 (by decide +kernel), mi 69 (by decide +kernel)⟩, by decide +kernel, by decide +kernel, by decide +kernel⟩
theorem mvX8_builds : MV RX8 yX8_builds cX8_builds 4 none 1 := ⟨⟨mi 1475 (by decide +kernel), mi 24 (by decide +kernel), rfl, mi 1476 (by decide +kernel), mi 69 (by decide +kernel)⟩, by decide +kernel, by decide +kernel, by decide +kernel⟩
theorem mvX8_clockOf : MV RX8 yX8_clockOf cX8_clockOf 2 (some (.int)) 1 := ⟨⟨mi 1651 (by decide +kernel), mi 1652 (by decide +kernel), rfl, mi 1653 (by decide +kernel), mi 69 (by decide +kernel)⟩, by decide +kernel, by decide +kernel, by decide +kernel⟩
theorem mvX8_column : MV RX8 yX8_column cX8_column 2 (some (.int)) 1 := ⟨⟨mi 1541 (by decide +kernel), mi 36 (by decide +kernel), rfl, mi 1542 (by decide +kernel), mi 69 (by decide +kernel)⟩, by decide +kernel, by decide +kernel, by decide +kernel⟩
theorem mvX8_columnOf : MV RX8 yX8_columnOf cX8_columnOf 3 (some (.int)) 2 := ⟨⟨mi 1671 (by decide +kernel), mi 1672 (by decide +kernel), rfl, mi 1673 (by decide +kernel), mi 69 (by decide +kernel)⟩, by decide +kernel, by decide +kernel, by decide +kernel⟩
theorem mvX8_connect : MV RX8 yX8_connect cX8_connect 6 (some (.int)) 5 := ⟨⟨mi 1592 (by decide +kernel), mi 1593 (by decide +kernel), rfl, mi 1594 (by decide +kernel), mi 69 (by decide +kernel)⟩, by decide +kernel, by decide +kernel, by decide +kernel⟩
theorem mvX8_connectors : MV RX8 yX8_connectors cX8_connectors 2 (some (.int)) 1 := ⟨⟨mi 1720 (by decide +kernel), mi 1721 (by decide +kernel), rfl, mi 1722 (by decide +kernel), mi 69 (by decide +kernel)⟩, by decide +kernel, by decide +kernel, by decide +kernel⟩
theorem mvX8_deliver : MV RX8 yX8_deliver cX8_deliver 3 (some (.int)) 2 := ⟨⟨mi 1627 (by decide +kernel), mi 1628 (by decide +kernel), rfl, mi 1629 (by decide +kernel), mi 69 (by decide +kernel)⟩, by decide +kernel, by decide +kernel, by decide +kernel⟩
theorem mvX8_disconnect : MV RX8 yX8_disconnect cX8_disconnect 3 (some (.int)) 2 := ⟨⟨mi 1599 (by decide +kernel), mi 1600 (by decide +kernel), rfl, mi 1601 (by decide +kernel), mi 69 (by decide +kernel)⟩, by decide +kernel, by decide +kernel, by decide +kernel⟩
theorem mvX8_empties : MV RX8 yX8_empties cX8_empties 2 none 0 := ⟨⟨mi 1479 (by decide +kernel), mi 25 (by decide +kernel), rfl, mi 1480 (by decide +kernel), mi 69 (by decide +kernel)⟩, by decide +kernel, by decide +kernel, by decide +kernel⟩
theorem mvX8_endColumn : MV RX8 yX8_endColumn cX8_endColumn 3 (some (.int)) 2 := ⟨⟨mi 1741 (by decide +kernel), mi 54 (by decide +kernel), rfl, mi 1742 (by decide +kernel), mi 69 (by decide +kernel)⟩, by decide +kernel, by decide +kernel, by decide +kernel⟩
theorem mvX8_endRow : MV RX8 yX8_endRow cX8_endRow 3 (some (.int)) 2 := ⟨⟨mi 1745 (by decide +kernel), mi 55 (by decide +kernel), rfl, mi 1746 (by decide +kernel), mi 69 (by decide +kernel)⟩, by decide +kernel, by decide +kernel, by decide +kernel⟩
theorem mvX8_fails : MV RX8 yX8_fails cX8_fails 2 (some (.int)) 1 := ⟨⟨mi 1471 (by decide +kernel), mi 23 (by decide +kernel), rfl, mi 1472 (by decide +kernel), mi 69 (by decide +kernel)⟩, by decide +kernel, by decide +kernel, by decide +kernel⟩
theorem mvX8_frameShare : MV RX8 yX8_frameShare cX8_frameShare 4 (some (.float)) 1 := ⟨⟨mi 1811 (by decide +kernel), mi 1812 (by decide +kernel), rfl, mi 1813 (by decide +kernel), mi 69 (by decide +kernel)⟩, by decide +kernel, by decide +kernel, by decide +kernel⟩
theorem mvX8_greatest : MV RX8 yX8_greatest cX8_greatest 3 (some (.int)) 0 := ⟨⟨mi 1491 (by decide +kernel), mi 28 (by decide +kernel), rfl, mi 1492 (by decide +kernel), mi 69 (by decide +kernel)⟩, by decide +kernel, by decide +kernel, by decide +kernel⟩
theorem mvX8_inside : MV RX8 yX8_inside cX8_inside 5 (some (.int)) 2 := ⟨⟨mi 1716 (by decide +kernel), mi 1717 (by decide +kernel), rfl, mi 1718 (by decide +kernel), mi 69 (by decide +kernel)⟩, by decide +kernel, by decide +kernel, by decide +kernel⟩
theorem mvX8_isBarred : MV RX8 yX8_isBarred cX8_isBarred 3 (some (.boolean)) 2 := ⟨⟨mi 1537 (by decide +kernel), mi 35 (by decide +kernel), rfl, mi 1538 (by decide +kernel), mi 69 (by decide +kernel)⟩, by decide +kernel, by decide +kernel, by decide +kernel⟩
theorem mvX8_isCovering : MV RX8 yX8_isCovering cX8_isCovering 4 (some (.boolean)) 3 := ⟨⟨mi 1709 (by decide +kernel), mi 50 (by decide +kernel), rfl, mi 1710 (by decide +kernel), mi 69 (by decide +kernel)⟩, by decide +kernel, by decide +kernel, by decide +kernel⟩
theorem mvX8_isInside : MV RX8 yX8_isInside cX8_isInside 3 (some (.boolean)) 2 := ⟨⟨mi 1549 (by decide +kernel), mi 38 (by decide +kernel), rfl, mi 1550 (by decide +kernel), mi 69 (by decide +kernel)⟩, by decide +kernel, by decide +kernel, by decide +kernel⟩
theorem mvX8_isJoined : MV RX8 yX8_isJoined cX8_isJoined 2 (some (.boolean)) 1 := ⟨⟨mi 1604 (by decide +kernel), mi 43 (by decide +kernel), rfl, mi 1605 (by decide +kernel), mi 69 (by decide +kernel)⟩, by decide +kernel, by decide +kernel, by decide +kernel⟩
theorem mvX8_isLater : MV RX8 yX8_isLater cX8_isLater 3 (some (.boolean)) 2 := ⟨⟨mi 1483 (by decide +kernel), mi 26 (by decide +kernel), rfl, mi 1484 (by decide +kernel), mi 69 (by decide +kernel)⟩, by decide +kernel, by decide +kernel, by decide +kernel⟩
theorem mvX8_isNobody : MV RX8 yX8_isNobody cX8_isNobody 2 (some (.boolean)) 1 := ⟨⟨mi 1664 (by decide +kernel), mi 48 (by decide +kernel), rfl, mi 1665 (by decide +kernel), mi 69 (by decide +kernel)⟩, by decide +kernel, by decide +kernel, by decide +kernel⟩
theorem mvX8_isOnBoard : MV RX8 yX8_isOnBoard cX8_isOnBoard 5 (some (.boolean)) 4 := ⟨⟨mi 1467 (by decide +kernel), mi 22 (by decide +kernel), rfl, mi 1468 (by decide +kernel), mi 69 (by decide +kernel)⟩, by decide +kernel, by decide +kernel, by decide +kernel⟩
theorem mvX8_isOpen : MV RX8 yX8_isOpen cX8_isOpen 3 (some (.boolean)) 2 := ⟨⟨mi 1749 (by decide +kernel), mi 56 (by decide +kernel), rfl, mi 1750 (by decide +kernel), mi 69 (by decide +kernel)⟩, by decide +kernel, by decide +kernel, by decide +kernel⟩
theorem mvX8_isOperation : MV RX8 yX8_isOperation cX8_isOperation 2 (some (.boolean)) 1 := ⟨⟨mi 1632 (by decide +kernel), mi 46 (by decide +kernel), rfl, mi 1633 (by decide +kernel), mi 69 (by decide +kernel)⟩, by decide +kernel, by decide +kernel, by decide +kernel⟩
theorem mvX8_isSeen : MV RX8 yX8_isSeen cX8_isSeen 2 (some (.boolean)) 1 := ⟨⟨mi 1495 (by decide +kernel), mi 29 (by decide +kernel), rfl, mi 1496 (by decide +kernel), mi 69 (by decide +kernel)⟩, by decide +kernel, by decide +kernel, by decide +kernel⟩
theorem mvX8_isUnseen : MV RX8 yX8_isUnseen cX8_isUnseen 3 (some (.boolean)) 2 := ⟨⟨mi 1676 (by decide +kernel), mi 49 (by decide +kernel), rfl, mi 1677 (by decide +kernel), mi 69 (by decide +kernel)⟩, by decide +kernel, by decide +kernel, by decide +kernel⟩
theorem mvX8_isWrong : MV RX8 yX8_isWrong cX8_isWrong 2 (some (.boolean)) 1 := ⟨⟨mi 1620 (by decide +kernel), mi 45 (by decide +kernel), rfl, mi 1621 (by decide +kernel), mi 69 (by decide +kernel)⟩, by decide +kernel, by decide +kernel, by decide +kernel⟩
theorem mvX8_joinedMany : MV RX8 yX8_joinedMany cX8_joinedMany 3 (some (.int)) 0 := ⟨⟨mi 1608 (by decide +kernel), mi 44 (by decide +kernel), rfl, mi 1609 (by decide +kernel), mi 69 (by decide +kernel)⟩, by decide +kernel, by decide +kernel, by decide +kernel⟩
theorem mvX8_joins : MV RX8 yX8_joins cX8_joins 3 (some (.int)) 2 := ⟨⟨mi 1794 (by decide +kernel), mi 59 (by decide +kernel), rfl, mi 1795 (by decide +kernel), mi 69 (by decide +kernel)⟩, by decide +kernel, by decide +kernel, by decide +kernel⟩
theorem mvX8_key : MV RX8 yX8_key cX8_key 2 (some (.float)) 1 := ⟨⟨mi 1499 (by decide +kernel), mi 30 (by decide +kernel), rfl, mi 1500 (by decide +kernel), mi 69 (by decide +kernel)⟩, by decide +kernel, by decide +kernel, by decide +kernel⟩
theorem mvX8_keyBits : MV RX8 yX8_keyBits cX8_keyBits 3 (some (.int)) 2 := ⟨⟨mi 1695 (by decide +kernel), mi 1696 (by decide +kernel), rfl, mi 1697 (by decide +kernel), mi 69 (by decide +kernel)⟩, by decide +kernel, by decide +kernel, by decide +kernel⟩
theorem mvX8_keyCut : MV RX8 yX8_keyCut cX8_keyCut 3 (some (.int)) 2 := ⟨⟨mi 1699 (by decide +kernel), mi 1700 (by decide +kernel), rfl, mi 1701 (by decide +kernel), mi 69 (by decide +kernel)⟩, by decide +kernel, by decide +kernel, by decide +kernel⟩
theorem mvX8_keyOf : MV RX8 yX8_keyOf cX8_keyOf 3 (some (.float)) 2 := ⟨⟨mi 1691 (by decide +kernel), mi 1692 (by decide +kernel), rfl, mi 1693 (by decide +kernel), mi 69 (by decide +kernel)⟩, by decide +kernel, by decide +kernel, by decide +kernel⟩
theorem mvX8_keys : MV RX8 yX8_keys cX8_keys 4 (some (.int)) 3 := ⟨⟨mi 1557 (by decide +kernel), mi 39 (by decide +kernel), rfl, mi 1558 (by decide +kernel), mi 69 (by decide +kernel)⟩, by decide +kernel, by decide +kernel, by decide +kernel⟩
theorem mvX8_knownMany : MV RX8 yX8_knownMany cX8_knownMany 4 (some (.int)) 1 := ⟨⟨mi 1636 (by decide +kernel), mi 47 (by decide +kernel), rfl, mi 1637 (by decide +kernel), mi 69 (by decide +kernel)⟩, by decide +kernel, by decide +kernel, by decide +kernel⟩
theorem mvX8_knows : MV RX8 yX8_knows cX8_knows 3 (some (.boolean)) 2 := ⟨⟨mi 1655 (by decide +kernel), mi 1656 (by decide +kernel), rfl, mi 1657 (by decide +kernel), mi 69 (by decide +kernel)⟩, by decide +kernel, by decide +kernel, by decide +kernel⟩
theorem mvX8_lock : MV RX8 yX8_lock cX8_lock 5 (some (.int)) 2 := ⟨⟨mi 1584 (by decide +kernel), mi 1585 (by decide +kernel), rfl, mi 1586 (by decide +kernel), mi 69 (by decide +kernel)⟩, by decide +kernel, by decide +kernel, by decide +kernel⟩
theorem mvX8_lockedBy : MV RX8 yX8_lockedBy cX8_lockedBy 3 (some (.int)) 2 := ⟨⟨mi 1712 (by decide +kernel), mi 1713 (by decide +kernel), rfl, mi 1714 (by decide +kernel), mi 69 (by decide +kernel)⟩, by decide +kernel, by decide +kernel, by decide +kernel⟩
theorem mvX8_lower : MV RX8 yX8_lower cX8_lower 3 (some (.int)) 2 := ⟨⟨mi 1564 (by decide +kernel), mi 1565 (by decide +kernel), rfl, mi 1566 (by decide +kernel), mi 69 (by decide +kernel)⟩, by decide +kernel, by decide +kernel, by decide +kernel⟩
theorem mvX8_lowest : MV RX8 yX8_lowest cX8_lowest 3 (some (.int)) 0 := ⟨⟨mi 1569 (by decide +kernel), mi 41 (by decide +kernel), rfl, mi 1570 (by decide +kernel), mi 69 (by decide +kernel)⟩, by decide +kernel, by decide +kernel, by decide +kernel⟩
theorem mvX8_makes : MV RX8 yX8_makes cX8_makes 5 none 2 := ⟨⟨mi 1524 (by decide +kernel), mi 33 (by decide +kernel), rfl, mi 1525 (by decide +kernel), mi 69 (by decide +kernel)⟩, by decide +kernel, by decide +kernel, by decide +kernel⟩
theorem mvX8_meanRoute : MV RX8 yX8_meanRoute cX8_meanRoute 6 (some (.double)) 1 := ⟨⟨mi 1815 (by decide +kernel), mi 1816 (by decide +kernel), rfl, mi 1817 (by decide +kernel), mi 69 (by decide +kernel)⟩, by decide +kernel, by decide +kernel, by decide +kernel⟩
theorem mvX8_move : MV RX8 yX8_move cX8_move 11 (some (.int)) 4 := ⟨⟨mi 1528 (by decide +kernel), mi 1529 (by decide +kernel), rfl, mi 1530 (by decide +kernel), mi 69 (by decide +kernel)⟩, by decide +kernel, by decide +kernel, by decide +kernel⟩
theorem mvX8_operations : MV RX8 yX8_operations cX8_operations 1 (some (.int)) 0 := ⟨⟨mi 1643 (by decide +kernel), mi 1644 (by decide +kernel), rfl, mi 1645 (by decide +kernel), mi 69 (by decide +kernel)⟩, by decide +kernel, by decide +kernel, by decide +kernel⟩
theorem mvX8_outcome : MV RX8 yX8_outcome cX8_outcome 2 (some (.int)) 1 := ⟨⟨mi 1785 (by decide +kernel), mi 1786 (by decide +kernel), rfl, mi 1787 (by decide +kernel), mi 69 (by decide +kernel)⟩, by decide +kernel, by decide +kernel, by decide +kernel⟩
theorem mvX8_outcomeAnew : MV RX8 yX8_outcomeAnew cX8_outcomeAnew 2 (some (.int)) 1 := ⟨⟨mi 1798 (by decide +kernel), mi 1799 (by decide +kernel), rfl, mi 1800 (by decide +kernel), mi 69 (by decide +kernel)⟩, by decide +kernel, by decide +kernel, by decide +kernel⟩
theorem mvX8_outcomeNow : MV RX8 yX8_outcomeNow cX8_outcomeNow 3 (some (.int)) 0 := ⟨⟨mi 1790 (by decide +kernel), mi 58 (by decide +kernel), rfl, mi 1791 (by decide +kernel), mi 69 (by decide +kernel)⟩, by decide +kernel, by decide +kernel, by decide +kernel⟩
theorem mvX8_outcomes : MV RX8 yX8_outcomes cX8_outcomes 3 (some (.int)) 2 := ⟨⟨mi 1803 (by decide +kernel), mi 1804 (by decide +kernel), rfl, mi 1805 (by decide +kernel), mi 69 (by decide +kernel)⟩, by decide +kernel, by decide +kernel, by decide +kernel⟩
theorem mvX8_ownVotes : MV RX8 yX8_ownVotes cX8_ownVotes 3 (some (.int)) 2 := ⟨⟨mi 1769 (by decide +kernel), mi 1770 (by decide +kernel), rfl, mi 1771 (by decide +kernel), mi 69 (by decide +kernel)⟩, by decide +kernel, by decide +kernel, by decide +kernel⟩
theorem mvX8_plans : MV RX8 yX8_plans cX8_plans 3 none 2 := ⟨⟨mi 1506 (by decide +kernel), mi 31 (by decide +kernel), rfl, mi 1507 (by decide +kernel), mi 69 (by decide +kernel)⟩, by decide +kernel, by decide +kernel, by decide +kernel⟩
theorem mvX8_putAbove : MV RX8 yX8_putAbove cX8_putAbove 6 (some (.int)) 3 := ⟨⟨mi 1572 (by decide +kernel), mi 1573 (by decide +kernel), rfl, mi 1574 (by decide +kernel), mi 69 (by decide +kernel)⟩, by decide +kernel, by decide +kernel, by decide +kernel⟩
theorem mvX8_raise : MV RX8 yX8_raise cX8_raise 3 (some (.int)) 2 := ⟨⟨mi 1552 (by decide +kernel), mi 1553 (by decide +kernel), rfl, mi 1554 (by decide +kernel), mi 69 (by decide +kernel)⟩, by decide +kernel, by decide +kernel, by decide +kernel⟩
theorem mvX8_rank : MV RX8 yX8_rank cX8_rank 4 (some (.int)) 1 := ⟨⟨mi 1561 (by decide +kernel), mi 40 (by decide +kernel), rfl, mi 1562 (by decide +kernel), mi 69 (by decide +kernel)⟩, by decide +kernel, by decide +kernel, by decide +kernel⟩
theorem mvX8_rankOf : MV RX8 yX8_rankOf cX8_rankOf 3 (some (.int)) 2 := ⟨⟨mi 1683 (by decide +kernel), mi 1684 (by decide +kernel), rfl, mi 1685 (by decide +kernel), mi 69 (by decide +kernel)⟩, by decide +kernel, by decide +kernel, by decide +kernel⟩
theorem mvX8_remove : MV RX8 yX8_remove cX8_remove 3 (some (.int)) 2 := ⟨⟨mi 1576 (by decide +kernel), mi 1577 (by decide +kernel), rfl, mi 1578 (by decide +kernel), mi 69 (by decide +kernel)⟩, by decide +kernel, by decide +kernel, by decide +kernel⟩
theorem mvX8_restores : MV RX8 yX8_restores cX8_restores 4 none 3 := ⟨⟨mi 1510 (by decide +kernel), mi 32 (by decide +kernel), rfl, mi 1511 (by decide +kernel), mi 69 (by decide +kernel)⟩, by decide +kernel, by decide +kernel, by decide +kernel⟩
theorem mvX8_route : MV RX8 yX8_route cX8_route 16 (some (.int)) 1 := ⟨⟨mi 1733 (by decide +kernel), mi 52 (by decide +kernel), rfl, mi 1734 (by decide +kernel), mi 69 (by decide +kernel)⟩, by decide +kernel, by decide +kernel, by decide +kernel⟩
theorem mvX8_routeLength : MV RX8 yX8_routeLength cX8_routeLength 3 (some (.int)) 2 := ⟨⟨mi 1765 (by decide +kernel), mi 1766 (by decide +kernel), rfl, mi 1767 (by decide +kernel), mi 69 (by decide +kernel)⟩, by decide +kernel, by decide +kernel, by decide +kernel⟩
theorem mvX8_row : MV RX8 yX8_row cX8_row 2 (some (.int)) 1 := ⟨⟨mi 1545 (by decide +kernel), mi 37 (by decide +kernel), rfl, mi 1546 (by decide +kernel), mi 69 (by decide +kernel)⟩, by decide +kernel, by decide +kernel, by decide +kernel⟩
theorem mvX8_rowOf : MV RX8 yX8_rowOf cX8_rowOf 3 (some (.int)) 2 := ⟨⟨mi 1679 (by decide +kernel), mi 1680 (by decide +kernel), rfl, mi 1681 (by decide +kernel), mi 69 (by decide +kernel)⟩, by decide +kernel, by decide +kernel, by decide +kernel⟩
theorem mvX8_seenMany : MV RX8 yX8_seenMany cX8_seenMany 3 (some (.int)) 0 := ⟨⟨mi 1581 (by decide +kernel), mi 42 (by decide +kernel), rfl, mi 1582 (by decide +kernel), mi 69 (by decide +kernel)⟩, by decide +kernel, by decide +kernel, by decide +kernel⟩
theorem mvX8_sees : MV RX8 yX8_sees cX8_sees 3 (some (.boolean)) 2 := ⟨⟨mi 1667 (by decide +kernel), mi 1668 (by decide +kernel), rfl, mi 1669 (by decide +kernel), mi 69 (by decide +kernel)⟩, by decide +kernel, by decide +kernel, by decide +kernel⟩
theorem mvX8_shapeAt : MV RX8 yX8_shapeAt cX8_shapeAt 4 (some (.int)) 2 := ⟨⟨mi 1687 (by decide +kernel), mi 1688 (by decide +kernel), rfl, mi 1689 (by decide +kernel), mi 69 (by decide +kernel)⟩, by decide +kernel, by decide +kernel, by decide +kernel⟩
theorem mvX8_shapes : MV RX8 yX8_shapes cX8_shapes 2 (some (.int)) 1 := ⟨⟨mi 1659 (by decide +kernel), mi 1660 (by decide +kernel), rfl, mi 1661 (by decide +kernel), mi 69 (by decide +kernel)⟩, by decide +kernel, by decide +kernel, by decide +kernel⟩
theorem mvX8_show : MV RX8 yX8_show cX8_show 4 (some (.boolean)) 2 := ⟨⟨mi 1615 (by decide +kernel), mi 1616 (by decide +kernel), rfl, mi 1617 (by decide +kernel), mi 69 (by decide +kernel)⟩, by decide +kernel, by decide +kernel, by decide +kernel⟩
theorem mvX8_shuts : MV RX8 yX8_shuts cX8_shuts 3 none 0 := ⟨⟨mi 1737 (by decide +kernel), mi 53 (by decide +kernel), rfl, mi 1738 (by decide +kernel), mi 69 (by decide +kernel)⟩, by decide +kernel, by decide +kernel, by decide +kernel⟩
theorem mvX8_sync : MV RX8 yX8_sync cX8_sync 5 (some (.int)) 2 := ⟨⟨mi 1639 (by decide +kernel), mi 1640 (by decide +kernel), rfl, mi 1641 (by decide +kernel), mi 69 (by decide +kernel)⟩, by decide +kernel, by decide +kernel, by decide +kernel⟩
theorem mvX8_takeBack : MV RX8 yX8_takeBack cX8_takeBack 4 (some (.int)) 1 := ⟨⟨mi 1623 (by decide +kernel), mi 1624 (by decide +kernel), rfl, mi 1625 (by decide +kernel), mi 69 (by decide +kernel)⟩, by decide +kernel, by decide +kernel, by decide +kernel⟩
theorem mvX8_thrown : MV RX8 yX8_thrown cX8_thrown 1 (some (.int)) 0 := ⟨⟨mi 1452 (by decide +kernel), mi 1453 (by decide +kernel), rfl, mi 1454 (by decide +kernel), mi 69 (by decide +kernel)⟩, by decide +kernel, by decide +kernel, by decide +kernel⟩
theorem mvX8_topAt : MV RX8 yX8_topAt cX8_topAt 6 (some (.int)) 3 := ⟨⟨mi 1704 (by decide +kernel), mi 1705 (by decide +kernel), rfl, mi 1706 (by decide +kernel), mi 69 (by decide +kernel)⟩, by decide +kernel, by decide +kernel, by decide +kernel⟩
theorem mvX8_unlock : MV RX8 yX8_unlock cX8_unlock 4 (some (.int)) 2 := ⟨⟨mi 1588 (by decide +kernel), mi 1589 (by decide +kernel), rfl, mi 1590 (by decide +kernel), mi 69 (by decide +kernel)⟩, by decide +kernel, by decide +kernel, by decide +kernel⟩
theorem mvX8_userOf : MV RX8 yX8_userOf cX8_userOf 2 (some (.int)) 1 := ⟨⟨mi 1647 (by decide +kernel), mi 1648 (by decide +kernel), rfl, mi 1649 (by decide +kernel), mi 69 (by decide +kernel)⟩, by decide +kernel, by decide +kernel, by decide +kernel⟩
theorem mvX8_vote : MV RX8 yX8_vote cX8_vote 7 (some (.int)) 3 := ⟨⟨mi 1611 (by decide +kernel), mi 1612 (by decide +kernel), rfl, mi 1613 (by decide +kernel), mi 69 (by decide +kernel)⟩, by decide +kernel, by decide +kernel, by decide +kernel⟩
theorem mvX8_votes : MV RX8 yX8_votes cX8_votes 4 (some (.int)) 1 := ⟨⟨mi 1778 (by decide +kernel), mi 57 (by decide +kernel), rfl, mi 1779 (by decide +kernel), mi 69 (by decide +kernel)⟩, by decide +kernel, by decide +kernel, by decide +kernel⟩
theorem mvX8_votesFor : MV RX8 yX8_votesFor cX8_votesFor 3 (some (.int)) 2 := ⟨⟨mi 1773 (by decide +kernel), mi 1774 (by decide +kernel), rfl, mi 1775 (by decide +kernel), mi 69 (by decide +kernel)⟩, by decide +kernel, by decide +kernel, by decide +kernel⟩
theorem mvX8_winner : MV RX8 yX8_winner cX8_winner 4 (some (.int)) 1 := ⟨⟨mi 1781 (by decide +kernel), mi 1782 (by decide +kernel), rfl, mi 1783 (by decide +kernel), mi 69 (by decide +kernel)⟩, by decide +kernel, by decide +kernel, by decide +kernel⟩
theorem mvX8_writes : MV RX8 yX8_writes cX8_writes 3 none 2 := ⟨⟨mi 1487 (by decide +kernel), mi 27 (by decide +kernel), rfl, mi 1488 (by decide +kernel), mi 69 (by decide +kernel)⟩, by decide +kernel, by decide +kernel, by decide +kernel⟩
theorem msX7_bitsOf : MS yX7_bitsOf cX7_bitsOf 6 (some (.int)) 1 := ⟨⟨mi 1008 (by decide +kernel), mi 1009 (by decide +kernel), mi 61 (by decide +kernel)⟩, by decide +kernel, by decide +kernel, by decide +kernel⟩
theorem msX7_cellAt : MS yX7_cellAt cX7_cellAt 2 (some (.int)) 2 := ⟨⟨mi 536 (by decide +kernel), mi 537 (by decide +kernel), mi 61 (by decide +kernel)⟩, by decide +kernel, by decide +kernel, by decide +kernel⟩
theorem msX7_fits : MS yX7_fits cX7_fits 4 (some (.boolean)) 4 := ⟨⟨mi 433 (by decide +kernel), mi 434 (by decide +kernel), mi 61 (by decide +kernel)⟩, by decide +kernel, by decide +kernel, by decide +kernel⟩
theorem msX7_floatAt : MS yX7_floatAt cX7_floatAt 2 (some (.float)) 2 := ⟨⟨mi 571 (by decide +kernel), mi 572 (by decide +kernel), mi 61 (by decide +kernel)⟩, by decide +kernel, by decide +kernel, by decide +kernel⟩
theorem msX7_giveKey : MS yX7_giveKey cX7_giveKey 3 (some (.int)) 3 := ⟨⟨mi 686 (by decide +kernel), mi 687 (by decide +kernel), mi 61 (by decide +kernel)⟩, by decide +kernel, by decide +kernel, by decide +kernel⟩
theorem msX7_intAt : MS yX7_intAt cX7_intAt 3 (some (.int)) 3 := ⟨⟨mi 551 (by decide +kernel), mi 552 (by decide +kernel), mi 61 (by decide +kernel)⟩, by decide +kernel, by decide +kernel, by decide +kernel⟩
theorem msX7_isAt : MS yX7_isAt cX7_isAt 2 (some (.boolean)) 2 := ⟨⟨mi 653 (by decide +kernel), mi 654 (by decide +kernel), mi 61 (by decide +kernel)⟩, by decide +kernel, by decide +kernel, by decide +kernel⟩
theorem msX7_isNegativeZero : MS yX7_isNegativeZero cX7_isNegativeZero 1 (some (.boolean)) 1 := ⟨⟨mi 1011 (by decide +kernel), mi 1012 (by decide +kernel), mi 61 (by decide +kernel)⟩, by decide +kernel, by decide +kernel, by decide +kernel⟩
theorem msX7_isSameValue : MS yX7_isSameValue cX7_isSameValue 2 (some (.boolean)) 2 := ⟨⟨mi 1295 (by decide +kernel), mi 1296 (by decide +kernel), mi 61 (by decide +kernel)⟩, by decide +kernel, by decide +kernel, by decide +kernel⟩
theorem msX7_isSide : MS yX7_isSide cX7_isSide 1 (some (.boolean)) 1 := ⟨⟨mi 430 (by decide +kernel), mi 431 (by decide +kernel), mi 61 (by decide +kernel)⟩, by decide +kernel, by decide +kernel, by decide +kernel⟩
theorem msX7_isSideName : MS yX7_isSideName cX7_isSideName 1 (some (.boolean)) 1 := ⟨⟨mi 759 (by decide +kernel), mi 760 (by decide +kernel), mi 61 (by decide +kernel)⟩, by decide +kernel, by decide +kernel, by decide +kernel⟩
theorem msX7_keyAbove : MS yX7_keyAbove cX7_keyAbove 6 (some (.float)) 2 := ⟨⟨mi 716 (by decide +kernel), mi 717 (by decide +kernel), mi 61 (by decide +kernel)⟩, by decide +kernel, by decide +kernel, by decide +kernel⟩
theorem msX7_needChangeable : MS yX7_needChangeable cX7_needChangeable 2 none 2 := ⟨⟨mi 594 (by decide +kernel), mi 595 (by decide +kernel), mi 61 (by decide +kernel)⟩, by decide +kernel, by decide +kernel, by decide +kernel⟩
theorem msX7_needSeen : MS yX7_needSeen cX7_needSeen 2 none 2 := ⟨⟨mi 597 (by decide +kernel), mi 598 (by decide +kernel), mi 61 (by decide +kernel)⟩, by decide +kernel, by decide +kernel, by decide +kernel⟩
theorem msX7_needSeenConnector : MS yX7_needSeenConnector cX7_needSeenConnector 2 none 2 := ⟨⟨mi 775 (by decide +kernel), mi 776 (by decide +kernel), mi 61 (by decide +kernel)⟩, by decide +kernel, by decide +kernel, by decide +kernel⟩
theorem msX7_needShown : MS yX7_needShown cX7_needShown 1 none 1 := ⟨⟨mi 1193 (by decide +kernel), mi 1194 (by decide +kernel), mi 61 (by decide +kernel)⟩, by decide +kernel, by decide +kernel, by decide +kernel⟩
theorem msX7_needWay : MS yX7_needWay cX7_needWay 1 (some (.int)) 1 := ⟨⟨mi 1140 (by decide +kernel), mi 1141 (by decide +kernel), mi 61 (by decide +kernel)⟩, by decide +kernel, by decide +kernel, by decide +kernel⟩
theorem msX7_voteField : MS yX7_voteField cX7_voteField 2 (some (.int)) 2 := ⟨⟨mi 808 (by decide +kernel), mi 809 (by decide +kernel), mi 61 (by decide +kernel)⟩, by decide +kernel, by decide +kernel, by decide +kernel⟩
theorem msX4_cellBeside : MS yX4_cellBeside cX4_cellBeside 4 (some (.int)) 2 := ⟨⟨mi 1122 (by decide +kernel), mi 1123 (by decide +kernel), mi 67 (by decide +kernel)⟩, by decide +kernel, by decide +kernel, by decide +kernel⟩
theorem msX6_join : MS yX6_join cX6_join 2 (some (.int)) 2 := ⟨⟨mi 1225 (by decide +kernel), mi 1226 (by decide +kernel), mi 66 (by decide +kernel)⟩, by decide +kernel, by decide +kernel, by decide +kernel⟩
theorem msX8_isBetween : MS yX8_isBetween cX8_isBetween 3 (some (.boolean)) 3 := ⟨⟨mi 1463 (by decide +kernel), mi 1464 (by decide +kernel), mi 69 (by decide +kernel)⟩, by decide +kernel, by decide +kernel, by decide +kernel⟩
theorem msX8_isSide : MS yX8_isSide cX8_isSide 1 (some (.boolean)) 1 := ⟨⟨mi 1596 (by decide +kernel), mi 1597 (by decide +kernel), mi 69 (by decide +kernel)⟩, by decide +kernel, by decide +kernel, by decide +kernel⟩
theorem msX8_isUser : MS yX8_isUser cX8_isUser 1 (some (.boolean)) 1 := ⟨⟨mi 1460 (by decide +kernel), mi 1461 (by decide +kernel), mi 69 (by decide +kernel)⟩, by decide +kernel, by decide +kernel, by decide +kernel⟩
theorem msX8_stepDown : MS yX8_stepDown cX8_stepDown 1 (some (.int)) 1 := ⟨⟨mi 1756 (by decide +kernel), mi 1757 (by decide +kernel), mi 69 (by decide +kernel)⟩, by decide +kernel, by decide +kernel, by decide +kernel⟩
theorem msX8_stepOver : MS yX8_stepOver cX8_stepOver 1 (some (.int)) 1 := ⟨⟨mi 1753 (by decide +kernel), mi 1754 (by decide +kernel), mi 69 (by decide +kernel)⟩, by decide +kernel, by decide +kernel, by decide +kernel⟩
theorem msJxf58ca_floatToIntBits_5c35a : MS yJxf58ca_floatToIntBits_5c35a cJxf58ca_floatToIntBits_5c35a 1 (some (.int)) 1 := ⟨⟨mi 1513 (by decide +kernel), mi 1514 (by decide +kernel), mi 77 (by decide +kernel)⟩, by decide +kernel, by decide +kernel, by decide +kernel⟩
theorem msJxf58ca_isNaN_12338 : MS yJxf58ca_isNaN_12338 cJxf58ca_isNaN_12338 1 (some (.boolean)) 1 := ⟨⟨mi 1516 (by decide +kernel), mi 1517 (by decide +kernel), mi 77 (by decide +kernel)⟩, by decide +kernel, by decide +kernel, by decide +kernel⟩
theorem msJ9_floorMod_7cf53 : MS yJ9_floorMod_7cf53 cJ9_floorMod_7cf53 3 (some (.int)) 2 := ⟨⟨mi 1277 (by decide +kernel), mi 1278 (by decide +kernel), mi 75 (by decide +kernel)⟩, by decide +kernel, by decide +kernel, by decide +kernel⟩
