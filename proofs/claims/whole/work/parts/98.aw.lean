/-! Words of the constructors. -/
theorem aw_int : lw_tbl[146]? = some (Cond.arrayClass (newarray.typeOf .int)) := by decide +kernel
theorem aw_boolean : lw_tbl[147]? = some (Cond.arrayClass (newarray.typeOf .boolean)) := by decide +kernel
theorem aw_char : lw_tbl[185]? = some (Cond.arrayClass (newarray.typeOf .char)) := by decide +kernel
theorem aw_float : lw_tbl[148]? = some (Cond.arrayClass (newarray.typeOf .float)) := by decide +kernel
theorem lk_X1_3_o : Cond.methodLink RX1 3 Lib.objectInit ∈ lw_tbl := mi 97 (by decide +kernel)
theorem oi_i : Cond.instanceMethod Lib.objectInit ∈ lw_tbl := mi 90 (by decide +kernel)
theorem oi_c : Cond.code Lib.objectInit ⟨#[0xb1]⟩ 1 none ∈ lw_tbl := mi 91 (by decide +kernel)
theorem zf_X1_9 : lw_tbl[98]? = some (Cond.fieldLink RX1 9 (TX1 0).1 (TX1 0).2.1 (TX1 0).2.2.1) := by decide +kernel
theorem zf_X1_15 : lw_tbl[99]? = some (Cond.fieldLink RX1 15 (TX1 1).1 (TX1 1).2.1 (TX1 1).2.2.1) := by decide +kernel
theorem zf_X1_18 : lw_tbl[100]? = some (Cond.fieldLink RX1 18 (TX1 2).1 (TX1 2).2.1 (TX1 2).2.2.1) := by decide +kernel
theorem zf_X1_22 : lw_tbl[101]? = some (Cond.fieldLink RX1 22 (TX1 3).1 (TX1 3).2.1 (TX1 3).2.2.1) := by decide +kernel
theorem zf_X1_25 : lw_tbl[102]? = some (Cond.fieldLink RX1 25 (TX1 4).1 (TX1 4).2.1 (TX1 4).2.2.1) := by decide +kernel
theorem zf_X1_28 : lw_tbl[103]? = some (Cond.fieldLink RX1 28 (TX1 5).1 (TX1 5).2.1 (TX1 5).2.2.1) := by decide +kernel
theorem zf_X1_31 : lw_tbl[104]? = some (Cond.fieldLink RX1 31 (TX1 6).1 (TX1 6).2.1 (TX1 6).2.2.1) := by decide +kernel
theorem zf_X1_34 : lw_tbl[107]? = some (Cond.fieldLink RX1 34 (TX1 7).1 (TX1 7).2.1 (TX1 7).2.2.1) := by decide +kernel
theorem zf_X1_38 : lw_tbl[109]? = some (Cond.fieldLink RX1 38 (TX1 8).1 (TX1 8).2.1 (TX1 8).2.2.1) := by decide +kernel
theorem zf_X1_41 : lw_tbl[111]? = some (Cond.fieldLink RX1 41 (TX1 9).1 (TX1 9).2.1 (TX1 9).2.2.1) := by decide +kernel
theorem zf_X1_44 : lw_tbl[113]? = some (Cond.fieldLink RX1 44 (TX1 10).1 (TX1 10).2.1 (TX1 10).2.2.1) := by decide +kernel
theorem lk_X2_3_o : Cond.methodLink RX2 3 Lib.objectInit ∈ lw_tbl := mi 154 (by decide +kernel)
theorem zf_X2_9 : lw_tbl[155]? = some (Cond.fieldLink RX2 9 (TX2 0).1 (TX2 0).2.1 (TX2 0).2.2.1) := by decide +kernel
theorem zf_X2_15 : lw_tbl[156]? = some (Cond.fieldLink RX2 15 (TX2 1).1 (TX2 1).2.1 (TX2 1).2.2.1) := by decide +kernel
theorem zf_X2_18 : lw_tbl[157]? = some (Cond.fieldLink RX2 18 (TX2 2).1 (TX2 2).2.1 (TX2 2).2.2.1) := by decide +kernel
theorem zf_X2_22 : lw_tbl[158]? = some (Cond.fieldLink RX2 22 (TX2 3).1 (TX2 3).2.1 (TX2 3).2.2.1) := by decide +kernel
theorem zf_X2_25 : lw_tbl[159]? = some (Cond.fieldLink RX2 25 (TX2 4).1 (TX2 4).2.1 (TX2 4).2.2.1) := by decide +kernel
theorem zf_X2_28 : lw_tbl[160]? = some (Cond.fieldLink RX2 28 (TX2 5).1 (TX2 5).2.1 (TX2 5).2.2.1) := by decide +kernel
theorem zf_X2_32 : lw_tbl[161]? = some (Cond.fieldLink RX2 32 (TX2 6).1 (TX2 6).2.1 (TX2 6).2.2.1) := by decide +kernel
theorem lk_X4_3_o : Cond.methodLink RX4 3 Lib.objectInit ∈ lw_tbl := mi 257 (by decide +kernel)
theorem zf_X4_9 : lw_tbl[258]? = some (Cond.fieldLink RX4 9 (TX4 0).1 (TX4 0).2.1 (TX4 0).2.2.1) := by decide +kernel
theorem zf_X4_15 : lw_tbl[259]? = some (Cond.fieldLink RX4 15 (TX4 1).1 (TX4 1).2.1 (TX4 1).2.2.1) := by decide +kernel
theorem zf_X4_19 : lw_tbl[260]? = some (Cond.fieldLink RX4 19 (TX4 2).1 (TX4 2).2.1 (TX4 2).2.2.1) := by decide +kernel
theorem zf_X4_22 : lw_tbl[261]? = some (Cond.fieldLink RX4 22 (TX4 3).1 (TX4 3).2.1 (TX4 3).2.2.1) := by decide +kernel
theorem zf_X4_25 : lw_tbl[262]? = some (Cond.fieldLink RX4 25 (TX4 4).1 (TX4 4).2.1 (TX4 4).2.2.1) := by decide +kernel
theorem zf_X4_28 : lw_tbl[265]? = some (Cond.fieldLink RX4 28 (TX4 7).1 (TX4 7).2.1 (TX4 7).2.2.1) := by decide +kernel
theorem zf_X4_32 : lw_tbl[266]? = some (Cond.fieldLink RX4 32 (TX4 8).1 (TX4 8).2.1 (TX4 8).2.2.1) := by decide +kernel
theorem lk_X6_3_o : Cond.methodLink RX6 3 Lib.objectInit ∈ lw_tbl := mi 218 (by decide +kernel)
theorem zf_X6_9 : lw_tbl[219]? = some (Cond.fieldLink RX6 9 (TX6 0).1 (TX6 0).2.1 (TX6 0).2.2.1) := by decide +kernel
theorem zf_X6_15 : lw_tbl[220]? = some (Cond.fieldLink RX6 15 (TX6 1).1 (TX6 1).2.1 (TX6 1).2.2.1) := by decide +kernel
theorem lk_X0_3_o : Cond.methodLink RX0 3 Lib.objectInit ∈ lw_tbl := mi 199 (by decide +kernel)
theorem zf_X0_9 : lw_tbl[201]? = some (Cond.fieldLink RX0 9 (TX0 1).1 (TX0 1).2.1 (TX0 1).2.2.1) := by decide +kernel
theorem zf_X0_15 : lw_tbl[202]? = some (Cond.fieldLink RX0 15 (TX0 2).1 (TX0 2).2.1 (TX0 2).2.2.1) := by decide +kernel
theorem zf_X0_19 : lw_tbl[203]? = some (Cond.fieldLink RX0 19 (TX0 3).1 (TX0 3).2.1 (TX0 3).2.2.1) := by decide +kernel
theorem zf_X0_22 : lw_tbl[200]? = some (Cond.fieldLink RX0 22 (TX0 0).1 (TX0 0).2.1 (TX0 0).2.2.1) := by decide +kernel
theorem lk_X5_3_o : Cond.methodLink RX5 3 Lib.objectInit ∈ lw_tbl := mi 290 (by decide +kernel)
theorem zf_X5_9 : lw_tbl[302]? = some (Cond.fieldLink RX5 9 (TX5 4).1 (TX5 4).2.1 (TX5 4).2.2.1) := by decide +kernel
theorem zf_X5_15 : lw_tbl[306]? = some (Cond.fieldLink RX5 15 (TX5 7).1 (TX5 7).2.1 (TX5 7).2.2.1) := by decide +kernel
theorem zf_X5_19 : lw_tbl[295]? = some (Cond.fieldLink RX5 19 (TX5 0).1 (TX5 0).2.1 (TX5 0).2.2.1) := by decide +kernel
theorem zf_X5_22 : lw_tbl[297]? = some (Cond.fieldLink RX5 22 (TX5 1).1 (TX5 1).2.1 (TX5 1).2.2.1) := by decide +kernel
theorem cl_X5_26 : Cond.classLink RX5 26 RX0 ∈ lw_tbl := mi 291 (by decide +kernel)
theorem is_X0 : Cond.instantiable RX0 4 ∈ lw_tbl := mi 195 (by decide +kernel)
theorem ni_X0 : Cond.initialized RX0 ∈ lw_tbl := mi 65 (by decide +kernel)
theorem lk_X5_28_c : Cond.methodLink RX5 28 yX0_init ∈ lw_tbl := mi 292 (by decide +kernel)
theorem co_X0 : Cond.code yX0_init cX0_init 3 none ∈ lw_tbl := mi 198 (by decide +kernel)
theorem im_X0 : Cond.instanceMethod yX0_init ∈ lw_tbl := mi 197 (by decide +kernel)
theorem pd_X0 : yX0_init.cls ≠ "java/lang/invoke/MethodHandle" ∧ yX0_init.cls ≠ "java/lang/invoke/VarHandle" ∧ (parseMethodDescriptor yX0_init.desc).map (fun d => d.parameters.length) = some 1 := ⟨by decide +kernel, by decide +kernel, by decide +kernel⟩
theorem zf_X5_31 : lw_tbl[298]? = some (Cond.fieldLink RX5 31 (TX5 2).1 (TX5 2).2.1 (TX5 2).2.2.1) := by decide +kernel
theorem cl_X5_35 : Cond.classLink RX5 35 RX6 ∈ lw_tbl := mi 293 (by decide +kernel)
theorem is_X6 : Cond.instantiable RX6 2 ∈ lw_tbl := mi 214 (by decide +kernel)
theorem ni_X6 : Cond.initialized RX6 ∈ lw_tbl := mi 66 (by decide +kernel)
theorem lk_X5_37_c : Cond.methodLink RX5 37 yX6_init ∈ lw_tbl := mi 294 (by decide +kernel)
theorem co_X6 : Cond.code yX6_init cX6_init 3 none ∈ lw_tbl := mi 217 (by decide +kernel)
theorem im_X6 : Cond.instanceMethod yX6_init ∈ lw_tbl := mi 216 (by decide +kernel)
theorem pd_X6 : yX6_init.cls ≠ "java/lang/invoke/MethodHandle" ∧ yX6_init.cls ≠ "java/lang/invoke/VarHandle" ∧ (parseMethodDescriptor yX6_init.desc).map (fun d => d.parameters.length) = some 2 := ⟨by decide +kernel, by decide +kernel, by decide +kernel⟩
theorem zf_X5_40 : lw_tbl[300]? = some (Cond.fieldLink RX5 40 (TX5 3).1 (TX5 3).2.1 (TX5 3).2.2.1) := by decide +kernel
theorem lk_X3_3_o : Cond.methodLink RX3 3 Lib.objectInit ∈ lw_tbl := mi 193 (by decide +kernel)
theorem zf_X3_9 : lw_tbl[231]? = some (Cond.fieldLink RX3 9 (TX3 4).1 (TX3 4).2.1 (TX3 4).2.2.1) := by decide +kernel
theorem zf_X3_15 : lw_tbl[232]? = some (Cond.fieldLink RX3 15 (TX3 5).1 (TX3 5).2.1 (TX3 5).2.2.1) := by decide +kernel
theorem zf_X3_18 : lw_tbl[233]? = some (Cond.fieldLink RX3 18 (TX3 6).1 (TX3 6).2.1 (TX3 6).2.2.1) := by decide +kernel
theorem zf_X3_21 : lw_tbl[227]? = some (Cond.fieldLink RX3 21 (TX3 0).1 (TX3 0).2.1 (TX3 0).2.2.1) := by decide +kernel
theorem cl_X3_25 : Cond.classLink RX3 25 RX0 ∈ lw_tbl := mi 194 (by decide +kernel)
theorem lk_X3_27_c : Cond.methodLink RX3 27 yX0_init ∈ lw_tbl := mi 196 (by decide +kernel)
theorem zf_X3_30 : lw_tbl[228]? = some (Cond.fieldLink RX3 30 (TX3 1).1 (TX3 1).2.1 (TX3 1).2.2.1) := by decide +kernel
theorem zf_X3_34 : lw_tbl[229]? = some (Cond.fieldLink RX3 34 (TX3 2).1 (TX3 2).2.1 (TX3 2).2.2.1) := by decide +kernel
theorem cl_X3_37 : Cond.classLink RX3 37 RX6 ∈ lw_tbl := mi 213 (by decide +kernel)
theorem lk_X3_39_c : Cond.methodLink RX3 39 yX6_init ∈ lw_tbl := mi 215 (by decide +kernel)
theorem zf_X3_42 : lw_tbl[230]? = some (Cond.fieldLink RX3 42 (TX3 3).1 (TX3 3).2.1 (TX3 3).2.2.1) := by decide +kernel
theorem lk_X7_3_o : Cond.methodLink RX7 3 Lib.objectInit ∈ lw_tbl := mi 89 (by decide +kernel)
theorem cl_X7_9 : Cond.classLink RX7 9 RX1 ∈ lw_tbl := mi 92 (by decide +kernel)
theorem is_X1 : Cond.instantiable RX1 13 ∈ lw_tbl := mi 93 (by decide +kernel)
theorem ni_X1 : Cond.initialized RX1 ∈ lw_tbl := mi 62 (by decide +kernel)
theorem lk_X7_11_c : Cond.methodLinkNest RX7 11 yX1_init "Plugboard" ∈ lw_tbl := mi 94 (by decide +kernel)
theorem co_X1 : Cond.code yX1_init cX1_init 1 none ∈ lw_tbl := mi 96 (by decide +kernel)
theorem im_X1 : Cond.instanceMethod yX1_init ∈ lw_tbl := mi 95 (by decide +kernel)
theorem pd_X1 : yX1_init.cls ≠ "java/lang/invoke/MethodHandle" ∧ yX1_init.cls ≠ "java/lang/invoke/VarHandle" ∧ (parseMethodDescriptor yX1_init.desc).map (fun d => d.parameters.length) = some 0 := ⟨by decide +kernel, by decide +kernel, by decide +kernel⟩
theorem zf_X7_12 : lw_tbl[324]? = some (Cond.fieldLink RX7 12 (TX7 0).1 (TX7 0).2.1 (TX7 0).2.2.1) := by decide +kernel
theorem cl_X7_16 : Cond.classLink RX7 16 RX2 ∈ lw_tbl := mi 149 (by decide +kernel)
theorem is_X2 : Cond.instantiable RX2 9 ∈ lw_tbl := mi 150 (by decide +kernel)
theorem ni_X2 : Cond.initialized RX2 ∈ lw_tbl := mi 63 (by decide +kernel)
theorem lk_X7_18_c : Cond.methodLinkNest RX7 18 yX2_init "Plugboard" ∈ lw_tbl := mi 151 (by decide +kernel)
theorem co_X2 : Cond.code yX2_init cX2_init 1 none ∈ lw_tbl := mi 153 (by decide +kernel)
theorem im_X2 : Cond.instanceMethod yX2_init ∈ lw_tbl := mi 152 (by decide +kernel)
theorem pd_X2 : yX2_init.cls ≠ "java/lang/invoke/MethodHandle" ∧ yX2_init.cls ≠ "java/lang/invoke/VarHandle" ∧ (parseMethodDescriptor yX2_init.desc).map (fun d => d.parameters.length) = some 0 := ⟨by decide +kernel, by decide +kernel, by decide +kernel⟩
theorem zf_X7_19 : lw_tbl[325]? = some (Cond.fieldLink RX7 19 (TX7 1).1 (TX7 1).2.1 (TX7 1).2.2.1) := by decide +kernel
theorem cl_X7_23 : Cond.classLink RX7 23 RX5 ∈ lw_tbl := mi 186 (by decide +kernel)
theorem zf_X7_25 : lw_tbl[326]? = some (Cond.fieldLink RX7 25 (TX7 2).1 (TX7 2).2.1 (TX7 2).2.2.1) := by decide +kernel
theorem cl_X7_29 : Cond.classLink RX7 29 RX3 ∈ lw_tbl := mi 188 (by decide +kernel)
theorem is_X3 : Cond.instantiable RX3 8 ∈ lw_tbl := mi 189 (by decide +kernel)
theorem ni_X3 : Cond.initialized RX3 ∈ lw_tbl := mi 64 (by decide +kernel)
theorem lk_X7_31_c : Cond.methodLink RX7 31 yX3_init ∈ lw_tbl := mi 190 (by decide +kernel)
theorem co_X3 : Cond.code yX3_init cX3_init 3 none ∈ lw_tbl := mi 192 (by decide +kernel)
theorem im_X3 : Cond.instanceMethod yX3_init ∈ lw_tbl := mi 191 (by decide +kernel)
theorem pd_X3 : yX3_init.cls ≠ "java/lang/invoke/MethodHandle" ∧ yX3_init.cls ≠ "java/lang/invoke/VarHandle" ∧ (parseMethodDescriptor yX3_init.desc).map (fun d => d.parameters.length) = some 2 := ⟨by decide +kernel, by decide +kernel, by decide +kernel⟩
theorem zf_X7_34 : lw_tbl[327]? = some (Cond.fieldLink RX7 34 (TX7 3).1 (TX7 3).2.1 (TX7 3).2.2.1) := by decide +kernel
theorem cl_X7_38 : Cond.classLink RX7 38 RX4 ∈ lw_tbl := mi 252 (by decide +kernel)
theorem is_X4 : Cond.instantiable RX4 9 ∈ lw_tbl := mi 253 (by decide +kernel)
theorem ni_X4 : Cond.initialized RX4 ∈ lw_tbl := mi 67 (by decide +kernel)
theorem lk_X7_40_c : Cond.methodLinkNest RX7 40 yX4_init "Plugboard" ∈ lw_tbl := mi 254 (by decide +kernel)
theorem co_X4 : Cond.code yX4_init cX4_init 1 none ∈ lw_tbl := mi 256 (by decide +kernel)
theorem im_X4 : Cond.instanceMethod yX4_init ∈ lw_tbl := mi 255 (by decide +kernel)
theorem pd_X4 : yX4_init.cls ≠ "java/lang/invoke/MethodHandle" ∧ yX4_init.cls ≠ "java/lang/invoke/VarHandle" ∧ (parseMethodDescriptor yX4_init.desc).map (fun d => d.parameters.length) = some 0 := ⟨by decide +kernel, by decide +kernel, by decide +kernel⟩
theorem zf_X7_41 : lw_tbl[328]? = some (Cond.fieldLink RX7 41 (TX7 4).1 (TX7 4).2.1 (TX7 4).2.2.1) := by decide +kernel
theorem is_X5 : Cond.instantiable RX5 8 ∈ lw_tbl := mi 286 (by decide +kernel)
theorem ni_X5 : Cond.initialized RX5 ∈ lw_tbl := mi 68 (by decide +kernel)
theorem lk_X7_45_c : Cond.methodLink RX7 45 yX5_init ∈ lw_tbl := mi 287 (by decide +kernel)
theorem co_X5 : Cond.code yX5_init cX5_init 4 none ∈ lw_tbl := mi 289 (by decide +kernel)
theorem im_X5 : Cond.instanceMethod yX5_init ∈ lw_tbl := mi 288 (by decide +kernel)
theorem pd_X5 : yX5_init.cls ≠ "java/lang/invoke/MethodHandle" ∧ yX5_init.cls ≠ "java/lang/invoke/VarHandle" ∧ (parseMethodDescriptor yX5_init.desc).map (fun d => d.parameters.length) = some 3 := ⟨by decide +kernel, by decide +kernel, by decide +kernel⟩
theorem lk_X8_3_o : Cond.methodLink RX8 3 Lib.objectInit ∈ lw_tbl := mi 1349 (by decide +kernel)
theorem zf_X8_9 : lw_tbl[1355]? = some (Cond.fieldLink RX8 9 (TX8 1).1 (TX8 1).2.1 (TX8 1).2.2.1) := by decide +kernel
theorem zf_X8_13 : lw_tbl[1356]? = some (Cond.fieldLink RX8 13 (TX8 2).1 (TX8 2).2.1 (TX8 2).2.2.1) := by decide +kernel
theorem zf_X8_16 : lw_tbl[1357]? = some (Cond.fieldLink RX8 16 (TX8 3).1 (TX8 3).2.1 (TX8 3).2.2.1) := by decide +kernel
theorem zf_X8_19 : lw_tbl[1358]? = some (Cond.fieldLink RX8 19 (TX8 4).1 (TX8 4).2.1 (TX8 4).2.2.1) := by decide +kernel
theorem zf_X8_22 : lw_tbl[1359]? = some (Cond.fieldLink RX8 22 (TX8 5).1 (TX8 5).2.1 (TX8 5).2.2.1) := by decide +kernel
theorem zf_X8_26 : lw_tbl[1360]? = some (Cond.fieldLink RX8 26 (TX8 6).1 (TX8 6).2.1 (TX8 6).2.2.1) := by decide +kernel
theorem zf_X8_30 : lw_tbl[1361]? = some (Cond.fieldLink RX8 30 (TX8 7).1 (TX8 7).2.1 (TX8 7).2.2.1) := by decide +kernel
theorem zf_X8_33 : lw_tbl[1364]? = some (Cond.fieldLink RX8 33 (TX8 10).1 (TX8 10).2.1 (TX8 10).2.2.1) := by decide +kernel
theorem zf_X8_36 : lw_tbl[1365]? = some (Cond.fieldLink RX8 36 (TX8 11).1 (TX8 11).2.1 (TX8 11).2.2.1) := by decide +kernel
theorem zf_X8_39 : lw_tbl[1366]? = some (Cond.fieldLink RX8 39 (TX8 12).1 (TX8 12).2.1 (TX8 12).2.2.1) := by decide +kernel
theorem cl_X8_42 : Cond.classLink RX8 42 ("[" ++ (FieldType.array .int).toString) ∈ lw_tbl := mi 1350 (by decide +kernel)
theorem zf_X8_44 : lw_tbl[1367]? = some (Cond.fieldLink RX8 44 (TX8 13).1 (TX8 13).2.1 (TX8 13).2.2.1) := by decide +kernel
theorem zf_X8_47 : lw_tbl[1368]? = some (Cond.fieldLink RX8 47 (TX8 14).1 (TX8 14).2.1 (TX8 14).2.2.1) := by decide +kernel
theorem zf_X8_50 : lw_tbl[1369]? = some (Cond.fieldLink RX8 50 (TX8 15).1 (TX8 15).2.1 (TX8 15).2.2.1) := by decide +kernel
theorem zf_X8_53 : lw_tbl[1370]? = some (Cond.fieldLink RX8 53 (TX8 16).1 (TX8 16).2.1 (TX8 16).2.2.1) := by decide +kernel
theorem zf_X8_56 : lw_tbl[1371]? = some (Cond.fieldLink RX8 56 (TX8 17).1 (TX8 17).2.1 (TX8 17).2.2.1) := by decide +kernel
theorem zf_X8_59 : lw_tbl[1372]? = some (Cond.fieldLink RX8 59 (TX8 18).1 (TX8 18).2.1 (TX8 18).2.2.1) := by decide +kernel
theorem cl_X8_62 : Cond.classLink RX8 62 ("[" ++ (FieldType.array .boolean).toString) ∈ lw_tbl := mi 1352 (by decide +kernel)
theorem zf_X8_64 : lw_tbl[1373]? = some (Cond.fieldLink RX8 64 (TX8 19).1 (TX8 19).2.1 (TX8 19).2.2.1) := by decide +kernel
theorem zf_X8_67 : lw_tbl[1375]? = some (Cond.fieldLink RX8 67 (TX8 21).1 (TX8 21).2.1 (TX8 21).2.2.1) := by decide +kernel
theorem zf_X8_70 : lw_tbl[1376]? = some (Cond.fieldLink RX8 70 (TX8 22).1 (TX8 22).2.1 (TX8 22).2.2.1) := by decide +kernel
theorem zf_X8_73 : lw_tbl[1377]? = some (Cond.fieldLink RX8 73 (TX8 23).1 (TX8 23).2.1 (TX8 23).2.2.1) := by decide +kernel
theorem zf_X8_76 : lw_tbl[1378]? = some (Cond.fieldLink RX8 76 (TX8 24).1 (TX8 24).2.1 (TX8 24).2.2.1) := by decide +kernel
theorem zf_X8_79 : lw_tbl[1379]? = some (Cond.fieldLink RX8 79 (TX8 25).1 (TX8 25).2.1 (TX8 25).2.2.1) := by decide +kernel
theorem zf_X8_82 : lw_tbl[1380]? = some (Cond.fieldLink RX8 82 (TX8 26).1 (TX8 26).2.1 (TX8 26).2.2.1) := by decide +kernel
theorem zf_X8_85 : lw_tbl[1382]? = some (Cond.fieldLink RX8 85 (TX8 28).1 (TX8 28).2.1 (TX8 28).2.2.1) := by decide +kernel
theorem zf_X8_88 : lw_tbl[1383]? = some (Cond.fieldLink RX8 88 (TX8 29).1 (TX8 29).2.1 (TX8 29).2.2.1) := by decide +kernel
theorem zf_X8_91 : lw_tbl[1384]? = some (Cond.fieldLink RX8 91 (TX8 30).1 (TX8 30).2.1 (TX8 30).2.2.1) := by decide +kernel
theorem zf_X8_94 : lw_tbl[1385]? = some (Cond.fieldLink RX8 94 (TX8 31).1 (TX8 31).2.1 (TX8 31).2.2.1) := by decide +kernel
