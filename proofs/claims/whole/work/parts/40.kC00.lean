/-! Contracts, by program. -/
set_option maxRecDepth 100000 in
theorem kJxf58ca_isNaN_12338 {Γ : Gm} {S : List (String × Nat × String)} {l : Launch} {N : Nat} {σ : St} {x1 : UInt32} {r : Int32}  (hf : fJxf58ca_isNaN_12338 N σ x1 = some r) : CT Γ S l yJxf58ca_isNaN_12338 cJxf58ca_isNaN_12338 1 (some (.boolean)) 0 0 0 0 [.float x1] (some (.int r)) σ σ := by
  unfold fJxf58ca_isNaN_12338 at hf
  refine ct_bodyF (lv := [(0, .float x1)]) (by decide +kernel) rfl (Nat.le_of_ble_eq_true rfl) ?_
  intro p e s m below meth c ls X hr hk hK hw hl
  have hx := X.1
  have hb := X.2.1
  have hown := X.2.2.2
  refine lv_fload_n hx hb dJxf58ca_isNaN_12338_0 rfl (lv_at hl 0 rfl) ?_
  refine lv_fload_n hx hb dJxf58ca_isNaN_12338_1 rfl (lv_at hl 0 rfl) ?_
  refine lv_fcmp hx hb dJxf58ca_isNaN_12338_2 ?_
  refine q_if_eq (tgt := 10) hx hb hf dJxf58ca_isNaN_12338_3 (by decide) (fun hf => ?_) (fun hf => ?_)
  · refine lv_iconst (v := 0) hx hb dJxf58ca_isNaN_12338_10 (by decide) ?_
    exact q_iret hf hx hb hr rfl hk hw dJxf58ca_isNaN_12338_11 (Nat.le_of_ble_eq_true rfl) (Nat.le_of_ble_eq_true rfl)
  refine lv_iconst (v := 1) hx hb dJxf58ca_isNaN_12338_6 (by decide) ?_
  refine lv_goto (tgt := 11) hx hb dJxf58ca_isNaN_12338_7 (by decide) ?_
  exact q_iret hf hx hb hr rfl hk hw dJxf58ca_isNaN_12338_11 (Nat.le_of_ble_eq_true rfl) (Nat.le_of_ble_eq_true rfl)
set_option maxRecDepth 100000 in
theorem kJxf58ca_floatToIntBits_5c35a {Γ : Gm} {S : List (String × Nat × String)} {l : Launch} {N : Nat} {σ : St} {x1 : UInt32} {r : Int32}  (hf : fJxf58ca_floatToIntBits_5c35a N σ x1 = some r) : CT Γ S l yJxf58ca_floatToIntBits_5c35a cJxf58ca_floatToIntBits_5c35a 1 (some (.int)) 1 60 0 0 [.float x1] (some (.int r)) σ σ := by
  unfold fJxf58ca_floatToIntBits_5c35a at hf
  refine ct_bodyF (lv := [(0, .float x1)]) (by decide +kernel) rfl (Nat.le_of_ble_eq_true rfl) ?_
  intro p e s m below meth c ls X hr hk hK hw hl
  have hx := X.1
  have hb := X.2.1
  have hown := X.2.2.2
  refine lv_fload_n hx hb dJxf58ca_floatToIntBits_5c35a_0 rfl (lv_at hl 0 rfl) ?_
  refine q_pI hf hw (fun v h => q_rS (As := [.float x1]) (rest := []) X hK hw (kJxf58ca_isNaN_12338 h) msJxf58ca_isNaN_12338 lk_Jxf58ca_59 ⟨Nat.le_of_ble_eq_true rfl, Nat.le_of_ble_eq_true rfl⟩ rfl hl.1 rfl (Nat.le_of_ble_eq_true rfl) dJxf58ca_floatToIntBits_5c35a_1 ⟨Nat.le_of_ble_eq_true rfl, Nat.le_of_ble_eq_true rfl⟩) (fun v1 H locs hf hw => ?_)
  refine q_if_ne (tgt := 12) hx hb hf dJxf58ca_floatToIntBits_5c35a_4 (by decide) (fun hf => ?_) (fun hf => ?_)
  · refine lv_ldc (v := 2143289344) hx hb hown (kw_at hK.2.2.2.2.1 1521 (by decide +kernel) rfl) dJxf58ca_floatToIntBits_5c35a_12 ?_
    exact q_iret hf hx hb hr rfl hk hw dJxf58ca_floatToIntBits_5c35a_14 (Nat.le_of_ble_eq_true rfl) (Nat.le_of_ble_eq_true rfl)
  refine lv_fload_n hx hb dJxf58ca_floatToIntBits_5c35a_7 rfl (lv_at hl 0 rfl) ?_
  refine q_f2ib hx hb hl.1 X hK lk_Jxf58ca_74 dJxf58ca_floatToIntBits_5c35a_8 (Nat.le_of_ble_eq_true rfl) (Nat.le_of_ble_eq_true rfl) ?_
  exact q_iret hf hx hb hr rfl hk hw dJxf58ca_floatToIntBits_5c35a_11 (Nat.le_of_ble_eq_true rfl) (Nat.le_of_ble_eq_true rfl)
set_option maxRecDepth 100000 in
theorem kX8_thrown {Γ : Gm} {S : List (String × Nat × String)} {l : Launch} {N : Nat} {σ : St} {r : Int32}  (hf : fX8_thrown N σ = some r) : CT Γ S l yX8_thrown cX8_thrown 1 (some (.int)) 0 0 0 0 [.ref (ga Γ 8 0)] (some (.int r)) σ σ := by
  unfold fX8_thrown at hf
  refine ct_body (lv := [(0, .ref (ga Γ 8 0))]) (by decide +kernel) rfl (Nat.le_of_ble_eq_true rfl) ?_
  intro p e s m below meth c ls X hr hk hK hw hl
  have hx := X.1
  have hb := X.2.1
  have hown := X.2.2.2
  refine lv_aload_n hx hb dX8_thrown_0 rfl (lv_at hl 0 rfl) ?_
  refine q_get (v := .int (gI σ 8 0 0)) hx hb hK hw hown in_X8 ins_X8 (rfl : vwCl[10]? = some (RX8, TX8, 32)) rfl (Nat.le_of_ble_eq_true rfl : 0 < cnt (gn Γ) 8) 0 (by decide) 1354 fl_X8_97 rfl rfl dX8_thrown_1 ?_
  exact q_iret hf hx hb hr rfl hk hw dX8_thrown_4 (Nat.le_of_ble_eq_true rfl) (Nat.le_of_ble_eq_true rfl)
set_option maxRecDepth 100000 in
theorem kX8_fails {Γ : Gm} {S : List (String × Nat × String)} {l : Launch} {N : Nat} {σ τ : St} {x1 : Int32} {r : Int32}  (hf : fX8_fails N σ x1 = some (r, τ)) : CT Γ S l yX8_fails cX8_fails 2 (some (.int)) 0 0 0 0 [.ref (ga Γ 8 0), .int x1] (some (.int r)) σ τ := by
  unfold fX8_fails at hf
  refine ct_body (lv := [(0, .ref (ga Γ 8 0)), (1, .int x1)]) (by decide +kernel) rfl (Nat.le_of_ble_eq_true rfl) ?_
  intro p e s m below meth c ls X hr hk hK hw hl
  have hx := X.1
  have hb := X.2.1
  have hown := X.2.2.2
  refine lv_aload_n hx hb dX8_fails_0 rfl (lv_at hl 0 rfl) ?_
  refine lv_iload_n hx hb dX8_fails_1 rfl (lv_at hl 1 rfl) ?_
  refine q_puti (v := x1) hx hb hK hw hown in_X8 ins_X8 tyX8 tyX8_ok nmX8 (rfl : vwCl[10]? = some (RX8, TX8, 32)) (fun _ _ _ => rfl) (Nat.le_of_ble_eq_true rfl : 0 < cnt (gn Γ) 8) 0 (by decide) 1354 fl_X8_97 rfl rfl rfl (fun _ _ _ => Nat.le_of_ble_eq_true rfl) (fun _ _ _ => rfl) hf dX8_fails_2 (fun σ1 H locs hf hw => ?_)
  refine lv_iconst (v := 0) hx hb dX8_fails_5 (by decide) ?_
  exact q_eiret hf hx hb hr rfl hk hw dX8_fails_6 (Nat.le_of_ble_eq_true rfl) (Nat.le_of_ble_eq_true rfl)
set_option maxRecDepth 100000 in
theorem kX8_isWrong {Γ : Gm} {S : List (String × Nat × String)} {l : Launch} {N : Nat} {σ τ : St} {x1 : Int32} {r : Int32}  (hf : fX8_isWrong N σ x1 = some (r, τ)) : CT Γ S l yX8_isWrong cX8_isWrong 2 (some (.boolean)) 0 0 0 0 [.ref (ga Γ 8 0), .int x1] (some (.int r)) σ τ := by
  unfold fX8_isWrong at hf
  refine ct_body (lv := [(0, .ref (ga Γ 8 0)), (1, .int x1)]) (by decide +kernel) rfl (Nat.le_of_ble_eq_true rfl) ?_
  intro p e s m below meth c ls X hr hk hK hw hl
  have hx := X.1
  have hb := X.2.1
  have hown := X.2.2.2
  refine lv_aload_n hx hb dX8_isWrong_0 rfl (lv_at hl 0 rfl) ?_
  refine lv_iload_n hx hb dX8_isWrong_1 rfl (lv_at hl 1 rfl) ?_
  refine q_puti (v := x1) hx hb hK hw hown in_X8 ins_X8 tyX8 tyX8_ok nmX8 (rfl : vwCl[10]? = some (RX8, TX8, 32)) (fun _ _ _ => rfl) (Nat.le_of_ble_eq_true rfl : 0 < cnt (gn Γ) 8) 0 (by decide) 1354 fl_X8_97 rfl rfl rfl (fun _ _ _ => Nat.le_of_ble_eq_true rfl) (fun _ _ _ => rfl) hf dX8_isWrong_2 (fun σ1 H locs hf hw => ?_)
  refine lv_iconst (v := 0) hx hb dX8_isWrong_5 (by decide) ?_
  exact q_eiret hf hx hb hr rfl hk hw dX8_isWrong_6 (Nat.le_of_ble_eq_true rfl) (Nat.le_of_ble_eq_true rfl)
set_option maxRecDepth 100000 in
theorem kX8_isBetween {Γ : Gm} {S : List (String × Nat × String)} {l : Launch} {N : Nat} {σ : St} {x1 : Int32} {x2 : Int32} {x3 : Int32} {r : Int32}  (hf : fX8_isBetween N σ x1 x2 x3 = some r) : CT Γ S l yX8_isBetween cX8_isBetween 3 (some (.boolean)) 0 0 0 0 [.int x1, .int x2, .int x3] (some (.int r)) σ σ := by
  unfold fX8_isBetween at hf
  refine ct_body (lv := [(0, .int x1), (1, .int x2), (2, .int x3)]) (by decide +kernel) rfl (Nat.le_of_ble_eq_true rfl) ?_
  intro p e s m below meth c ls X hr hk hK hw hl
  have hx := X.1
  have hb := X.2.1
  have hown := X.2.2.2
  refine lv_iload_n hx hb dX8_isBetween_0 rfl (lv_at hl 1 rfl) ?_
  refine lv_iload_n hx hb dX8_isBetween_1 rfl (lv_at hl 0 rfl) ?_
  refine q_ic_gt (tgt := 14) hx hb hf dX8_isBetween_2 (by decide) (fun hf => ?_) (fun hf => ?_)
  · refine lv_iconst (v := 0) hx hb dX8_isBetween_14 (by decide) ?_
    exact q_iret hf hx hb hr rfl hk hw dX8_isBetween_15 (Nat.le_of_ble_eq_true rfl) (Nat.le_of_ble_eq_true rfl)
  refine lv_iload_n hx hb dX8_isBetween_5 rfl (lv_at hl 0 rfl) ?_
  refine lv_iload_n hx hb dX8_isBetween_6 rfl (lv_at hl 2 rfl) ?_
  refine q_ic_gt (tgt := 14) hx hb hf dX8_isBetween_7 (by decide) (fun hf => ?_) (fun hf => ?_)
  · refine lv_iconst (v := 0) hx hb dX8_isBetween_14 (by decide) ?_
    exact q_iret hf hx hb hr rfl hk hw dX8_isBetween_15 (Nat.le_of_ble_eq_true rfl) (Nat.le_of_ble_eq_true rfl)
  refine lv_iconst (v := 1) hx hb dX8_isBetween_10 (by decide) ?_
  refine lv_goto (tgt := 15) hx hb dX8_isBetween_11 (by decide) ?_
  exact q_iret hf hx hb hr rfl hk hw dX8_isBetween_15 (Nat.le_of_ble_eq_true rfl) (Nat.le_of_ble_eq_true rfl)
set_option maxRecDepth 100000 in
theorem kX8_isUser {Γ : Gm} {S : List (String × Nat × String)} {l : Launch} {N : Nat} {σ : St} {x1 : Int32} {r : Int32}  (hf : fX8_isUser N σ x1 = some r) : CT Γ S l yX8_isUser cX8_isUser 1 (some (.boolean)) 1 22 0 0 [.int x1] (some (.int r)) σ σ := by
  unfold fX8_isUser at hf
  refine ct_body (lv := [(0, .int x1)]) (by decide +kernel) rfl (Nat.le_of_ble_eq_true rfl) ?_
  intro p e s m below meth c ls X hr hk hK hw hl
  have hx := X.1
  have hb := X.2.1
  have hown := X.2.2.2
  refine lv_iload_n hx hb dX8_isUser_0 rfl (lv_at hl 0 rfl) ?_
  refine lv_iconst (v := 0) hx hb dX8_isUser_1 (by decide) ?_
  refine lv_iconst (v := 2) hx hb dX8_isUser_2 (by decide) ?_
  refine q_pI hf hw (fun v h => q_rS (As := [.int x1, .int (0 : Int32), .int (2 : Int32)]) (rest := []) X hK hw (kX8_isBetween h) msX8_isBetween lk_X8_101 ⟨Nat.le_of_ble_eq_true rfl, Nat.le_of_ble_eq_true rfl⟩ rfl hl.1 rfl (Nat.le_of_ble_eq_true rfl) dX8_isUser_3 ⟨Nat.le_of_ble_eq_true rfl, Nat.le_of_ble_eq_true rfl⟩) (fun v1 H locs hf hw => ?_)
  exact q_nret hf hx hb hr vn_Z hk hw dX8_isUser_6 (Nat.le_of_ble_eq_true rfl) (Nat.le_of_ble_eq_true rfl)
set_option maxRecDepth 100000 in
theorem kX8_isLater {Γ : Gm} {S : List (String × Nat × String)} {l : Launch} {N : Nat} {σ : St} {x1 : Int32} {x2 : Int32} {r : Int32}  (hf : fX8_isLater N σ x1 x2 = some r) : CT Γ S l yX8_isLater cX8_isLater 3 (some (.boolean)) 0 0 0 0 [.ref (ga Γ 8 0), .int x1, .int x2] (some (.int r)) σ σ := by
  unfold fX8_isLater at hf
  refine ct_body (lv := [(0, .ref (ga Γ 8 0)), (1, .int x1), (2, .int x2)]) (by decide +kernel) rfl (Nat.le_of_ble_eq_true rfl) ?_
  intro p e s m below meth c ls X hr hk hK hw hl
  have hx := X.1
  have hb := X.2.1
  have hown := X.2.2.2
  refine lv_iload_n hx hb dX8_isLater_0 rfl (lv_at hl 2 rfl) ?_
  refine lv_iconst (v := (-1)) hx hb dX8_isLater_1 (by decide) ?_
  refine q_ic_eq (tgt := 50) hx hb hf dX8_isLater_2 (by decide) (fun hf => ?_) (fun hf => ?_)
  · refine lv_iconst (v := 1) hx hb dX8_isLater_50 (by decide) ?_
    refine lv_goto (tgt := 55) hx hb dX8_isLater_51 (by decide) ?_
    exact q_iret hf hx hb hr rfl hk hw dX8_isLater_55 (Nat.le_of_ble_eq_true rfl) (Nat.le_of_ble_eq_true rfl)
  refine lv_aload_n hx hb dX8_isLater_5 rfl (lv_at hl 0 rfl) ?_
  refine q_get (v := .ref (ga Γ 148 0)) hx hb hK hw hown in_X8 ins_X8 (rfl : vwCl[10]? = some (RX8, TX8, 32)) rfl (Nat.le_of_ble_eq_true rfl : 0 < cnt (gn Γ) 8) 11 (by decide) 1365 fl_X8_36 rfl rfl dX8_isLater_6 ?_
  refine lv_iload_n hx hb dX8_isLater_9 rfl (lv_at hl 1 rfl) ?_
  refine q_iald hx hb hK hw (k := 148) (o := 0) (fun _ _ _ => rfl) (Nat.le_of_ble_eq_true rfl : 0 < cnt (gn Γ) 148) hf dX8_isLater_10 (fun hf => ?_)
  refine lv_aload_n hx hb dX8_isLater_11 rfl (lv_at hl 0 rfl) ?_
  refine q_get (v := .ref (ga Γ 148 0)) hx hb hK hw hown in_X8 ins_X8 (rfl : vwCl[10]? = some (RX8, TX8, 32)) rfl (Nat.le_of_ble_eq_true rfl : 0 < cnt (gn Γ) 8) 11 (by decide) 1365 fl_X8_36 rfl rfl dX8_isLater_12 ?_
  refine lv_iload_n hx hb dX8_isLater_15 rfl (lv_at hl 2 rfl) ?_
  refine q_iald hx hb hK hw (k := 148) (o := 0) (fun _ _ _ => rfl) (Nat.le_of_ble_eq_true rfl : 0 < cnt (gn Γ) 148) hf dX8_isLater_16 (fun hf => ?_)
  refine q_ic_gt (tgt := 50) hx hb hf dX8_isLater_17 (by decide) (fun hf => ?_) (fun hf => ?_)
  · refine lv_iconst (v := 1) hx hb dX8_isLater_50 (by decide) ?_
    refine lv_goto (tgt := 55) hx hb dX8_isLater_51 (by decide) ?_
    exact q_iret hf hx hb hr rfl hk hw dX8_isLater_55 (Nat.le_of_ble_eq_true rfl) (Nat.le_of_ble_eq_true rfl)
  refine lv_aload_n hx hb dX8_isLater_20 rfl (lv_at hl 0 rfl) ?_
  refine q_get (v := .ref (ga Γ 148 0)) hx hb hK hw hown in_X8 ins_X8 (rfl : vwCl[10]? = some (RX8, TX8, 32)) rfl (Nat.le_of_ble_eq_true rfl : 0 < cnt (gn Γ) 8) 11 (by decide) 1365 fl_X8_36 rfl rfl dX8_isLater_21 ?_
  refine lv_iload_n hx hb dX8_isLater_24 rfl (lv_at hl 1 rfl) ?_
  refine q_iald hx hb hK hw (k := 148) (o := 0) (fun _ _ _ => rfl) (Nat.le_of_ble_eq_true rfl : 0 < cnt (gn Γ) 148) hf dX8_isLater_25 (fun hf => ?_)
  refine lv_aload_n hx hb dX8_isLater_26 rfl (lv_at hl 0 rfl) ?_
  refine q_get (v := .ref (ga Γ 148 0)) hx hb hK hw hown in_X8 ins_X8 (rfl : vwCl[10]? = some (RX8, TX8, 32)) rfl (Nat.le_of_ble_eq_true rfl : 0 < cnt (gn Γ) 8) 11 (by decide) 1365 fl_X8_36 rfl rfl dX8_isLater_27 ?_
  refine lv_iload_n hx hb dX8_isLater_30 rfl (lv_at hl 2 rfl) ?_
  refine q_iald hx hb hK hw (k := 148) (o := 0) (fun _ _ _ => rfl) (Nat.le_of_ble_eq_true rfl : 0 < cnt (gn Γ) 148) hf dX8_isLater_31 (fun hf => ?_)
  refine q_ic_ne (tgt := 54) hx hb hf dX8_isLater_32 (by decide) (fun hf => ?_) (fun hf => ?_)
  · refine lv_iconst (v := 0) hx hb dX8_isLater_54 (by decide) ?_
    exact q_iret hf hx hb hr rfl hk hw dX8_isLater_55 (Nat.le_of_ble_eq_true rfl) (Nat.le_of_ble_eq_true rfl)
  refine lv_aload_n hx hb dX8_isLater_35 rfl (lv_at hl 0 rfl) ?_
  refine q_get (v := .ref (ga Γ 147 0)) hx hb hK hw hown in_X8 ins_X8 (rfl : vwCl[10]? = some (RX8, TX8, 32)) rfl (Nat.le_of_ble_eq_true rfl : 0 < cnt (gn Γ) 8) 10 (by decide) 1364 fl_X8_33 rfl rfl dX8_isLater_36 ?_
  refine lv_iload_n hx hb dX8_isLater_39 rfl (lv_at hl 1 rfl) ?_
  refine q_iald hx hb hK hw (k := 147) (o := 0) (fun _ _ _ => rfl) (Nat.le_of_ble_eq_true rfl : 0 < cnt (gn Γ) 147) hf dX8_isLater_40 (fun hf => ?_)
  refine lv_aload_n hx hb dX8_isLater_41 rfl (lv_at hl 0 rfl) ?_
  refine q_get (v := .ref (ga Γ 147 0)) hx hb hK hw hown in_X8 ins_X8 (rfl : vwCl[10]? = some (RX8, TX8, 32)) rfl (Nat.le_of_ble_eq_true rfl : 0 < cnt (gn Γ) 8) 10 (by decide) 1364 fl_X8_33 rfl rfl dX8_isLater_42 ?_
  refine lv_iload_n hx hb dX8_isLater_45 rfl (lv_at hl 2 rfl) ?_
  refine q_iald hx hb hK hw (k := 147) (o := 0) (fun _ _ _ => rfl) (Nat.le_of_ble_eq_true rfl : 0 < cnt (gn Γ) 147) hf dX8_isLater_46 (fun hf => ?_)
  refine q_ic_le (tgt := 54) hx hb hf dX8_isLater_47 (by decide) (fun hf => ?_) (fun hf => ?_)
  · refine lv_iconst (v := 0) hx hb dX8_isLater_54 (by decide) ?_
    exact q_iret hf hx hb hr rfl hk hw dX8_isLater_55 (Nat.le_of_ble_eq_true rfl) (Nat.le_of_ble_eq_true rfl)
  refine lv_iconst (v := 1) hx hb dX8_isLater_50 (by decide) ?_
  refine lv_goto (tgt := 55) hx hb dX8_isLater_51 (by decide) ?_
  exact q_iret hf hx hb hr rfl hk hw dX8_isLater_55 (Nat.le_of_ble_eq_true rfl) (Nat.le_of_ble_eq_true rfl)
set_option maxRecDepth 100000 in
theorem kX8_empties {Γ : Gm} {S : List (String × Nat × String)} {l : Launch} {N : Nat} {σ τ : St}  (hf : fX8_empties N σ = some τ) : CT Γ S l yX8_empties cX8_empties 2 none 1 22 0 0 [.ref (ga Γ 8 0)] none σ τ := by
  unfold fX8_empties at hf
  refine ct_body (lv := [(0, .ref (ga Γ 8 0))]) (by decide +kernel) rfl (Nat.le_of_ble_eq_true rfl) ?_
  intro p e s m below meth c ls X hr hk hK hw hl
  have hx := X.1
  have hb := X.2.1
  have hown := X.2.2.2
  refine lv_iconst (v := 0) hx hb dX8_empties_0 (by decide) ?_
  refine lv_istore_n (lv' := [(1, .int (0 : Int32)), (0, .ref (ga Γ 8 0))]) hx hb dX8_empties_1 rfl hl (by decide) rfl (fun ls hl => ?_)
  have L2 : ∀ (K : Int32 → St → Option (St)) (hkk : ∀ (y1 : Int32) (σq : St) (H : Heap) (locs : List Loc) (ls : Array Slot), K y1 σq = some τ → Sit Γ σq s H locs → lv_has ls 2 [] → W p l e { frames := 1, cells := 0, slots := 0, locals := 22 } s m [.ref (ga Γ 8 0)].toArray below meth c H locs 0 0 (MQ below (Qg Γ (none) τ (AA Γ s.heap.size)) [.ref (ga Γ 8 0)].toArray s 0 0 (AA Γ s.heap.size)) (F0 m 50 ls [])) (n : Nat) (v1 : Int32) (σ2 : St) (H : Heap) (locs : List Loc) (ls : Array Slot), fX8_empties_L2 K N n v1 σ2 = some τ → Sit Γ σ2 s H locs → lv_has ls 2 [(0, .ref (ga Γ 8 0)), (1, .int v1)] → W p l e { frames := 1, cells := 0, slots := 0, locals := 22 } s m [.ref (ga Γ 8 0)].toArray below meth c H locs 0 0 (MQ below (Qg Γ (none) τ (AA Γ s.heap.size)) [.ref (ga Γ 8 0)].toArray s 0 0 (AA Γ s.heap.size)) (F0 m 2 ls []) := by
    intro K hkk n
    induction n with
    | zero =>
      intro _ _ _ _ _ hf
      exact nomatch hf
    | succ n ih =>
      intro v1 σ2 H locs ls hf hw hl
      refine lv_iload_n hx hb dX8_empties_2 rfl (lv_at hl 1 rfl) ?_
      refine lv_bipush (v := 93) hx hb dX8_empties_3 (by decide) ?_
      refine q_ic_ge (tgt := 50) hx hb hf dX8_empties_5 (by decide) (fun hf => ?_) (fun hf => ?_)
      · exact hkk _ _ _ _ _ hf hw (lv_sub hl [] rfl)
      refine lv_aload_n hx hb dX8_empties_8 rfl (lv_at hl 0 rfl) ?_
      refine q_get (v := .ref (ga Γ 157 0)) hx hb hK hw hown in_X8 ins_X8 (rfl : vwCl[10]? = some (RX8, TX8, 32)) rfl (Nat.le_of_ble_eq_true rfl : 0 < cnt (gn Γ) 8) 21 (by decide) 1375 fl_X8_67 rfl rfl dX8_empties_9 ?_
      refine lv_iload_n hx hb dX8_empties_12 rfl (lv_at hl 1 rfl) ?_
      refine lv_iload_n hx hb dX8_empties_13 rfl (lv_at hl 1 rfl) ?_
      refine lv_bipush (v := 36) hx hb dX8_empties_14 (by decide) ?_
      refine lv_bipush (v := 47) hx hb dX8_empties_16 (by decide) ?_
      refine q_pI hf hw (fun v h => q_rS (As := [.int v1, .int (36 : Int32), .int (47 : Int32)]) (rest := [.int v1, .ref (ga Γ 157 0)]) X hK hw (kX8_isBetween h) msX8_isBetween lk_X8_101 ⟨Nat.le_of_ble_eq_true rfl, Nat.le_of_ble_eq_true rfl⟩ rfl hl.1 rfl (Nat.le_of_ble_eq_true rfl) dX8_empties_18 ⟨Nat.le_of_ble_eq_true rfl, Nat.le_of_ble_eq_true rfl⟩) (fun v3 H locs hf hw => ?_)
      refine q_if_eq (tgt := 28) hx hb hf dX8_empties_21 (by decide) (fun hf => ?_) (fun hf => ?_)
      · refine lv_iconst (v := 0) hx hb dX8_empties_28 (by decide) ?_
        refine q_iast hx hb hK hw (k := 157) (o := 0) (fun _ _ _ => rfl) (Nat.le_of_ble_eq_true rfl : 0 < cnt (gn Γ) 157) hf dX8_empties_29 (fun σ4 H locs hf hw => ?_)
        refine lv_aload_n hx hb dX8_empties_30 rfl (lv_at hl 0 rfl) ?_
        refine q_get (v := .ref (ga Γ 158 0)) hx hb hK hw hown in_X8 ins_X8 (rfl : vwCl[10]? = some (RX8, TX8, 32)) rfl (Nat.le_of_ble_eq_true rfl : 0 < cnt (gn Γ) 8) 22 (by decide) 1376 fl_X8_70 rfl rfl dX8_empties_31 ?_
        refine lv_iload_n hx hb dX8_empties_34 rfl (lv_at hl 1 rfl) ?_
        refine lv_iconst (v := (-1)) hx hb dX8_empties_35 (by decide) ?_
        refine q_iast hx hb hK hw (k := 158) (o := 0) (fun _ _ _ => rfl) (Nat.le_of_ble_eq_true rfl : 0 < cnt (gn Γ) 158) hf dX8_empties_36 (fun σ5 H locs hf hw => ?_)
        refine lv_aload_n hx hb dX8_empties_37 rfl (lv_at hl 0 rfl) ?_
        refine q_get (v := .ref (ga Γ 159 0)) hx hb hK hw hown in_X8 ins_X8 (rfl : vwCl[10]? = some (RX8, TX8, 32)) rfl (Nat.le_of_ble_eq_true rfl : 0 < cnt (gn Γ) 8) 23 (by decide) 1377 fl_X8_73 rfl rfl dX8_empties_38 ?_
        refine lv_iload_n hx hb dX8_empties_41 rfl (lv_at hl 1 rfl) ?_
        refine lv_iconst (v := (-1)) hx hb dX8_empties_42 (by decide) ?_
        refine q_iast hx hb hK hw (k := 159) (o := 0) (fun _ _ _ => rfl) (Nat.le_of_ble_eq_true rfl : 0 < cnt (gn Γ) 159) hf dX8_empties_43 (fun σ6 H locs hf hw => ?_)
        refine q_iinc (lv1 := [(0, .ref (ga Γ 8 0))]) (d := 1) hx hb hf dX8_empties_44 hl (k := 1) rfl (by decide) (by decide) rfl (fun v7 ls hf hl => ?_)
        refine lv_goto (tgt := 2) hx hb dX8_empties_47 (by decide) ?_
        exact ih _ _ _ _ _ hf hw (lv_sub hl [1, 0] rfl)
      refine lv_iconst (v := (-1)) hx hb dX8_empties_24 (by decide) ?_
      refine lv_goto (tgt := 29) hx hb dX8_empties_25 (by decide) ?_
      refine q_iast hx hb hK hw (k := 157) (o := 0) (fun _ _ _ => rfl) (Nat.le_of_ble_eq_true rfl : 0 < cnt (gn Γ) 157) hf dX8_empties_29 (fun σ8 H locs hf hw => ?_)
      refine lv_aload_n hx hb dX8_empties_30 rfl (lv_at hl 0 rfl) ?_
      refine q_get (v := .ref (ga Γ 158 0)) hx hb hK hw hown in_X8 ins_X8 (rfl : vwCl[10]? = some (RX8, TX8, 32)) rfl (Nat.le_of_ble_eq_true rfl : 0 < cnt (gn Γ) 8) 22 (by decide) 1376 fl_X8_70 rfl rfl dX8_empties_31 ?_
      refine lv_iload_n hx hb dX8_empties_34 rfl (lv_at hl 1 rfl) ?_
      refine lv_iconst (v := (-1)) hx hb dX8_empties_35 (by decide) ?_
      refine q_iast hx hb hK hw (k := 158) (o := 0) (fun _ _ _ => rfl) (Nat.le_of_ble_eq_true rfl : 0 < cnt (gn Γ) 158) hf dX8_empties_36 (fun σ9 H locs hf hw => ?_)
      refine lv_aload_n hx hb dX8_empties_37 rfl (lv_at hl 0 rfl) ?_
      refine q_get (v := .ref (ga Γ 159 0)) hx hb hK hw hown in_X8 ins_X8 (rfl : vwCl[10]? = some (RX8, TX8, 32)) rfl (Nat.le_of_ble_eq_true rfl : 0 < cnt (gn Γ) 8) 23 (by decide) 1377 fl_X8_73 rfl rfl dX8_empties_38 ?_
      refine lv_iload_n hx hb dX8_empties_41 rfl (lv_at hl 1 rfl) ?_
      refine lv_iconst (v := (-1)) hx hb dX8_empties_42 (by decide) ?_
      refine q_iast hx hb hK hw (k := 159) (o := 0) (fun _ _ _ => rfl) (Nat.le_of_ble_eq_true rfl : 0 < cnt (gn Γ) 159) hf dX8_empties_43 (fun σ10 H locs hf hw => ?_)
      refine q_iinc (lv1 := [(0, .ref (ga Γ 8 0))]) (d := 1) hx hb hf dX8_empties_44 hl (k := 1) rfl (by decide) (by decide) rfl (fun v11 ls hf hl => ?_)
      refine lv_goto (tgt := 2) hx hb dX8_empties_47 (by decide) ?_
      exact ih _ _ _ _ _ hf hw (lv_sub hl [1, 0] rfl)
  refine L2 _ (fun _ σ12 H locs ls hf hw hl => ?_) N (0 : Int32) σ _ _ _ hf hw (lv_sub hl [1, 0] rfl)
  exact q_vret hx hb hr hk hw dX8_empties_50 hf (Nat.le_of_ble_eq_true rfl) (Nat.le_of_ble_eq_true rfl)
set_option maxRecDepth 100000 in
theorem kX8_writes {Γ : Gm} {S : List (String × Nat × String)} {l : Launch} {N : Nat} {σ τ : St} {x1 : Int32} {x2 : Int32}  (hf : fX8_writes N σ x1 x2 = some τ) : CT Γ S l yX8_writes cX8_writes 3 none 0 0 0 0 [.ref (ga Γ 8 0), .int x1, .int x2] none σ τ := by
  unfold fX8_writes at hf
  refine ct_body (lv := [(0, .ref (ga Γ 8 0)), (1, .int x1), (2, .int x2)]) (by decide +kernel) rfl (Nat.le_of_ble_eq_true rfl) ?_
  intro p e s m below meth c ls X hr hk hK hw hl
  have hx := X.1
  have hb := X.2.1
  have hown := X.2.2.2
  refine lv_aload_n hx hb dX8_writes_0 rfl (lv_at hl 0 rfl) ?_
  refine q_get (v := .ref (ga Γ 157 0)) hx hb hK hw hown in_X8 ins_X8 (rfl : vwCl[10]? = some (RX8, TX8, 32)) rfl (Nat.le_of_ble_eq_true rfl : 0 < cnt (gn Γ) 8) 21 (by decide) 1375 fl_X8_67 rfl rfl dX8_writes_1 ?_
  refine lv_aload_n hx hb dX8_writes_4 rfl (lv_at hl 0 rfl) ?_
  refine q_get (v := .ref (ga Γ 150 0)) hx hb hK hw hown in_X8 ins_X8 (rfl : vwCl[10]? = some (RX8, TX8, 32)) rfl (Nat.le_of_ble_eq_true rfl : 0 < cnt (gn Γ) 8) 13 (by decide) 1367 fl_X8_44 rfl rfl dX8_writes_5 ?_
  refine lv_iload_n hx hb dX8_writes_8 rfl (lv_at hl 1 rfl) ?_
  have ho_b1 := inb_lt (ck_t hf).1
  refine q_aalA hx hb hK hw (k := 150) (o := 0) (fun _ _ _ => rfl) (Nat.le_of_ble_eq_true rfl : 0 < cnt (gn Γ) 150) hf dX8_writes_9 (fun hf => ?_)
  refine lv_iload_n hx hb dX8_writes_10 rfl (lv_at hl 2 rfl) ?_
  refine q_iald hx hb hK hw (k := 160) (o := (Int32.toNatClampNeg x1)) (fun _ _ _ => rfl) ho_b1 hf dX8_writes_11 (fun hf => ?_)
  refine lv_aload_n hx hb dX8_writes_12 rfl (lv_at hl 0 rfl) ?_
  refine q_get (v := .ref (ga Γ 151 0)) hx hb hK hw hown in_X8 ins_X8 (rfl : vwCl[10]? = some (RX8, TX8, 32)) rfl (Nat.le_of_ble_eq_true rfl : 0 < cnt (gn Γ) 8) 14 (by decide) 1368 fl_X8_47 rfl rfl dX8_writes_13 ?_
  refine lv_iload_n hx hb dX8_writes_16 rfl (lv_at hl 1 rfl) ?_
  have ho_b2 := inb_lt (ck_t hf).1
  refine q_aalA hx hb hK hw (k := 151) (o := 0) (fun _ _ _ => rfl) (Nat.le_of_ble_eq_true rfl : 0 < cnt (gn Γ) 151) hf dX8_writes_17 (fun hf => ?_)
  refine lv_iload_n hx hb dX8_writes_18 rfl (lv_at hl 2 rfl) ?_
  refine q_iald hx hb hK hw (k := 161) (o := (Int32.toNatClampNeg x1)) (fun _ _ _ => rfl) ho_b2 hf dX8_writes_19 (fun hf => ?_)
  refine q_iast hx hb hK hw (k := 157) (o := 0) (fun _ _ _ => rfl) (Nat.le_of_ble_eq_true rfl : 0 < cnt (gn Γ) 157) hf dX8_writes_20 (fun σ3 H locs hf hw => ?_)
  refine lv_aload_n hx hb dX8_writes_21 rfl (lv_at hl 0 rfl) ?_
  refine q_get (v := .ref (ga Γ 158 0)) hx hb hK hw hown in_X8 ins_X8 (rfl : vwCl[10]? = some (RX8, TX8, 32)) rfl (Nat.le_of_ble_eq_true rfl : 0 < cnt (gn Γ) 8) 22 (by decide) 1376 fl_X8_70 rfl rfl dX8_writes_22 ?_
  refine lv_aload_n hx hb dX8_writes_25 rfl (lv_at hl 0 rfl) ?_
  refine q_get (v := .ref (ga Γ 150 0)) hx hb hK hw hown in_X8 ins_X8 (rfl : vwCl[10]? = some (RX8, TX8, 32)) rfl (Nat.le_of_ble_eq_true rfl : 0 < cnt (gn Γ) 8) 13 (by decide) 1367 fl_X8_44 rfl rfl dX8_writes_26 ?_
  refine lv_iload_n hx hb dX8_writes_29 rfl (lv_at hl 1 rfl) ?_
  have ho_b4 := inb_lt (ck_t hf).1
  refine q_aalA hx hb hK hw (k := 150) (o := 0) (fun _ _ _ => rfl) (Nat.le_of_ble_eq_true rfl : 0 < cnt (gn Γ) 150) hf dX8_writes_30 (fun hf => ?_)
  refine lv_iload_n hx hb dX8_writes_31 rfl (lv_at hl 2 rfl) ?_
  refine q_iald hx hb hK hw (k := 160) (o := (Int32.toNatClampNeg x1)) (fun _ _ _ => rfl) ho_b4 hf dX8_writes_32 (fun hf => ?_)
  refine lv_iload_n hx hb dX8_writes_33 rfl (lv_at hl 1 rfl) ?_
  refine q_iast hx hb hK hw (k := 158) (o := 0) (fun _ _ _ => rfl) (Nat.le_of_ble_eq_true rfl : 0 < cnt (gn Γ) 158) hf dX8_writes_34 (fun σ5 H locs hf hw => ?_)
  refine lv_aload_n hx hb dX8_writes_35 rfl (lv_at hl 0 rfl) ?_
  refine q_get (v := .ref (ga Γ 159 0)) hx hb hK hw hown in_X8 ins_X8 (rfl : vwCl[10]? = some (RX8, TX8, 32)) rfl (Nat.le_of_ble_eq_true rfl : 0 < cnt (gn Γ) 8) 23 (by decide) 1377 fl_X8_73 rfl rfl dX8_writes_36 ?_
  refine lv_aload_n hx hb dX8_writes_39 rfl (lv_at hl 0 rfl) ?_
  refine q_get (v := .ref (ga Γ 150 0)) hx hb hK hw hown in_X8 ins_X8 (rfl : vwCl[10]? = some (RX8, TX8, 32)) rfl (Nat.le_of_ble_eq_true rfl : 0 < cnt (gn Γ) 8) 13 (by decide) 1367 fl_X8_44 rfl rfl dX8_writes_40 ?_
  refine lv_iload_n hx hb dX8_writes_43 rfl (lv_at hl 1 rfl) ?_
  have ho_b6 := inb_lt (ck_t hf).1
  refine q_aalA hx hb hK hw (k := 150) (o := 0) (fun _ _ _ => rfl) (Nat.le_of_ble_eq_true rfl : 0 < cnt (gn Γ) 150) hf dX8_writes_44 (fun hf => ?_)
  refine lv_iload_n hx hb dX8_writes_45 rfl (lv_at hl 2 rfl) ?_
  refine q_iald hx hb hK hw (k := 160) (o := (Int32.toNatClampNeg x1)) (fun _ _ _ => rfl) ho_b6 hf dX8_writes_46 (fun hf => ?_)
  refine lv_aload_n hx hb dX8_writes_47 rfl (lv_at hl 0 rfl) ?_
  refine q_get (v := .ref (ga Γ 153 0)) hx hb hK hw hown in_X8 ins_X8 (rfl : vwCl[10]? = some (RX8, TX8, 32)) rfl (Nat.le_of_ble_eq_true rfl : 0 < cnt (gn Γ) 8) 16 (by decide) 1370 fl_X8_53 rfl rfl dX8_writes_48 ?_
  refine lv_iload_n hx hb dX8_writes_51 rfl (lv_at hl 1 rfl) ?_
  have ho_b7 := inb_lt (ck_t hf).1
  refine q_aalA hx hb hK hw (k := 153) (o := 0) (fun _ _ _ => rfl) (Nat.le_of_ble_eq_true rfl : 0 < cnt (gn Γ) 153) hf dX8_writes_52 (fun hf => ?_)
  refine lv_iload_n hx hb dX8_writes_53 rfl (lv_at hl 2 rfl) ?_
  refine q_iald hx hb hK hw (k := 163) (o := (Int32.toNatClampNeg x1)) (fun _ _ _ => rfl) ho_b7 hf dX8_writes_54 (fun hf => ?_)
  refine q_iast hx hb hK hw (k := 159) (o := 0) (fun _ _ _ => rfl) (Nat.le_of_ble_eq_true rfl : 0 < cnt (gn Γ) 159) hf dX8_writes_55 (fun σ8 H locs hf hw => ?_)
  exact q_vret hx hb hr hk hw dX8_writes_56 hf (Nat.le_of_ble_eq_true rfl) (Nat.le_of_ble_eq_true rfl)
set_option maxRecDepth 100000 in
theorem kX8_builds {Γ : Gm} {S : List (String × Nat × String)} {l : Launch} {N : Nat} {σ τ : St} {x1 : Int32}  (hf : fX8_builds N σ x1 = some τ) : CT Γ S l yX8_builds cX8_builds 4 none 2 43 0 0 [.ref (ga Γ 8 0), .int x1] none σ τ := by
  unfold fX8_builds at hf
  refine ct_body (lv := [(0, .ref (ga Γ 8 0)), (1, .int x1)]) (by decide +kernel) rfl (Nat.le_of_ble_eq_true rfl) ?_
  intro p e s m below meth c ls X hr hk hK hw hl
  have hx := X.1
  have hb := X.2.1
  have hown := X.2.2.2
  refine lv_aload_n hx hb dX8_builds_0 rfl (lv_at hl 0 rfl) ?_
  refine q_eV hf hw (fun τ h => q_rV (As := []) (rest := []) (q := (RX8, TX8, 32)) X hK hw rfl (Nat.le_of_ble_eq_true rfl : 0 < cnt (gn Γ) 8) (rfl : vwCl[10]? = _) (kX8_empties h) mvX8_empties lk_X8_105 ⟨Nat.le_of_ble_eq_true rfl, Nat.le_of_ble_eq_true rfl⟩ rfl hl.1 rfl (Nat.le_of_ble_eq_true rfl) dX8_builds_1 ⟨Nat.le_of_ble_eq_true rfl, Nat.le_of_ble_eq_true rfl⟩) (fun σ1 H locs hf hw => ?_)
  refine lv_iconst (v := 0) hx hb dX8_builds_4 (by decide) ?_
  refine lv_istore_n (lv' := [(2, .int (0 : Int32)), (0, .ref (ga Γ 8 0)), (1, .int x1)]) hx hb dX8_builds_5 rfl hl (by decide) rfl (fun ls hl => ?_)
  have L6 : ∀ (K : Int32 → St → Option (St)) (hkk : ∀ (y2 : Int32) (σq : St) (H : Heap) (locs : List Loc) (ls : Array Slot), K y2 σq = some τ → Sit Γ σq s H locs → lv_has ls 4 [] → W p l e { frames := 2, cells := 0, slots := 0, locals := 43 } s m [.ref (ga Γ 8 0), .int x1].toArray below meth c H locs 0 0 (MQ below (Qg Γ (none) τ (AA Γ s.heap.size)) [.ref (ga Γ 8 0), .int x1].toArray s 0 0 (AA Γ s.heap.size)) (F0 m 76 ls [])) (n : Nat) (v2 : Int32) (σ3 : St) (H : Heap) (locs : List Loc) (ls : Array Slot), fX8_builds_L6 K N x1 n v2 σ3 = some τ → Sit Γ σ3 s H locs → lv_has ls 4 [(0, .ref (ga Γ 8 0)), (1, .int x1), (2, .int v2)] → W p l e { frames := 2, cells := 0, slots := 0, locals := 43 } s m [.ref (ga Γ 8 0), .int x1].toArray below meth c H locs 0 0 (MQ below (Qg Γ (none) τ (AA Γ s.heap.size)) [.ref (ga Γ 8 0), .int x1].toArray s 0 0 (AA Γ s.heap.size)) (F0 m 6 ls []) := by
    intro K hkk n
    induction n with
    | zero =>
      intro _ _ _ _ _ hf
      exact nomatch hf
    | succ n ih =>
      intro v2 σ3 H locs ls hf hw hl
      refine lv_iload_n hx hb dX8_builds_6 rfl (lv_at hl 2 rfl) ?_
      refine lv_aload_n hx hb dX8_builds_7 rfl (lv_at hl 0 rfl) ?_
      refine q_get (v := .int (gI σ3 8 0 20)) hx hb hK hw hown in_X8 ins_X8 (rfl : vwCl[10]? = some (RX8, TX8, 32)) rfl (Nat.le_of_ble_eq_true rfl : 0 < cnt (gn Γ) 8) 20 (by decide) 1374 fl_X8_108 rfl rfl dX8_builds_8 ?_
      refine q_ic_ge (tgt := 76) hx hb hf dX8_builds_11 (by decide) (fun hf => ?_) (fun hf => ?_)
      · exact hkk _ _ _ _ _ hf hw (lv_sub hl [] rfl)
      refine lv_iconst (v := 0) hx hb dX8_builds_14 (by decide) ?_
      refine lv_istore_n (lv' := [(3, .int (0 : Int32)), (0, .ref (ga Γ 8 0)), (1, .int x1), (2, .int v2)]) hx hb dX8_builds_15 rfl hl (by decide) rfl (fun ls hl => ?_)
      have L16 : ∀ (K : Int32 → St → Option (St)) (hkk : ∀ (y3 : Int32) (σq : St) (H : Heap) (locs : List Loc) (ls : Array Slot), K y3 σq = some τ → Sit Γ σq s H locs → lv_has ls 4 [(0, .ref (ga Γ 8 0)), (1, .int x1), (2, .int v2)] → W p l e { frames := 2, cells := 0, slots := 0, locals := 43 } s m [.ref (ga Γ 8 0), .int x1].toArray below meth c H locs 0 0 (MQ below (Qg Γ (none) τ (AA Γ s.heap.size)) [.ref (ga Γ 8 0), .int x1].toArray s 0 0 (AA Γ s.heap.size)) (F0 m 70 ls [])) (n : Nat) (v4 : Int32) (σ5 : St) (H : Heap) (locs : List Loc) (ls : Array Slot), fX8_builds_L16 K N x1 v2 n v4 σ5 = some τ → Sit Γ σ5 s H locs → lv_has ls 4 [(0, .ref (ga Γ 8 0)), (1, .int x1), (2, .int v2), (3, .int v4)] → W p l e { frames := 2, cells := 0, slots := 0, locals := 43 } s m [.ref (ga Γ 8 0), .int x1].toArray below meth c H locs 0 0 (MQ below (Qg Γ (none) τ (AA Γ s.heap.size)) [.ref (ga Γ 8 0), .int x1].toArray s 0 0 (AA Γ s.heap.size)) (F0 m 16 ls []) := by
        intro K hkk n
        induction n with
        | zero =>
          intro _ _ _ _ _ hf
          exact nomatch hf
        | succ n ih =>
          intro v4 σ5 H locs ls hf hw hl
          refine lv_iload_n hx hb dX8_builds_16 rfl (lv_at hl 3 rfl) ?_
          refine lv_aload_n hx hb dX8_builds_17 rfl (lv_at hl 0 rfl) ?_
          refine q_get (v := .ref (ga Γ 149 0)) hx hb hK hw hown in_X8 ins_X8 (rfl : vwCl[10]? = some (RX8, TX8, 32)) rfl (Nat.le_of_ble_eq_true rfl : 0 < cnt (gn Γ) 8) 12 (by decide) 1366 fl_X8_39 rfl rfl dX8_builds_18 ?_
          refine lv_iload_n hx hb dX8_builds_21 rfl (lv_at hl 2 rfl) ?_
          refine q_iald hx hb hK hw (k := 149) (o := 0) (fun _ _ _ => rfl) (Nat.le_of_ble_eq_true rfl : 0 < cnt (gn Γ) 149) hf dX8_builds_22 (fun hf => ?_)
          refine q_ic_ge (tgt := 70) hx hb hf dX8_builds_23 (by decide) (fun hf => ?_) (fun hf => ?_)
          · exact hkk _ _ _ _ _ hf hw (lv_sub hl [0, 1, 2] rfl)
          refine lv_aload_n hx hb dX8_builds_26 rfl (lv_at hl 0 rfl) ?_
          refine q_get (v := .ref (ga Γ 156 0)) hx hb hK hw hown in_X8 ins_X8 (rfl : vwCl[10]? = some (RX8, TX8, 32)) rfl (Nat.le_of_ble_eq_true rfl : 0 < cnt (gn Γ) 8) 19 (by decide) 1373 fl_X8_64 rfl rfl dX8_builds_27 ?_
          refine lv_iload_n hx hb dX8_builds_30 rfl (lv_at hl 1 rfl) ?_
          have ho_b6 := inb_lt (ck_t hf).1
          refine q_aalB hx hb hK hw (k := 156) (o := 0) (fun _ _ _ => rfl) (Nat.le_of_ble_eq_true rfl : 0 < cnt (gn Γ) 156) hf dX8_builds_31 (fun hf => ?_)
          refine lv_iload_n hx hb dX8_builds_32 rfl (lv_at hl 2 rfl) ?_
          refine q_zald hx hb hK hw (k := 165) (o := (Int32.toNatClampNeg x1)) (fun _ _ _ => rfl) ho_b6 hf dX8_builds_33 (fun hf => ?_)
          refine q_if_eq (tgt := 70) hx hb hf dX8_builds_34 (by decide) (fun hf => ?_) (fun hf => ?_)
          · exact hkk _ _ _ _ _ hf hw (lv_sub hl [0, 1, 2] rfl)
          refine lv_aload_n hx hb dX8_builds_37 rfl (lv_at hl 0 rfl) ?_
          refine lv_iload_n hx hb dX8_builds_38 rfl (lv_at hl 2 rfl) ?_
          refine lv_aload_n hx hb dX8_builds_39 rfl (lv_at hl 0 rfl) ?_
          refine q_get (v := .ref (ga Γ 158 0)) hx hb hK hw hown in_X8 ins_X8 (rfl : vwCl[10]? = some (RX8, TX8, 32)) rfl (Nat.le_of_ble_eq_true rfl : 0 < cnt (gn Γ) 8) 22 (by decide) 1376 fl_X8_70 rfl rfl dX8_builds_40 ?_
          refine lv_aload_n hx hb dX8_builds_43 rfl (lv_at hl 0 rfl) ?_
          refine q_get (v := .ref (ga Γ 150 0)) hx hb hK hw hown in_X8 ins_X8 (rfl : vwCl[10]? = some (RX8, TX8, 32)) rfl (Nat.le_of_ble_eq_true rfl : 0 < cnt (gn Γ) 8) 13 (by decide) 1367 fl_X8_44 rfl rfl dX8_builds_44 ?_
          refine lv_iload_n hx hb dX8_builds_47 rfl (lv_at hl 2 rfl) ?_
          have ho_b7 := inb_lt (ck_t hf).1
          refine q_aalA hx hb hK hw (k := 150) (o := 0) (fun _ _ _ => rfl) (Nat.le_of_ble_eq_true rfl : 0 < cnt (gn Γ) 150) hf dX8_builds_48 (fun hf => ?_)
          refine lv_iload_n hx hb dX8_builds_49 rfl (lv_at hl 3 rfl) ?_
          refine q_iald hx hb hK hw (k := 160) (o := (Int32.toNatClampNeg v2)) (fun _ _ _ => rfl) ho_b7 hf dX8_builds_50 (fun hf => ?_)
          refine q_iald hx hb hK hw (k := 158) (o := 0) (fun _ _ _ => rfl) (Nat.le_of_ble_eq_true rfl : 0 < cnt (gn Γ) 158) hf dX8_builds_51 (fun hf => ?_)
          refine q_pI hf hw (fun v h => q_rV (As := [.int v2, .int (gI σ5 158 0 (Int32.toNatClampNeg (gI σ5 160 (Int32.toNatClampNeg v2) (Int32.toNatClampNeg v4))))]) (rest := []) (q := (RX8, TX8, 32)) X hK hw rfl (Nat.le_of_ble_eq_true rfl : 0 < cnt (gn Γ) 8) (rfl : vwCl[10]? = _) (kX8_isLater h) mvX8_isLater lk_X8_111 ⟨Nat.le_of_ble_eq_true rfl, Nat.le_of_ble_eq_true rfl⟩ rfl hl.1 rfl (Nat.le_of_ble_eq_true rfl) dX8_builds_52 ⟨Nat.le_of_ble_eq_true rfl, Nat.le_of_ble_eq_true rfl⟩) (fun v8 H locs hf hw => ?_)
          refine q_if_eq (tgt := 64) hx hb hf dX8_builds_55 (by decide) (fun hf => ?_) (fun hf => ?_)
          · refine q_iinc (lv1 := [(0, .ref (ga Γ 8 0)), (1, .int x1), (2, .int v2)]) (d := 1) hx hb hf dX8_builds_64 hl (k := 3) rfl (by decide) (by decide) rfl (fun v9 ls hf hl => ?_)
            refine lv_goto (tgt := 16) hx hb dX8_builds_67 (by decide) ?_
            exact ih _ _ _ _ _ hf hw (lv_sub hl [1, 2, 3, 0] rfl)
          refine lv_aload_n hx hb dX8_builds_58 rfl (lv_at hl 0 rfl) ?_
          refine lv_iload_n hx hb dX8_builds_59 rfl (lv_at hl 2 rfl) ?_
          refine lv_iload_n hx hb dX8_builds_60 rfl (lv_at hl 3 rfl) ?_
          refine q_eV hf hw (fun τ h => q_rV (As := [.int v2, .int v4]) (rest := []) (q := (RX8, TX8, 32)) X hK hw rfl (Nat.le_of_ble_eq_true rfl : 0 < cnt (gn Γ) 8) (rfl : vwCl[10]? = _) (kX8_writes h) mvX8_writes lk_X8_115 ⟨Nat.le_of_ble_eq_true rfl, Nat.le_of_ble_eq_true rfl⟩ rfl hl.1 rfl (Nat.le_of_ble_eq_true rfl) dX8_builds_61 ⟨Nat.le_of_ble_eq_true rfl, Nat.le_of_ble_eq_true rfl⟩) (fun σ10 H locs hf hw => ?_)
          refine q_iinc (lv1 := [(0, .ref (ga Γ 8 0)), (1, .int x1), (2, .int v2)]) (d := 1) hx hb hf dX8_builds_64 hl (k := 3) rfl (by decide) (by decide) rfl (fun v11 ls hf hl => ?_)
          refine lv_goto (tgt := 16) hx hb dX8_builds_67 (by decide) ?_
          exact ih _ _ _ _ _ hf hw (lv_sub hl [1, 2, 3, 0] rfl)
      refine L16 _ (fun _ σ12 H locs ls hf hw hl => ?_) N (0 : Int32) σ3 _ _ _ hf hw (lv_sub hl [1, 2, 3, 0] rfl)
      refine q_iinc (lv1 := [(0, .ref (ga Γ 8 0)), (1, .int x1)]) (d := 1) hx hb hf dX8_builds_70 hl (k := 2) rfl (by decide) (by decide) rfl (fun v13 ls hf hl => ?_)
      refine lv_goto (tgt := 6) hx hb dX8_builds_73 (by decide) ?_
      exact ih _ _ _ _ _ hf hw (lv_sub hl [1, 2, 0] rfl)
  refine L6 _ (fun _ σ14 H locs ls hf hw hl => ?_) N (0 : Int32) σ1 _ _ _ hf hw (lv_sub hl [1, 2, 0] rfl)
  exact q_vret hx hb hr hk hw dX8_builds_76 hf (Nat.le_of_ble_eq_true rfl) (Nat.le_of_ble_eq_true rfl)
set_option maxRecDepth 100000 in
theorem kX8_isSeen {Γ : Gm} {S : List (String × Nat × String)} {l : Launch} {N : Nat} {σ : St} {x1 : Int32} {r : Int32}  (hf : fX8_isSeen N σ x1 = some r) : CT Γ S l yX8_isSeen cX8_isSeen 2 (some (.boolean)) 1 22 0 0 [.ref (ga Γ 8 0), .int x1] (some (.int r)) σ σ := by
  unfold fX8_isSeen at hf
  refine ct_body (lv := [(0, .ref (ga Γ 8 0)), (1, .int x1)]) (by decide +kernel) rfl (Nat.le_of_ble_eq_true rfl) ?_
  intro p e s m below meth c ls X hr hk hK hw hl
  have hx := X.1
  have hb := X.2.1
  have hown := X.2.2.2
  refine lv_iload_n hx hb dX8_isSeen_0 rfl (lv_at hl 1 rfl) ?_
  refine lv_iconst (v := 0) hx hb dX8_isSeen_1 (by decide) ?_
  refine lv_aload_n hx hb dX8_isSeen_2 rfl (lv_at hl 0 rfl) ?_
  refine q_get (v := .int (gI σ 8 0 8)) hx hb hK hw hown in_X8 ins_X8 (rfl : vwCl[10]? = some (RX8, TX8, 32)) rfl (Nat.le_of_ble_eq_true rfl : 0 < cnt (gn Γ) 8) 8 (by decide) 1362 fl_X8_119 rfl rfl dX8_isSeen_3 ?_
  refine lv_iconst (v := 1) hx hb dX8_isSeen_6 (by decide) ?_
  refine lv_isub hx hb dX8_isSeen_7 ?_
  refine q_pI hf hw (fun v h => q_rS (As := [.int x1, .int (0 : Int32), .int ((gI σ 8 0 8) - (1 : Int32))]) (rest := []) X hK hw (kX8_isBetween h) msX8_isBetween lk_X8_101 ⟨Nat.le_of_ble_eq_true rfl, Nat.le_of_ble_eq_true rfl⟩ rfl hl.1 rfl (Nat.le_of_ble_eq_true rfl) dX8_isSeen_8 ⟨Nat.le_of_ble_eq_true rfl, Nat.le_of_ble_eq_true rfl⟩) (fun v1 H locs hf hw => ?_)
  refine q_if_eq (tgt := 28) hx hb hf dX8_isSeen_11 (by decide) (fun hf => ?_) (fun hf => ?_)
  · refine lv_iconst (v := 0) hx hb dX8_isSeen_28 (by decide) ?_
    exact q_iret hf hx hb hr rfl hk hw dX8_isSeen_29 (Nat.le_of_ble_eq_true rfl) (Nat.le_of_ble_eq_true rfl)
  refine lv_aload_n hx hb dX8_isSeen_14 rfl (lv_at hl 0 rfl) ?_
  refine q_get (v := .ref (ga Γ 157 0)) hx hb hK hw hown in_X8 ins_X8 (rfl : vwCl[10]? = some (RX8, TX8, 32)) rfl (Nat.le_of_ble_eq_true rfl : 0 < cnt (gn Γ) 8) 21 (by decide) 1375 fl_X8_67 rfl rfl dX8_isSeen_15 ?_
  refine lv_iload_n hx hb dX8_isSeen_18 rfl (lv_at hl 1 rfl) ?_
  refine q_iald hx hb hK hw (k := 157) (o := 0) (fun _ _ _ => rfl) (Nat.le_of_ble_eq_true rfl : 0 < cnt (gn Γ) 157) hf dX8_isSeen_19 (fun hf => ?_)
  refine lv_iconst (v := 1) hx hb dX8_isSeen_20 (by decide) ?_
  refine q_ic_ne (tgt := 28) hx hb hf dX8_isSeen_21 (by decide) (fun hf => ?_) (fun hf => ?_)
  · refine lv_iconst (v := 0) hx hb dX8_isSeen_28 (by decide) ?_
    exact q_iret hf hx hb hr rfl hk hw dX8_isSeen_29 (Nat.le_of_ble_eq_true rfl) (Nat.le_of_ble_eq_true rfl)
  refine lv_iconst (v := 1) hx hb dX8_isSeen_24 (by decide) ?_
  refine lv_goto (tgt := 29) hx hb dX8_isSeen_25 (by decide) ?_
  exact q_iret hf hx hb hr rfl hk hw dX8_isSeen_29 (Nat.le_of_ble_eq_true rfl) (Nat.le_of_ble_eq_true rfl)
set_option maxRecDepth 100000 in
theorem kX8_isJoined {Γ : Gm} {S : List (String × Nat × String)} {l : Launch} {N : Nat} {σ : St} {x1 : Int32} {r : Int32}  (hf : fX8_isJoined N σ x1 = some r) : CT Γ S l yX8_isJoined cX8_isJoined 2 (some (.boolean)) 2 43 0 0 [.ref (ga Γ 8 0), .int x1] (some (.int r)) σ σ := by
  unfold fX8_isJoined at hf
  refine ct_body (lv := [(0, .ref (ga Γ 8 0)), (1, .int x1)]) (by decide +kernel) rfl (Nat.le_of_ble_eq_true rfl) ?_
  intro p e s m below meth c ls X hr hk hK hw hl
  have hx := X.1
  have hb := X.2.1
  have hown := X.2.2.2
  refine lv_iload_n hx hb dX8_isJoined_0 rfl (lv_at hl 1 rfl) ?_
  refine lv_iconst (v := 0) hx hb dX8_isJoined_1 (by decide) ?_
  refine lv_aload_n hx hb dX8_isJoined_2 rfl (lv_at hl 0 rfl) ?_
  refine q_get (v := .int (gI σ 8 0 9)) hx hb hK hw hown in_X8 ins_X8 (rfl : vwCl[10]? = some (RX8, TX8, 32)) rfl (Nat.le_of_ble_eq_true rfl : 0 < cnt (gn Γ) 8) 9 (by decide) 1363 fl_X8_122 rfl rfl dX8_isJoined_3 ?_
  refine lv_iconst (v := 1) hx hb dX8_isJoined_6 (by decide) ?_
  refine lv_isub hx hb dX8_isJoined_7 ?_
  refine q_pI hf hw (fun v h => q_rS (As := [.int x1, .int (0 : Int32), .int ((gI σ 8 0 9) - (1 : Int32))]) (rest := []) X hK hw (kX8_isBetween h) msX8_isBetween lk_X8_101 ⟨Nat.le_of_ble_eq_true rfl, Nat.le_of_ble_eq_true rfl⟩ rfl hl.1 rfl (Nat.le_of_ble_eq_true rfl) dX8_isJoined_8 ⟨Nat.le_of_ble_eq_true rfl, Nat.le_of_ble_eq_true rfl⟩) (fun v1 H locs hf hw => ?_)
  refine q_if_eq (tgt := 57) hx hb hf dX8_isJoined_11 (by decide) (fun hf => ?_) (fun hf => ?_)
  · refine lv_iconst (v := 0) hx hb dX8_isJoined_57 (by decide) ?_
    exact q_iret hf hx hb hr rfl hk hw dX8_isJoined_58 (Nat.le_of_ble_eq_true rfl) (Nat.le_of_ble_eq_true rfl)
  refine lv_aload_n hx hb dX8_isJoined_14 rfl (lv_at hl 0 rfl) ?_
  refine q_get (v := .ref (ga Γ 157 0)) hx hb hK hw hown in_X8 ins_X8 (rfl : vwCl[10]? = some (RX8, TX8, 32)) rfl (Nat.le_of_ble_eq_true rfl : 0 < cnt (gn Γ) 8) 21 (by decide) 1375 fl_X8_67 rfl rfl dX8_isJoined_15 ?_
  refine lv_bipush (v := 48) hx hb dX8_isJoined_18 (by decide) ?_
  refine lv_iload_n hx hb dX8_isJoined_20 rfl (lv_at hl 1 rfl) ?_
  refine lv_iadd hx hb dX8_isJoined_21 ?_
  refine q_iald hx hb hK hw (k := 157) (o := 0) (fun _ _ _ => rfl) (Nat.le_of_ble_eq_true rfl : 0 < cnt (gn Γ) 157) hf dX8_isJoined_22 (fun hf => ?_)
  refine lv_iconst (v := 1) hx hb dX8_isJoined_23 (by decide) ?_
  refine q_ic_ne (tgt := 57) hx hb hf dX8_isJoined_24 (by decide) (fun hf => ?_) (fun hf => ?_)
  · refine lv_iconst (v := 0) hx hb dX8_isJoined_57 (by decide) ?_
    exact q_iret hf hx hb hr rfl hk hw dX8_isJoined_58 (Nat.le_of_ble_eq_true rfl) (Nat.le_of_ble_eq_true rfl)
  refine lv_aload_n hx hb dX8_isJoined_27 rfl (lv_at hl 0 rfl) ?_
  refine lv_aload_n hx hb dX8_isJoined_28 rfl (lv_at hl 0 rfl) ?_
  refine q_get (v := .ref (ga Γ 142 0)) hx hb hK hw hown in_X8 ins_X8 (rfl : vwCl[10]? = some (RX8, TX8, 32)) rfl (Nat.le_of_ble_eq_true rfl : 0 < cnt (gn Γ) 8) 3 (by decide) 1357 fl_X8_16 rfl rfl dX8_isJoined_29 ?_
  refine lv_iload_n hx hb dX8_isJoined_32 rfl (lv_at hl 1 rfl) ?_
  refine q_iald hx hb hK hw (k := 142) (o := 0) (fun _ _ _ => rfl) (Nat.le_of_ble_eq_true rfl : 0 < cnt (gn Γ) 142) hf dX8_isJoined_33 (fun hf => ?_)
  refine q_pI hf hw (fun v h => q_rV (As := [.int (gI σ 142 0 (Int32.toNatClampNeg x1))]) (rest := []) (q := (RX8, TX8, 32)) X hK hw rfl (Nat.le_of_ble_eq_true rfl : 0 < cnt (gn Γ) 8) (rfl : vwCl[10]? = _) (kX8_isSeen h) mvX8_isSeen lk_X8_125 ⟨Nat.le_of_ble_eq_true rfl, Nat.le_of_ble_eq_true rfl⟩ rfl hl.1 rfl (Nat.le_of_ble_eq_true rfl) dX8_isJoined_34 ⟨Nat.le_of_ble_eq_true rfl, Nat.le_of_ble_eq_true rfl⟩) (fun v2 H locs hf hw => ?_)
  refine q_if_eq (tgt := 57) hx hb hf dX8_isJoined_37 (by decide) (fun hf => ?_) (fun hf => ?_)
  · refine lv_iconst (v := 0) hx hb dX8_isJoined_57 (by decide) ?_
    exact q_iret hf hx hb hr rfl hk hw dX8_isJoined_58 (Nat.le_of_ble_eq_true rfl) (Nat.le_of_ble_eq_true rfl)
  refine lv_aload_n hx hb dX8_isJoined_40 rfl (lv_at hl 0 rfl) ?_
  refine lv_aload_n hx hb dX8_isJoined_41 rfl (lv_at hl 0 rfl) ?_
  refine q_get (v := .ref (ga Γ 143 0)) hx hb hK hw hown in_X8 ins_X8 (rfl : vwCl[10]? = some (RX8, TX8, 32)) rfl (Nat.le_of_ble_eq_true rfl : 0 < cnt (gn Γ) 8) 4 (by decide) 1358 fl_X8_19 rfl rfl dX8_isJoined_42 ?_
  refine lv_iload_n hx hb dX8_isJoined_45 rfl (lv_at hl 1 rfl) ?_
  refine q_iald hx hb hK hw (k := 143) (o := 0) (fun _ _ _ => rfl) (Nat.le_of_ble_eq_true rfl : 0 < cnt (gn Γ) 143) hf dX8_isJoined_46 (fun hf => ?_)
  refine q_pI hf hw (fun v h => q_rV (As := [.int (gI σ 143 0 (Int32.toNatClampNeg x1))]) (rest := []) (q := (RX8, TX8, 32)) X hK hw rfl (Nat.le_of_ble_eq_true rfl : 0 < cnt (gn Γ) 8) (rfl : vwCl[10]? = _) (kX8_isSeen h) mvX8_isSeen lk_X8_125 ⟨Nat.le_of_ble_eq_true rfl, Nat.le_of_ble_eq_true rfl⟩ rfl hl.1 rfl (Nat.le_of_ble_eq_true rfl) dX8_isJoined_47 ⟨Nat.le_of_ble_eq_true rfl, Nat.le_of_ble_eq_true rfl⟩) (fun v3 H locs hf hw => ?_)
  refine q_if_eq (tgt := 57) hx hb hf dX8_isJoined_50 (by decide) (fun hf => ?_) (fun hf => ?_)
  · refine lv_iconst (v := 0) hx hb dX8_isJoined_57 (by decide) ?_
    exact q_iret hf hx hb hr rfl hk hw dX8_isJoined_58 (Nat.le_of_ble_eq_true rfl) (Nat.le_of_ble_eq_true rfl)
  refine lv_iconst (v := 1) hx hb dX8_isJoined_53 (by decide) ?_
  refine lv_goto (tgt := 58) hx hb dX8_isJoined_54 (by decide) ?_
  exact q_iret hf hx hb hr rfl hk hw dX8_isJoined_58 (Nat.le_of_ble_eq_true rfl) (Nat.le_of_ble_eq_true rfl)
set_option maxRecDepth 100000 in
theorem kX8_column {Γ : Gm} {S : List (String × Nat × String)} {l : Launch} {N : Nat} {σ : St} {x1 : Int32} {r : Int32}  (hf : fX8_column N σ x1 = some r) : CT Γ S l yX8_column cX8_column 2 (some (.int)) 0 0 0 0 [.ref (ga Γ 8 0), .int x1] (some (.int r)) σ σ := by
  unfold fX8_column at hf
  refine ct_body (lv := [(0, .ref (ga Γ 8 0)), (1, .int x1)]) (by decide +kernel) rfl (Nat.le_of_ble_eq_true rfl) ?_
  intro p e s m below meth c ls X hr hk hK hw hl
  have hx := X.1
  have hb := X.2.1
  have hown := X.2.2.2
  refine lv_aload_n hx hb dX8_column_0 rfl (lv_at hl 0 rfl) ?_
  refine q_get (v := .ref (ga Γ 157 0)) hx hb hK hw hown in_X8 ins_X8 (rfl : vwCl[10]? = some (RX8, TX8, 32)) rfl (Nat.le_of_ble_eq_true rfl : 0 < cnt (gn Γ) 8) 21 (by decide) 1375 fl_X8_67 rfl rfl dX8_column_1 ?_
  refine lv_bipush (v := 12) hx hb dX8_column_4 (by decide) ?_
  refine lv_iload_n hx hb dX8_column_6 rfl (lv_at hl 1 rfl) ?_
  refine lv_iadd hx hb dX8_column_7 ?_
  refine q_iald hx hb hK hw (k := 157) (o := 0) (fun _ _ _ => rfl) (Nat.le_of_ble_eq_true rfl : 0 < cnt (gn Γ) 157) hf dX8_column_8 (fun hf => ?_)
  refine lv_bipush (v := 32) hx hb dX8_column_9 (by decide) ?_
  refine lv_idiv hx hb dX8_column_11 (by decide) ?_
  exact q_iret hf hx hb hr rfl hk hw dX8_column_12 (Nat.le_of_ble_eq_true rfl) (Nat.le_of_ble_eq_true rfl)
set_option maxRecDepth 100000 in
theorem kX8_row {Γ : Gm} {S : List (String × Nat × String)} {l : Launch} {N : Nat} {σ : St} {x1 : Int32} {r : Int32}  (hf : fX8_row N σ x1 = some r) : CT Γ S l yX8_row cX8_row 2 (some (.int)) 0 0 0 0 [.ref (ga Γ 8 0), .int x1] (some (.int r)) σ σ := by
  unfold fX8_row at hf
  refine ct_body (lv := [(0, .ref (ga Γ 8 0)), (1, .int x1)]) (by decide +kernel) rfl (Nat.le_of_ble_eq_true rfl) ?_
  intro p e s m below meth c ls X hr hk hK hw hl
  have hx := X.1
  have hb := X.2.1
  have hown := X.2.2.2
  refine lv_aload_n hx hb dX8_row_0 rfl (lv_at hl 0 rfl) ?_
  refine q_get (v := .ref (ga Γ 157 0)) hx hb hK hw hown in_X8 ins_X8 (rfl : vwCl[10]? = some (RX8, TX8, 32)) rfl (Nat.le_of_ble_eq_true rfl : 0 < cnt (gn Γ) 8) 21 (by decide) 1375 fl_X8_67 rfl rfl dX8_row_1 ?_
  refine lv_bipush (v := 12) hx hb dX8_row_4 (by decide) ?_
  refine lv_iload_n hx hb dX8_row_6 rfl (lv_at hl 1 rfl) ?_
  refine lv_iadd hx hb dX8_row_7 ?_
  refine q_iald hx hb hK hw (k := 157) (o := 0) (fun _ _ _ => rfl) (Nat.le_of_ble_eq_true rfl : 0 < cnt (gn Γ) 157) hf dX8_row_8 (fun hf => ?_)
  refine lv_bipush (v := 32) hx hb dX8_row_9 (by decide) ?_
  refine lv_irem hx hb dX8_row_11 (by decide) ?_
  exact q_iret hf hx hb hr rfl hk hw dX8_row_12 (Nat.le_of_ble_eq_true rfl) (Nat.le_of_ble_eq_true rfl)
set_option maxRecDepth 100000 in
theorem kX8_key {Γ : Gm} {S : List (String × Nat × String)} {l : Launch} {N : Nat} {σ : St} {x1 : Int32} {r : UInt32}  (hf : fX8_key N σ x1 = some r) : CT Γ S l yX8_key cX8_key 2 (some (.float)) 1 60 0 0 [.ref (ga Γ 8 0), .int x1] (some (.float r)) σ σ := by
  unfold fX8_key at hf
  refine ct_body (lv := [(0, .ref (ga Γ 8 0)), (1, .int x1)]) (by decide +kernel) rfl (Nat.le_of_ble_eq_true rfl) ?_
  intro p e s m below meth c ls X hr hk hK hw hl
  have hx := X.1
  have hb := X.2.1
  have hown := X.2.2.2
  refine lv_aload_n hx hb dX8_key_0 rfl (lv_at hl 0 rfl) ?_
  refine q_get (v := .ref (ga Γ 157 0)) hx hb hK hw hown in_X8 ins_X8 (rfl : vwCl[10]? = some (RX8, TX8, 32)) rfl (Nat.le_of_ble_eq_true rfl : 0 < cnt (gn Γ) 8) 21 (by decide) 1375 fl_X8_67 rfl rfl dX8_key_1 ?_
  refine lv_bipush (v := 24) hx hb dX8_key_4 (by decide) ?_
  refine lv_iload_n hx hb dX8_key_6 rfl (lv_at hl 1 rfl) ?_
  refine lv_iadd hx hb dX8_key_7 ?_
  refine q_iald hx hb hK hw (k := 157) (o := 0) (fun _ _ _ => rfl) (Nat.le_of_ble_eq_true rfl : 0 < cnt (gn Γ) 157) hf dX8_key_8 (fun hf => ?_)
  refine q_i2fb hx hb hl.1 X hK lk_X8_129 hf dX8_key_9 (Nat.le_of_ble_eq_true rfl) (Nat.le_of_ble_eq_true rfl) (fun hf => ?_)
  exact q_fret hf hx hb hr hk hw dX8_key_12 (Nat.le_of_ble_eq_true rfl) (Nat.le_of_ble_eq_true rfl)
set_option maxRecDepth 100000 in
theorem kX8_seenMany {Γ : Gm} {S : List (String × Nat × String)} {l : Launch} {N : Nat} {σ : St} {r : Int32}  (hf : fX8_seenMany N σ = some r) : CT Γ S l yX8_seenMany cX8_seenMany 3 (some (.int)) 2 43 0 0 [.ref (ga Γ 8 0)] (some (.int r)) σ σ := by
  unfold fX8_seenMany at hf
  refine ct_body (lv := [(0, .ref (ga Γ 8 0))]) (by decide +kernel) rfl (Nat.le_of_ble_eq_true rfl) ?_
  intro p e s m below meth c ls X hr hk hK hw hl
  have hx := X.1
  have hb := X.2.1
  have hown := X.2.2.2
  refine lv_iconst (v := 0) hx hb dX8_seenMany_0 (by decide) ?_
  refine lv_istore_n (lv' := [(1, .int (0 : Int32)), (0, .ref (ga Γ 8 0))]) hx hb dX8_seenMany_1 rfl hl (by decide) rfl (fun ls hl => ?_)
  refine lv_iconst (v := 0) hx hb dX8_seenMany_2 (by decide) ?_
  refine lv_istore_n (lv' := [(2, .int (0 : Int32)), (1, .int (0 : Int32)), (0, .ref (ga Γ 8 0))]) hx hb dX8_seenMany_3 rfl hl (by decide) rfl (fun ls hl => ?_)
  have L4 : ∀ (K : Int32 → Int32 → Option (Int32)) (hkk : ∀ (y1 : Int32) (y2 : Int32) (H : Heap) (locs : List Loc) (ls : Array Slot), K y1 y2 = some r → Sit Γ σ s H locs → lv_has ls 3 [(1, .int y1)] → W p l e { frames := 2, cells := 0, slots := 0, locals := 43 } s m [.ref (ga Γ 8 0)].toArray below meth c H locs 0 0 (MQ below (Qg Γ (some (.int r)) σ (AA Γ s.heap.size)) [.ref (ga Γ 8 0)].toArray s 0 0 (AA Γ s.heap.size)) (F0 m 34 ls [])) (n : Nat) (v1 : Int32) (v2 : Int32) (H : Heap) (locs : List Loc) (ls : Array Slot), fX8_seenMany_L4 K N σ n v1 v2 = some r → Sit Γ σ s H locs → lv_has ls 3 [(0, .ref (ga Γ 8 0)), (1, .int v1), (2, .int v2)] → W p l e { frames := 2, cells := 0, slots := 0, locals := 43 } s m [.ref (ga Γ 8 0)].toArray below meth c H locs 0 0 (MQ below (Qg Γ (some (.int r)) σ (AA Γ s.heap.size)) [.ref (ga Γ 8 0)].toArray s 0 0 (AA Γ s.heap.size)) (F0 m 4 ls []) := by
    intro K hkk n
    induction n with
    | zero =>
      intro _ _ _ _ _ hf
      exact nomatch hf
    | succ n ih =>
      intro v1 v2 H locs ls hf hw hl
      refine lv_iload_n hx hb dX8_seenMany_4 rfl (lv_at hl 2 rfl) ?_
      refine lv_aload_n hx hb dX8_seenMany_5 rfl (lv_at hl 0 rfl) ?_
      refine q_get (v := .int (gI σ 8 0 8)) hx hb hK hw hown in_X8 ins_X8 (rfl : vwCl[10]? = some (RX8, TX8, 32)) rfl (Nat.le_of_ble_eq_true rfl : 0 < cnt (gn Γ) 8) 8 (by decide) 1362 fl_X8_119 rfl rfl dX8_seenMany_6 ?_
      refine q_ic_ge (tgt := 34) hx hb hf dX8_seenMany_9 (by decide) (fun hf => ?_) (fun hf => ?_)
      · exact hkk _ _ _ _ _ hf hw (lv_sub hl [1] rfl)
      refine lv_iload_n hx hb dX8_seenMany_12 rfl (lv_at hl 1 rfl) ?_
      refine lv_aload_n hx hb dX8_seenMany_13 rfl (lv_at hl 0 rfl) ?_
      refine lv_iload_n hx hb dX8_seenMany_14 rfl (lv_at hl 2 rfl) ?_
      refine q_pI hf hw (fun v h => q_rV (As := [.int v2]) (rest := [.int v1]) (q := (RX8, TX8, 32)) X hK hw rfl (Nat.le_of_ble_eq_true rfl : 0 < cnt (gn Γ) 8) (rfl : vwCl[10]? = _) (kX8_isSeen h) mvX8_isSeen lk_X8_125 ⟨Nat.le_of_ble_eq_true rfl, Nat.le_of_ble_eq_true rfl⟩ rfl hl.1 rfl (Nat.le_of_ble_eq_true rfl) dX8_seenMany_15 ⟨Nat.le_of_ble_eq_true rfl, Nat.le_of_ble_eq_true rfl⟩) (fun v3 H locs hf hw => ?_)
      refine q_if_eq (tgt := 25) hx hb hf dX8_seenMany_18 (by decide) (fun hf => ?_) (fun hf => ?_)
      · refine lv_iconst (v := 0) hx hb dX8_seenMany_25 (by decide) ?_
        refine lv_iadd hx hb dX8_seenMany_26 ?_
        refine q_istore_n (lv1 := [(0, .ref (ga Γ 8 0)), (2, .int v2)]) hx hb hf dX8_seenMany_27 rfl hl (by decide) rfl (fun v4 ls hf hl => ?_)
        refine q_iinc (lv1 := [(1, .int v4), (0, .ref (ga Γ 8 0))]) (d := 1) hx hb hf dX8_seenMany_28 hl (k := 2) rfl (by decide) (by decide) rfl (fun v5 ls hf hl => ?_)
        refine lv_goto (tgt := 4) hx hb dX8_seenMany_31 (by decide) ?_
        exact ih _ _ _ _ _ hf hw (lv_sub hl [2, 1, 0] rfl)
      refine lv_iconst (v := 1) hx hb dX8_seenMany_21 (by decide) ?_
      refine lv_goto (tgt := 26) hx hb dX8_seenMany_22 (by decide) ?_
      refine lv_iadd hx hb dX8_seenMany_26 ?_
      refine q_istore_n (lv1 := [(0, .ref (ga Γ 8 0)), (2, .int v2)]) hx hb hf dX8_seenMany_27 rfl hl (by decide) rfl (fun v6 ls hf hl => ?_)
      refine q_iinc (lv1 := [(1, .int v6), (0, .ref (ga Γ 8 0))]) (d := 1) hx hb hf dX8_seenMany_28 hl (k := 2) rfl (by decide) (by decide) rfl (fun v7 ls hf hl => ?_)
      refine lv_goto (tgt := 4) hx hb dX8_seenMany_31 (by decide) ?_
      exact ih _ _ _ _ _ hf hw (lv_sub hl [2, 1, 0] rfl)
  refine L4 _ (fun v8 _ H locs ls hf hw hl => ?_) N (0 : Int32) (0 : Int32) _ _ _ hf hw (lv_sub hl [2, 1, 0] rfl)
  refine lv_iload_n hx hb dX8_seenMany_34 rfl (lv_at hl 0 rfl) ?_
  exact q_iret hf hx hb hr rfl hk hw dX8_seenMany_35 (Nat.le_of_ble_eq_true rfl) (Nat.le_of_ble_eq_true rfl)
set_option maxRecDepth 100000 in
theorem kX8_joinedMany {Γ : Gm} {S : List (String × Nat × String)} {l : Launch} {N : Nat} {σ : St} {r : Int32}  (hf : fX8_joinedMany N σ = some r) : CT Γ S l yX8_joinedMany cX8_joinedMany 3 (some (.int)) 3 64 0 0 [.ref (ga Γ 8 0)] (some (.int r)) σ σ := by
  unfold fX8_joinedMany at hf
  refine ct_body (lv := [(0, .ref (ga Γ 8 0))]) (by decide +kernel) rfl (Nat.le_of_ble_eq_true rfl) ?_
  intro p e s m below meth c ls X hr hk hK hw hl
  have hx := X.1
  have hb := X.2.1
  have hown := X.2.2.2
  refine lv_iconst (v := 0) hx hb dX8_joinedMany_0 (by decide) ?_
  refine lv_istore_n (lv' := [(1, .int (0 : Int32)), (0, .ref (ga Γ 8 0))]) hx hb dX8_joinedMany_1 rfl hl (by decide) rfl (fun ls hl => ?_)
  refine lv_iconst (v := 0) hx hb dX8_joinedMany_2 (by decide) ?_
  refine lv_istore_n (lv' := [(2, .int (0 : Int32)), (1, .int (0 : Int32)), (0, .ref (ga Γ 8 0))]) hx hb dX8_joinedMany_3 rfl hl (by decide) rfl (fun ls hl => ?_)
  have L4 : ∀ (K : Int32 → Int32 → Option (Int32)) (hkk : ∀ (y1 : Int32) (y2 : Int32) (H : Heap) (locs : List Loc) (ls : Array Slot), K y1 y2 = some r → Sit Γ σ s H locs → lv_has ls 3 [(1, .int y1)] → W p l e { frames := 3, cells := 0, slots := 0, locals := 64 } s m [.ref (ga Γ 8 0)].toArray below meth c H locs 0 0 (MQ below (Qg Γ (some (.int r)) σ (AA Γ s.heap.size)) [.ref (ga Γ 8 0)].toArray s 0 0 (AA Γ s.heap.size)) (F0 m 34 ls [])) (n : Nat) (v1 : Int32) (v2 : Int32) (H : Heap) (locs : List Loc) (ls : Array Slot), fX8_joinedMany_L4 K N σ n v1 v2 = some r → Sit Γ σ s H locs → lv_has ls 3 [(0, .ref (ga Γ 8 0)), (1, .int v1), (2, .int v2)] → W p l e { frames := 3, cells := 0, slots := 0, locals := 64 } s m [.ref (ga Γ 8 0)].toArray below meth c H locs 0 0 (MQ below (Qg Γ (some (.int r)) σ (AA Γ s.heap.size)) [.ref (ga Γ 8 0)].toArray s 0 0 (AA Γ s.heap.size)) (F0 m 4 ls []) := by
    intro K hkk n
    induction n with
    | zero =>
      intro _ _ _ _ _ hf
      exact nomatch hf
    | succ n ih =>
      intro v1 v2 H locs ls hf hw hl
      refine lv_iload_n hx hb dX8_joinedMany_4 rfl (lv_at hl 2 rfl) ?_
      refine lv_aload_n hx hb dX8_joinedMany_5 rfl (lv_at hl 0 rfl) ?_
      refine q_get (v := .int (gI σ 8 0 9)) hx hb hK hw hown in_X8 ins_X8 (rfl : vwCl[10]? = some (RX8, TX8, 32)) rfl (Nat.le_of_ble_eq_true rfl : 0 < cnt (gn Γ) 8) 9 (by decide) 1363 fl_X8_122 rfl rfl dX8_joinedMany_6 ?_
      refine q_ic_ge (tgt := 34) hx hb hf dX8_joinedMany_9 (by decide) (fun hf => ?_) (fun hf => ?_)
      · exact hkk _ _ _ _ _ hf hw (lv_sub hl [1] rfl)
      refine lv_iload_n hx hb dX8_joinedMany_12 rfl (lv_at hl 1 rfl) ?_
      refine lv_aload_n hx hb dX8_joinedMany_13 rfl (lv_at hl 0 rfl) ?_
      refine lv_iload_n hx hb dX8_joinedMany_14 rfl (lv_at hl 2 rfl) ?_
      refine q_pI hf hw (fun v h => q_rV (As := [.int v2]) (rest := [.int v1]) (q := (RX8, TX8, 32)) X hK hw rfl (Nat.le_of_ble_eq_true rfl : 0 < cnt (gn Γ) 8) (rfl : vwCl[10]? = _) (kX8_isJoined h) mvX8_isJoined lk_X8_135 ⟨Nat.le_of_ble_eq_true rfl, Nat.le_of_ble_eq_true rfl⟩ rfl hl.1 rfl (Nat.le_of_ble_eq_true rfl) dX8_joinedMany_15 ⟨Nat.le_of_ble_eq_true rfl, Nat.le_of_ble_eq_true rfl⟩) (fun v3 H locs hf hw => ?_)
      refine q_if_eq (tgt := 25) hx hb hf dX8_joinedMany_18 (by decide) (fun hf => ?_) (fun hf => ?_)
      · refine lv_iconst (v := 0) hx hb dX8_joinedMany_25 (by decide) ?_
        refine lv_iadd hx hb dX8_joinedMany_26 ?_
        refine q_istore_n (lv1 := [(0, .ref (ga Γ 8 0)), (2, .int v2)]) hx hb hf dX8_joinedMany_27 rfl hl (by decide) rfl (fun v4 ls hf hl => ?_)
        refine q_iinc (lv1 := [(1, .int v4), (0, .ref (ga Γ 8 0))]) (d := 1) hx hb hf dX8_joinedMany_28 hl (k := 2) rfl (by decide) (by decide) rfl (fun v5 ls hf hl => ?_)
        refine lv_goto (tgt := 4) hx hb dX8_joinedMany_31 (by decide) ?_
        exact ih _ _ _ _ _ hf hw (lv_sub hl [2, 1, 0] rfl)
      refine lv_iconst (v := 1) hx hb dX8_joinedMany_21 (by decide) ?_
      refine lv_goto (tgt := 26) hx hb dX8_joinedMany_22 (by decide) ?_
      refine lv_iadd hx hb dX8_joinedMany_26 ?_
      refine q_istore_n (lv1 := [(0, .ref (ga Γ 8 0)), (2, .int v2)]) hx hb hf dX8_joinedMany_27 rfl hl (by decide) rfl (fun v6 ls hf hl => ?_)
      refine q_iinc (lv1 := [(1, .int v6), (0, .ref (ga Γ 8 0))]) (d := 1) hx hb hf dX8_joinedMany_28 hl (k := 2) rfl (by decide) (by decide) rfl (fun v7 ls hf hl => ?_)
      refine lv_goto (tgt := 4) hx hb dX8_joinedMany_31 (by decide) ?_
      exact ih _ _ _ _ _ hf hw (lv_sub hl [2, 1, 0] rfl)
  refine L4 _ (fun v8 _ H locs ls hf hw hl => ?_) N (0 : Int32) (0 : Int32) _ _ _ hf hw (lv_sub hl [2, 1, 0] rfl)
  refine lv_iload_n hx hb dX8_joinedMany_34 rfl (lv_at hl 0 rfl) ?_
  exact q_iret hf hx hb hr rfl hk hw dX8_joinedMany_35 (Nat.le_of_ble_eq_true rfl) (Nat.le_of_ble_eq_true rfl)
set_option maxRecDepth 100000 in
theorem kX8_rank {Γ : Gm} {S : List (String × Nat × String)} {l : Launch} {N : Nat} {σ : St} {x1 : Int32} {r : Int32}  (hf : fX8_rank N σ x1 = some r) : CT Γ S l yX8_rank cX8_rank 4 (some (.int)) 2 81 0 0 [.ref (ga Γ 8 0), .int x1] (some (.int r)) σ σ := by
  unfold fX8_rank at hf
  refine ct_body (lv := [(0, .ref (ga Γ 8 0)), (1, .int x1)]) (by decide +kernel) rfl (Nat.le_of_ble_eq_true rfl) ?_
  intro p e s m below meth c ls X hr hk hK hw hl
  have hx := X.1
  have hb := X.2.1
  have hown := X.2.2.2
  refine lv_iconst (v := 0) hx hb dX8_rank_0 (by decide) ?_
  refine lv_istore_n (lv' := [(2, .int (0 : Int32)), (0, .ref (ga Γ 8 0)), (1, .int x1)]) hx hb dX8_rank_1 rfl hl (by decide) rfl (fun ls hl => ?_)
  refine lv_iconst (v := 0) hx hb dX8_rank_2 (by decide) ?_
  refine lv_istore_n (lv' := [(3, .int (0 : Int32)), (2, .int (0 : Int32)), (0, .ref (ga Γ 8 0)), (1, .int x1)]) hx hb dX8_rank_3 rfl hl (by decide) rfl (fun ls hl => ?_)
  have L4 : ∀ (K : Int32 → Int32 → Option (Int32)) (hkk : ∀ (y2 : Int32) (y3 : Int32) (H : Heap) (locs : List Loc) (ls : Array Slot), K y2 y3 = some r → Sit Γ σ s H locs → lv_has ls 4 [(2, .int y2)] → W p l e { frames := 2, cells := 0, slots := 0, locals := 81 } s m [.ref (ga Γ 8 0), .int x1].toArray below meth c H locs 0 0 (MQ below (Qg Γ (some (.int r)) σ (AA Γ s.heap.size)) [.ref (ga Γ 8 0), .int x1].toArray s 0 0 (AA Γ s.heap.size)) (F0 m 67 ls [])) (n : Nat) (v1 : Int32) (v2 : Int32) (H : Heap) (locs : List Loc) (ls : Array Slot), fX8_rank_L4 K N σ x1 n v1 v2 = some r → Sit Γ σ s H locs → lv_has ls 4 [(0, .ref (ga Γ 8 0)), (1, .int x1), (2, .int v1), (3, .int v2)] → W p l e { frames := 2, cells := 0, slots := 0, locals := 81 } s m [.ref (ga Γ 8 0), .int x1].toArray below meth c H locs 0 0 (MQ below (Qg Γ (some (.int r)) σ (AA Γ s.heap.size)) [.ref (ga Γ 8 0), .int x1].toArray s 0 0 (AA Γ s.heap.size)) (F0 m 4 ls []) := by
    intro K hkk n
    induction n with
    | zero =>
      intro _ _ _ _ _ hf
      exact nomatch hf
    | succ n ih =>
      intro v1 v2 H locs ls hf hw hl
      refine lv_iload_n hx hb dX8_rank_4 rfl (lv_at hl 3 rfl) ?_
      refine lv_aload_n hx hb dX8_rank_5 rfl (lv_at hl 0 rfl) ?_
      refine q_get (v := .int (gI σ 8 0 8)) hx hb hK hw hown in_X8 ins_X8 (rfl : vwCl[10]? = some (RX8, TX8, 32)) rfl (Nat.le_of_ble_eq_true rfl : 0 < cnt (gn Γ) 8) 8 (by decide) 1362 fl_X8_119 rfl rfl dX8_rank_6 ?_
      refine q_ic_ge (tgt := 67) hx hb hf dX8_rank_9 (by decide) (fun hf => ?_) (fun hf => ?_)
      · exact hkk _ _ _ _ _ hf hw (lv_sub hl [2] rfl)
      refine lv_iload_n hx hb dX8_rank_12 rfl (lv_at hl 2 rfl) ?_
      refine lv_aload_n hx hb dX8_rank_13 rfl (lv_at hl 0 rfl) ?_
      refine lv_iload_n hx hb dX8_rank_14 rfl (lv_at hl 3 rfl) ?_
      refine q_pI hf hw (fun v h => q_rV (As := [.int v2]) (rest := [.int v1]) (q := (RX8, TX8, 32)) X hK hw rfl (Nat.le_of_ble_eq_true rfl : 0 < cnt (gn Γ) 8) (rfl : vwCl[10]? = _) (kX8_isSeen h) mvX8_isSeen lk_X8_125 ⟨Nat.le_of_ble_eq_true rfl, Nat.le_of_ble_eq_true rfl⟩ rfl hl.1 rfl (Nat.le_of_ble_eq_true rfl) dX8_rank_15 ⟨Nat.le_of_ble_eq_true rfl, Nat.le_of_ble_eq_true rfl⟩) (fun v3 H locs hf hw => ?_)
      refine q_if_eq (tgt := 58) hx hb hf dX8_rank_18 (by decide) (fun hf => ?_) (fun hf => ?_)
      · refine lv_iconst (v := 0) hx hb dX8_rank_58 (by decide) ?_
        refine lv_iadd hx hb dX8_rank_59 ?_
        refine q_istore_n (lv1 := [(0, .ref (ga Γ 8 0)), (1, .int x1), (3, .int v2)]) hx hb hf dX8_rank_60 rfl hl (by decide) rfl (fun v4 ls hf hl => ?_)
        refine q_iinc (lv1 := [(2, .int v4), (0, .ref (ga Γ 8 0)), (1, .int x1)]) (d := 1) hx hb hf dX8_rank_61 hl (k := 3) rfl (by decide) (by decide) rfl (fun v5 ls hf hl => ?_)
        refine lv_goto (tgt := 4) hx hb dX8_rank_64 (by decide) ?_
        exact ih _ _ _ _ _ hf hw (lv_sub hl [2, 3, 1, 0] rfl)
      refine lv_aload_n hx hb dX8_rank_21 rfl (lv_at hl 0 rfl) ?_
      refine lv_iload_n hx hb dX8_rank_22 rfl (lv_at hl 3 rfl) ?_
      refine q_pF hf hw (fun v h => q_rV (As := [.int v2]) (rest := [.int v1]) (q := (RX8, TX8, 32)) X hK hw rfl (Nat.le_of_ble_eq_true rfl : 0 < cnt (gn Γ) 8) (rfl : vwCl[10]? = _) (kX8_key h) mvX8_key lk_X8_138 ⟨Nat.le_of_ble_eq_true rfl, Nat.le_of_ble_eq_true rfl⟩ rfl hl.1 rfl (Nat.le_of_ble_eq_true rfl) dX8_rank_23 ⟨Nat.le_of_ble_eq_true rfl, Nat.le_of_ble_eq_true rfl⟩) (fun v6 H locs hf hw => ?_)
      refine lv_aload_n hx hb dX8_rank_26 rfl (lv_at hl 0 rfl) ?_
      refine lv_iload_n hx hb dX8_rank_27 rfl (lv_at hl 1 rfl) ?_
      refine q_pF hf hw (fun v h => q_rV (As := [.int x1]) (rest := [.float v6, .int v1]) (q := (RX8, TX8, 32)) X hK hw rfl (Nat.le_of_ble_eq_true rfl : 0 < cnt (gn Γ) 8) (rfl : vwCl[10]? = _) (kX8_key h) mvX8_key lk_X8_138 ⟨Nat.le_of_ble_eq_true rfl, Nat.le_of_ble_eq_true rfl⟩ rfl hl.1 rfl (Nat.le_of_ble_eq_true rfl) dX8_rank_28 ⟨Nat.le_of_ble_eq_true rfl, Nat.le_of_ble_eq_true rfl⟩) (fun v7 H locs hf hw => ?_)
      refine lv_fcmp hx hb dX8_rank_31 ?_
      refine q_if_lt (tgt := 54) hx hb hf dX8_rank_32 (by decide) (fun hf => ?_) (fun hf => ?_)
      · refine lv_iconst (v := 1) hx hb dX8_rank_54 (by decide) ?_
        refine lv_goto (tgt := 59) hx hb dX8_rank_55 (by decide) ?_
        refine lv_iadd hx hb dX8_rank_59 ?_
        refine q_istore_n (lv1 := [(0, .ref (ga Γ 8 0)), (1, .int x1), (3, .int v2)]) hx hb hf dX8_rank_60 rfl hl (by decide) rfl (fun v8 ls hf hl => ?_)
        refine q_iinc (lv1 := [(2, .int v8), (0, .ref (ga Γ 8 0)), (1, .int x1)]) (d := 1) hx hb hf dX8_rank_61 hl (k := 3) rfl (by decide) (by decide) rfl (fun v9 ls hf hl => ?_)
        refine lv_goto (tgt := 4) hx hb dX8_rank_64 (by decide) ?_
        exact ih _ _ _ _ _ hf hw (lv_sub hl [2, 3, 1, 0] rfl)
      refine lv_aload_n hx hb dX8_rank_35 rfl (lv_at hl 0 rfl) ?_
      refine lv_iload_n hx hb dX8_rank_36 rfl (lv_at hl 3 rfl) ?_
      refine q_pF hf hw (fun v h => q_rV (As := [.int v2]) (rest := [.int v1]) (q := (RX8, TX8, 32)) X hK hw rfl (Nat.le_of_ble_eq_true rfl : 0 < cnt (gn Γ) 8) (rfl : vwCl[10]? = _) (kX8_key h) mvX8_key lk_X8_138 ⟨Nat.le_of_ble_eq_true rfl, Nat.le_of_ble_eq_true rfl⟩ rfl hl.1 rfl (Nat.le_of_ble_eq_true rfl) dX8_rank_37 ⟨Nat.le_of_ble_eq_true rfl, Nat.le_of_ble_eq_true rfl⟩) (fun v10 H locs hf hw => ?_)
      refine lv_aload_n hx hb dX8_rank_40 rfl (lv_at hl 0 rfl) ?_
      refine lv_iload_n hx hb dX8_rank_41 rfl (lv_at hl 1 rfl) ?_
      refine q_pF hf hw (fun v h => q_rV (As := [.int x1]) (rest := [.float v10, .int v1]) (q := (RX8, TX8, 32)) X hK hw rfl (Nat.le_of_ble_eq_true rfl : 0 < cnt (gn Γ) 8) (rfl : vwCl[10]? = _) (kX8_key h) mvX8_key lk_X8_138 ⟨Nat.le_of_ble_eq_true rfl, Nat.le_of_ble_eq_true rfl⟩ rfl hl.1 rfl (Nat.le_of_ble_eq_true rfl) dX8_rank_42 ⟨Nat.le_of_ble_eq_true rfl, Nat.le_of_ble_eq_true rfl⟩) (fun v11 H locs hf hw => ?_)
      refine lv_fcmp hx hb dX8_rank_45 ?_
      refine q_if_ne (tgt := 58) hx hb hf dX8_rank_46 (by decide) (fun hf => ?_) (fun hf => ?_)
      · refine lv_iconst (v := 0) hx hb dX8_rank_58 (by decide) ?_
        refine lv_iadd hx hb dX8_rank_59 ?_
        refine q_istore_n (lv1 := [(0, .ref (ga Γ 8 0)), (1, .int x1), (3, .int v2)]) hx hb hf dX8_rank_60 rfl hl (by decide) rfl (fun v12 ls hf hl => ?_)
        refine q_iinc (lv1 := [(2, .int v12), (0, .ref (ga Γ 8 0)), (1, .int x1)]) (d := 1) hx hb hf dX8_rank_61 hl (k := 3) rfl (by decide) (by decide) rfl (fun v13 ls hf hl => ?_)
        refine lv_goto (tgt := 4) hx hb dX8_rank_64 (by decide) ?_
        exact ih _ _ _ _ _ hf hw (lv_sub hl [2, 3, 1, 0] rfl)
      refine lv_iload_n hx hb dX8_rank_49 rfl (lv_at hl 3 rfl) ?_
      refine lv_iload_n hx hb dX8_rank_50 rfl (lv_at hl 1 rfl) ?_
      refine q_ic_ge (tgt := 58) hx hb hf dX8_rank_51 (by decide) (fun hf => ?_) (fun hf => ?_)
      · refine lv_iconst (v := 0) hx hb dX8_rank_58 (by decide) ?_
        refine lv_iadd hx hb dX8_rank_59 ?_
        refine q_istore_n (lv1 := [(0, .ref (ga Γ 8 0)), (1, .int x1), (3, .int v2)]) hx hb hf dX8_rank_60 rfl hl (by decide) rfl (fun v14 ls hf hl => ?_)
        refine q_iinc (lv1 := [(2, .int v14), (0, .ref (ga Γ 8 0)), (1, .int x1)]) (d := 1) hx hb hf dX8_rank_61 hl (k := 3) rfl (by decide) (by decide) rfl (fun v15 ls hf hl => ?_)
        refine lv_goto (tgt := 4) hx hb dX8_rank_64 (by decide) ?_
        exact ih _ _ _ _ _ hf hw (lv_sub hl [2, 3, 1, 0] rfl)
      refine lv_iconst (v := 1) hx hb dX8_rank_54 (by decide) ?_
      refine lv_goto (tgt := 59) hx hb dX8_rank_55 (by decide) ?_
      refine lv_iadd hx hb dX8_rank_59 ?_
      refine q_istore_n (lv1 := [(0, .ref (ga Γ 8 0)), (1, .int x1), (3, .int v2)]) hx hb hf dX8_rank_60 rfl hl (by decide) rfl (fun v16 ls hf hl => ?_)
      refine q_iinc (lv1 := [(2, .int v16), (0, .ref (ga Γ 8 0)), (1, .int x1)]) (d := 1) hx hb hf dX8_rank_61 hl (k := 3) rfl (by decide) (by decide) rfl (fun v17 ls hf hl => ?_)
      refine lv_goto (tgt := 4) hx hb dX8_rank_64 (by decide) ?_
      exact ih _ _ _ _ _ hf hw (lv_sub hl [2, 3, 1, 0] rfl)
  refine L4 _ (fun v18 _ H locs ls hf hw hl => ?_) N (0 : Int32) (0 : Int32) _ _ _ hf hw (lv_sub hl [2, 3, 1, 0] rfl)
  refine lv_iload_n hx hb dX8_rank_67 rfl (lv_at hl 0 rfl) ?_
  exact q_iret hf hx hb hr rfl hk hw dX8_rank_68 (Nat.le_of_ble_eq_true rfl) (Nat.le_of_ble_eq_true rfl)
set_option maxRecDepth 100000 in
theorem kX8_greatest {Γ : Gm} {S : List (String × Nat × String)} {l : Launch} {N : Nat} {σ : St} {r : Int32}  (hf : fX8_greatest N σ = some r) : CT Γ S l yX8_greatest cX8_greatest 3 (some (.int)) 2 81 0 0 [.ref (ga Γ 8 0)] (some (.int r)) σ σ := by
  unfold fX8_greatest at hf
  refine ct_body (lv := [(0, .ref (ga Γ 8 0))]) (by decide +kernel) rfl (Nat.le_of_ble_eq_true rfl) ?_
  intro p e s m below meth c ls X hr hk hK hw hl
  have hx := X.1
  have hb := X.2.1
  have hown := X.2.2.2
  refine lv_iconst (v := (-1)) hx hb dX8_greatest_0 (by decide) ?_
  refine q_istore_n (lv1 := [(0, .ref (ga Γ 8 0))]) hx hb hf dX8_greatest_1 rfl hl (by decide) rfl (fun v1 ls hf hl => ?_)
  refine lv_iconst (v := 0) hx hb dX8_greatest_2 (by decide) ?_
  refine lv_istore_n (lv' := [(2, .int (0 : Int32)), (1, .int v1), (0, .ref (ga Γ 8 0))]) hx hb dX8_greatest_3 rfl hl (by decide) rfl (fun ls hl => ?_)
  have L4 : ∀ (K : Int32 → Int32 → Option (Int32)) (hkk : ∀ (y1 : Int32) (y2 : Int32) (H : Heap) (locs : List Loc) (ls : Array Slot), K y1 y2 = some r → Sit Γ σ s H locs → lv_has ls 3 [(1, .int y1)] → W p l e { frames := 2, cells := 0, slots := 0, locals := 81 } s m [.ref (ga Γ 8 0)].toArray below meth c H locs 0 0 (MQ below (Qg Γ (some (.int r)) σ (AA Γ s.heap.size)) [.ref (ga Γ 8 0)].toArray s 0 0 (AA Γ s.heap.size)) (F0 m 50 ls [])) (n : Nat) (v2 : Int32) (v3 : Int32) (H : Heap) (locs : List Loc) (ls : Array Slot), fX8_greatest_L4 K N σ n v2 v3 = some r → Sit Γ σ s H locs → lv_has ls 3 [(0, .ref (ga Γ 8 0)), (1, .int v2), (2, .int v3)] → W p l e { frames := 2, cells := 0, slots := 0, locals := 81 } s m [.ref (ga Γ 8 0)].toArray below meth c H locs 0 0 (MQ below (Qg Γ (some (.int r)) σ (AA Γ s.heap.size)) [.ref (ga Γ 8 0)].toArray s 0 0 (AA Γ s.heap.size)) (F0 m 4 ls []) := by
    intro K hkk n
    induction n with
    | zero =>
      intro _ _ _ _ _ hf
      exact nomatch hf
    | succ n ih =>
      intro v2 v3 H locs ls hf hw hl
      refine lv_iload_n hx hb dX8_greatest_4 rfl (lv_at hl 2 rfl) ?_
      refine lv_aload_n hx hb dX8_greatest_5 rfl (lv_at hl 0 rfl) ?_
      refine q_get (v := .int (gI σ 8 0 8)) hx hb hK hw hown in_X8 ins_X8 (rfl : vwCl[10]? = some (RX8, TX8, 32)) rfl (Nat.le_of_ble_eq_true rfl : 0 < cnt (gn Γ) 8) 8 (by decide) 1362 fl_X8_119 rfl rfl dX8_greatest_6 ?_
      refine q_ic_ge (tgt := 50) hx hb hf dX8_greatest_9 (by decide) (fun hf => ?_) (fun hf => ?_)
      · exact hkk _ _ _ _ _ hf hw (lv_sub hl [1] rfl)
      refine lv_aload_n hx hb dX8_greatest_12 rfl (lv_at hl 0 rfl) ?_
      refine lv_iload_n hx hb dX8_greatest_13 rfl (lv_at hl 2 rfl) ?_
      refine q_pI hf hw (fun v h => q_rV (As := [.int v3]) (rest := []) (q := (RX8, TX8, 32)) X hK hw rfl (Nat.le_of_ble_eq_true rfl : 0 < cnt (gn Γ) 8) (rfl : vwCl[10]? = _) (kX8_isSeen h) mvX8_isSeen lk_X8_125 ⟨Nat.le_of_ble_eq_true rfl, Nat.le_of_ble_eq_true rfl⟩ rfl hl.1 rfl (Nat.le_of_ble_eq_true rfl) dX8_greatest_14 ⟨Nat.le_of_ble_eq_true rfl, Nat.le_of_ble_eq_true rfl⟩) (fun v4 H locs hf hw => ?_)
      refine q_if_eq (tgt := 42) hx hb hf dX8_greatest_17 (by decide) (fun hf => ?_) (fun hf => ?_)
      · refine lv_iload_n hx hb dX8_greatest_42 rfl (lv_at hl 1 rfl) ?_
        refine lv_istore_n (lv' := [(1, .int v2), (0, .ref (ga Γ 8 0)), (2, .int v3)]) hx hb dX8_greatest_43 rfl hl (by decide) rfl (fun ls hl => ?_)
        refine q_iinc (lv1 := [(1, .int v2), (0, .ref (ga Γ 8 0))]) (d := 1) hx hb hf dX8_greatest_44 hl (k := 2) rfl (by decide) (by decide) rfl (fun v5 ls hf hl => ?_)
        refine lv_goto (tgt := 4) hx hb dX8_greatest_47 (by decide) ?_
        exact ih _ _ _ _ _ hf hw (lv_sub hl [2, 1, 0] rfl)
      refine lv_iload_n hx hb dX8_greatest_20 rfl (lv_at hl 1 rfl) ?_
      refine q_if_lt (tgt := 38) hx hb hf dX8_greatest_21 (by decide) (fun hf => ?_) (fun hf => ?_)
      · refine lv_iload_n hx hb dX8_greatest_38 rfl (lv_at hl 2 rfl) ?_
        refine lv_goto (tgt := 43) hx hb dX8_greatest_39 (by decide) ?_
        refine lv_istore_n (lv' := [(1, .int v3), (0, .ref (ga Γ 8 0)), (2, .int v3)]) hx hb dX8_greatest_43 rfl hl (by decide) rfl (fun ls hl => ?_)
        refine q_iinc (lv1 := [(1, .int v3), (0, .ref (ga Γ 8 0))]) (d := 1) hx hb hf dX8_greatest_44 hl (k := 2) rfl (by decide) (by decide) rfl (fun v6 ls hf hl => ?_)
        refine lv_goto (tgt := 4) hx hb dX8_greatest_47 (by decide) ?_
        exact ih _ _ _ _ _ hf hw (lv_sub hl [2, 1, 0] rfl)
      refine lv_aload_n hx hb dX8_greatest_24 rfl (lv_at hl 0 rfl) ?_
      refine lv_iload_n hx hb dX8_greatest_25 rfl (lv_at hl 2 rfl) ?_
      refine q_pF hf hw (fun v h => q_rV (As := [.int v3]) (rest := []) (q := (RX8, TX8, 32)) X hK hw rfl (Nat.le_of_ble_eq_true rfl : 0 < cnt (gn Γ) 8) (rfl : vwCl[10]? = _) (kX8_key h) mvX8_key lk_X8_138 ⟨Nat.le_of_ble_eq_true rfl, Nat.le_of_ble_eq_true rfl⟩ rfl hl.1 rfl (Nat.le_of_ble_eq_true rfl) dX8_greatest_26 ⟨Nat.le_of_ble_eq_true rfl, Nat.le_of_ble_eq_true rfl⟩) (fun v7 H locs hf hw => ?_)
      refine lv_aload_n hx hb dX8_greatest_29 rfl (lv_at hl 0 rfl) ?_
      refine lv_iload_n hx hb dX8_greatest_30 rfl (lv_at hl 1 rfl) ?_
      refine q_pF hf hw (fun v h => q_rV (As := [.int v2]) (rest := [.float v7]) (q := (RX8, TX8, 32)) X hK hw rfl (Nat.le_of_ble_eq_true rfl : 0 < cnt (gn Γ) 8) (rfl : vwCl[10]? = _) (kX8_key h) mvX8_key lk_X8_138 ⟨Nat.le_of_ble_eq_true rfl, Nat.le_of_ble_eq_true rfl⟩ rfl hl.1 rfl (Nat.le_of_ble_eq_true rfl) dX8_greatest_31 ⟨Nat.le_of_ble_eq_true rfl, Nat.le_of_ble_eq_true rfl⟩) (fun v8 H locs hf hw => ?_)
      refine lv_fcmp hx hb dX8_greatest_34 ?_
      refine q_if_le (tgt := 42) hx hb hf dX8_greatest_35 (by decide) (fun hf => ?_) (fun hf => ?_)
      · refine lv_iload_n hx hb dX8_greatest_42 rfl (lv_at hl 1 rfl) ?_
        refine lv_istore_n (lv' := [(1, .int v2), (0, .ref (ga Γ 8 0)), (2, .int v3)]) hx hb dX8_greatest_43 rfl hl (by decide) rfl (fun ls hl => ?_)
        refine q_iinc (lv1 := [(1, .int v2), (0, .ref (ga Γ 8 0))]) (d := 1) hx hb hf dX8_greatest_44 hl (k := 2) rfl (by decide) (by decide) rfl (fun v9 ls hf hl => ?_)
        refine lv_goto (tgt := 4) hx hb dX8_greatest_47 (by decide) ?_
        exact ih _ _ _ _ _ hf hw (lv_sub hl [2, 1, 0] rfl)
      refine lv_iload_n hx hb dX8_greatest_38 rfl (lv_at hl 2 rfl) ?_
      refine lv_goto (tgt := 43) hx hb dX8_greatest_39 (by decide) ?_
      refine lv_istore_n (lv' := [(1, .int v3), (0, .ref (ga Γ 8 0)), (2, .int v3)]) hx hb dX8_greatest_43 rfl hl (by decide) rfl (fun ls hl => ?_)
      refine q_iinc (lv1 := [(1, .int v3), (0, .ref (ga Γ 8 0))]) (d := 1) hx hb hf dX8_greatest_44 hl (k := 2) rfl (by decide) (by decide) rfl (fun v10 ls hf hl => ?_)
      refine lv_goto (tgt := 4) hx hb dX8_greatest_47 (by decide) ?_
      exact ih _ _ _ _ _ hf hw (lv_sub hl [2, 1, 0] rfl)
  refine L4 _ (fun v11 _ H locs ls hf hw hl => ?_) N v1 (0 : Int32) _ _ _ hf hw (lv_sub hl [2, 1, 0] rfl)
  refine lv_iload_n hx hb dX8_greatest_50 rfl (lv_at hl 0 rfl) ?_
  exact q_iret hf hx hb hr rfl hk hw dX8_greatest_51 (Nat.le_of_ble_eq_true rfl) (Nat.le_of_ble_eq_true rfl)
set_option maxRecDepth 100000 in
theorem kX8_lowest {Γ : Gm} {S : List (String × Nat × String)} {l : Launch} {N : Nat} {σ : St} {r : Int32}  (hf : fX8_lowest N σ = some r) : CT Γ S l yX8_lowest cX8_lowest 3 (some (.int)) 2 81 0 0 [.ref (ga Γ 8 0)] (some (.int r)) σ σ := by
  unfold fX8_lowest at hf
  refine ct_body (lv := [(0, .ref (ga Γ 8 0))]) (by decide +kernel) rfl (Nat.le_of_ble_eq_true rfl) ?_
  intro p e s m below meth c ls X hr hk hK hw hl
  have hx := X.1
  have hb := X.2.1
  have hown := X.2.2.2
  refine lv_iconst (v := (-1)) hx hb dX8_lowest_0 (by decide) ?_
  refine q_istore_n (lv1 := [(0, .ref (ga Γ 8 0))]) hx hb hf dX8_lowest_1 rfl hl (by decide) rfl (fun v1 ls hf hl => ?_)
  refine lv_iconst (v := 0) hx hb dX8_lowest_2 (by decide) ?_
  refine lv_istore_n (lv' := [(2, .int (0 : Int32)), (1, .int v1), (0, .ref (ga Γ 8 0))]) hx hb dX8_lowest_3 rfl hl (by decide) rfl (fun ls hl => ?_)
  have L4 : ∀ (K : Int32 → Int32 → Option (Int32)) (hkk : ∀ (y1 : Int32) (y2 : Int32) (H : Heap) (locs : List Loc) (ls : Array Slot), K y1 y2 = some r → Sit Γ σ s H locs → lv_has ls 3 [(1, .int y1)] → W p l e { frames := 2, cells := 0, slots := 0, locals := 81 } s m [.ref (ga Γ 8 0)].toArray below meth c H locs 0 0 (MQ below (Qg Γ (some (.int r)) σ (AA Γ s.heap.size)) [.ref (ga Γ 8 0)].toArray s 0 0 (AA Γ s.heap.size)) (F0 m 50 ls [])) (n : Nat) (v2 : Int32) (v3 : Int32) (H : Heap) (locs : List Loc) (ls : Array Slot), fX8_lowest_L4 K N σ n v2 v3 = some r → Sit Γ σ s H locs → lv_has ls 3 [(0, .ref (ga Γ 8 0)), (1, .int v2), (2, .int v3)] → W p l e { frames := 2, cells := 0, slots := 0, locals := 81 } s m [.ref (ga Γ 8 0)].toArray below meth c H locs 0 0 (MQ below (Qg Γ (some (.int r)) σ (AA Γ s.heap.size)) [.ref (ga Γ 8 0)].toArray s 0 0 (AA Γ s.heap.size)) (F0 m 4 ls []) := by
    intro K hkk n
    induction n with
    | zero =>
      intro _ _ _ _ _ hf
      exact nomatch hf
    | succ n ih =>
      intro v2 v3 H locs ls hf hw hl
      refine lv_iload_n hx hb dX8_lowest_4 rfl (lv_at hl 2 rfl) ?_
      refine lv_aload_n hx hb dX8_lowest_5 rfl (lv_at hl 0 rfl) ?_
      refine q_get (v := .int (gI σ 8 0 8)) hx hb hK hw hown in_X8 ins_X8 (rfl : vwCl[10]? = some (RX8, TX8, 32)) rfl (Nat.le_of_ble_eq_true rfl : 0 < cnt (gn Γ) 8) 8 (by decide) 1362 fl_X8_119 rfl rfl dX8_lowest_6 ?_
      refine q_ic_ge (tgt := 50) hx hb hf dX8_lowest_9 (by decide) (fun hf => ?_) (fun hf => ?_)
      · exact hkk _ _ _ _ _ hf hw (lv_sub hl [1] rfl)
      refine lv_aload_n hx hb dX8_lowest_12 rfl (lv_at hl 0 rfl) ?_
      refine lv_iload_n hx hb dX8_lowest_13 rfl (lv_at hl 2 rfl) ?_
      refine q_pI hf hw (fun v h => q_rV (As := [.int v3]) (rest := []) (q := (RX8, TX8, 32)) X hK hw rfl (Nat.le_of_ble_eq_true rfl : 0 < cnt (gn Γ) 8) (rfl : vwCl[10]? = _) (kX8_isSeen h) mvX8_isSeen lk_X8_125 ⟨Nat.le_of_ble_eq_true rfl, Nat.le_of_ble_eq_true rfl⟩ rfl hl.1 rfl (Nat.le_of_ble_eq_true rfl) dX8_lowest_14 ⟨Nat.le_of_ble_eq_true rfl, Nat.le_of_ble_eq_true rfl⟩) (fun v4 H locs hf hw => ?_)
      refine q_if_eq (tgt := 42) hx hb hf dX8_lowest_17 (by decide) (fun hf => ?_) (fun hf => ?_)
      · refine lv_iload_n hx hb dX8_lowest_42 rfl (lv_at hl 1 rfl) ?_
        refine lv_istore_n (lv' := [(1, .int v2), (0, .ref (ga Γ 8 0)), (2, .int v3)]) hx hb dX8_lowest_43 rfl hl (by decide) rfl (fun ls hl => ?_)
        refine q_iinc (lv1 := [(1, .int v2), (0, .ref (ga Γ 8 0))]) (d := 1) hx hb hf dX8_lowest_44 hl (k := 2) rfl (by decide) (by decide) rfl (fun v5 ls hf hl => ?_)
        refine lv_goto (tgt := 4) hx hb dX8_lowest_47 (by decide) ?_
        exact ih _ _ _ _ _ hf hw (lv_sub hl [2, 1, 0] rfl)
      refine lv_iload_n hx hb dX8_lowest_20 rfl (lv_at hl 1 rfl) ?_
      refine q_if_lt (tgt := 38) hx hb hf dX8_lowest_21 (by decide) (fun hf => ?_) (fun hf => ?_)
      · refine lv_iload_n hx hb dX8_lowest_38 rfl (lv_at hl 2 rfl) ?_
        refine lv_goto (tgt := 43) hx hb dX8_lowest_39 (by decide) ?_
        refine lv_istore_n (lv' := [(1, .int v3), (0, .ref (ga Γ 8 0)), (2, .int v3)]) hx hb dX8_lowest_43 rfl hl (by decide) rfl (fun ls hl => ?_)
        refine q_iinc (lv1 := [(1, .int v3), (0, .ref (ga Γ 8 0))]) (d := 1) hx hb hf dX8_lowest_44 hl (k := 2) rfl (by decide) (by decide) rfl (fun v6 ls hf hl => ?_)
        refine lv_goto (tgt := 4) hx hb dX8_lowest_47 (by decide) ?_
        exact ih _ _ _ _ _ hf hw (lv_sub hl [2, 1, 0] rfl)
      refine lv_aload_n hx hb dX8_lowest_24 rfl (lv_at hl 0 rfl) ?_
      refine lv_iload_n hx hb dX8_lowest_25 rfl (lv_at hl 2 rfl) ?_
      refine q_pF hf hw (fun v h => q_rV (As := [.int v3]) (rest := []) (q := (RX8, TX8, 32)) X hK hw rfl (Nat.le_of_ble_eq_true rfl : 0 < cnt (gn Γ) 8) (rfl : vwCl[10]? = _) (kX8_key h) mvX8_key lk_X8_138 ⟨Nat.le_of_ble_eq_true rfl, Nat.le_of_ble_eq_true rfl⟩ rfl hl.1 rfl (Nat.le_of_ble_eq_true rfl) dX8_lowest_26 ⟨Nat.le_of_ble_eq_true rfl, Nat.le_of_ble_eq_true rfl⟩) (fun v7 H locs hf hw => ?_)
      refine lv_aload_n hx hb dX8_lowest_29 rfl (lv_at hl 0 rfl) ?_
      refine lv_iload_n hx hb dX8_lowest_30 rfl (lv_at hl 1 rfl) ?_
      refine q_pF hf hw (fun v h => q_rV (As := [.int v2]) (rest := [.float v7]) (q := (RX8, TX8, 32)) X hK hw rfl (Nat.le_of_ble_eq_true rfl : 0 < cnt (gn Γ) 8) (rfl : vwCl[10]? = _) (kX8_key h) mvX8_key lk_X8_138 ⟨Nat.le_of_ble_eq_true rfl, Nat.le_of_ble_eq_true rfl⟩ rfl hl.1 rfl (Nat.le_of_ble_eq_true rfl) dX8_lowest_31 ⟨Nat.le_of_ble_eq_true rfl, Nat.le_of_ble_eq_true rfl⟩) (fun v8 H locs hf hw => ?_)
      refine lv_fcmp hx hb dX8_lowest_34 ?_
      refine q_if_ge (tgt := 42) hx hb hf dX8_lowest_35 (by decide) (fun hf => ?_) (fun hf => ?_)
      · refine lv_iload_n hx hb dX8_lowest_42 rfl (lv_at hl 1 rfl) ?_
        refine lv_istore_n (lv' := [(1, .int v2), (0, .ref (ga Γ 8 0)), (2, .int v3)]) hx hb dX8_lowest_43 rfl hl (by decide) rfl (fun ls hl => ?_)
        refine q_iinc (lv1 := [(1, .int v2), (0, .ref (ga Γ 8 0))]) (d := 1) hx hb hf dX8_lowest_44 hl (k := 2) rfl (by decide) (by decide) rfl (fun v9 ls hf hl => ?_)
        refine lv_goto (tgt := 4) hx hb dX8_lowest_47 (by decide) ?_
        exact ih _ _ _ _ _ hf hw (lv_sub hl [2, 1, 0] rfl)
      refine lv_iload_n hx hb dX8_lowest_38 rfl (lv_at hl 2 rfl) ?_
      refine lv_goto (tgt := 43) hx hb dX8_lowest_39 (by decide) ?_
      refine lv_istore_n (lv' := [(1, .int v3), (0, .ref (ga Γ 8 0)), (2, .int v3)]) hx hb dX8_lowest_43 rfl hl (by decide) rfl (fun ls hl => ?_)
      refine q_iinc (lv1 := [(1, .int v3), (0, .ref (ga Γ 8 0))]) (d := 1) hx hb hf dX8_lowest_44 hl (k := 2) rfl (by decide) (by decide) rfl (fun v10 ls hf hl => ?_)
      refine lv_goto (tgt := 4) hx hb dX8_lowest_47 (by decide) ?_
      exact ih _ _ _ _ _ hf hw (lv_sub hl [2, 1, 0] rfl)
  refine L4 _ (fun v11 _ H locs ls hf hw hl => ?_) N v1 (0 : Int32) _ _ _ hf hw (lv_sub hl [2, 1, 0] rfl)
  refine lv_iload_n hx hb dX8_lowest_50 rfl (lv_at hl 0 rfl) ?_
  exact q_iret hf hx hb hr rfl hk hw dX8_lowest_51 (Nat.le_of_ble_eq_true rfl) (Nat.le_of_ble_eq_true rfl)
set_option maxRecDepth 100000 in
theorem kX8_isInside {Γ : Gm} {S : List (String × Nat × String)} {l : Launch} {N : Nat} {σ : St} {x1 : Int32} {x2 : Int32} {r : Int32}  (hf : fX8_isInside N σ x1 x2 = some r) : CT Γ S l yX8_isInside cX8_isInside 3 (some (.boolean)) 1 21 0 0 [.ref (ga Γ 8 0), .int x1, .int x2] (some (.int r)) σ σ := by
  unfold fX8_isInside at hf
  refine ct_body (lv := [(0, .ref (ga Γ 8 0)), (1, .int x1), (2, .int x2)]) (by decide +kernel) rfl (Nat.le_of_ble_eq_true rfl) ?_
  intro p e s m below meth c ls X hr hk hK hw hl
  have hx := X.1
  have hb := X.2.1
  have hown := X.2.2.2
  refine lv_aload_n hx hb dX8_isInside_0 rfl (lv_at hl 0 rfl) ?_
  refine lv_iload_n hx hb dX8_isInside_1 rfl (lv_at hl 1 rfl) ?_
  refine q_pI hf hw (fun v h => q_rV (As := [.int x1]) (rest := []) (q := (RX8, TX8, 32)) X hK hw rfl (Nat.le_of_ble_eq_true rfl : 0 < cnt (gn Γ) 8) (rfl : vwCl[10]? = _) (kX8_column h) mvX8_column lk_X8_141 ⟨Nat.le_of_ble_eq_true rfl, Nat.le_of_ble_eq_true rfl⟩ rfl hl.1 rfl (Nat.le_of_ble_eq_true rfl) dX8_isInside_2 ⟨Nat.le_of_ble_eq_true rfl, Nat.le_of_ble_eq_true rfl⟩) (fun v1 H locs hf hw => ?_)
  refine lv_aload_n hx hb dX8_isInside_5 rfl (lv_at hl 0 rfl) ?_
  refine lv_iload_n hx hb dX8_isInside_6 rfl (lv_at hl 2 rfl) ?_
  refine q_pI hf hw (fun v h => q_rV (As := [.int x2]) (rest := [.int v1]) (q := (RX8, TX8, 32)) X hK hw rfl (Nat.le_of_ble_eq_true rfl : 0 < cnt (gn Γ) 8) (rfl : vwCl[10]? = _) (kX8_column h) mvX8_column lk_X8_141 ⟨Nat.le_of_ble_eq_true rfl, Nat.le_of_ble_eq_true rfl⟩ rfl hl.1 rfl (Nat.le_of_ble_eq_true rfl) dX8_isInside_7 ⟨Nat.le_of_ble_eq_true rfl, Nat.le_of_ble_eq_true rfl⟩) (fun v2 H locs hf hw => ?_)
  refine q_ic_lt (tgt := 84) hx hb hf dX8_isInside_10 (by decide) (fun hf => ?_) (fun hf => ?_)
  · refine lv_iconst (v := 0) hx hb dX8_isInside_84 (by decide) ?_
    exact q_iret hf hx hb hr rfl hk hw dX8_isInside_85 (Nat.le_of_ble_eq_true rfl) (Nat.le_of_ble_eq_true rfl)
  refine lv_aload_n hx hb dX8_isInside_13 rfl (lv_at hl 0 rfl) ?_
  refine lv_iload_n hx hb dX8_isInside_14 rfl (lv_at hl 1 rfl) ?_
  refine q_pI hf hw (fun v h => q_rV (As := [.int x1]) (rest := []) (q := (RX8, TX8, 32)) X hK hw rfl (Nat.le_of_ble_eq_true rfl : 0 < cnt (gn Γ) 8) (rfl : vwCl[10]? = _) (kX8_row h) mvX8_row lk_X8_145 ⟨Nat.le_of_ble_eq_true rfl, Nat.le_of_ble_eq_true rfl⟩ rfl hl.1 rfl (Nat.le_of_ble_eq_true rfl) dX8_isInside_15 ⟨Nat.le_of_ble_eq_true rfl, Nat.le_of_ble_eq_true rfl⟩) (fun v3 H locs hf hw => ?_)
  refine lv_aload_n hx hb dX8_isInside_18 rfl (lv_at hl 0 rfl) ?_
  refine lv_iload_n hx hb dX8_isInside_19 rfl (lv_at hl 2 rfl) ?_
  refine q_pI hf hw (fun v h => q_rV (As := [.int x2]) (rest := [.int v3]) (q := (RX8, TX8, 32)) X hK hw rfl (Nat.le_of_ble_eq_true rfl : 0 < cnt (gn Γ) 8) (rfl : vwCl[10]? = _) (kX8_row h) mvX8_row lk_X8_145 ⟨Nat.le_of_ble_eq_true rfl, Nat.le_of_ble_eq_true rfl⟩ rfl hl.1 rfl (Nat.le_of_ble_eq_true rfl) dX8_isInside_20 ⟨Nat.le_of_ble_eq_true rfl, Nat.le_of_ble_eq_true rfl⟩) (fun v4 H locs hf hw => ?_)
  refine q_ic_lt (tgt := 84) hx hb hf dX8_isInside_23 (by decide) (fun hf => ?_) (fun hf => ?_)
  · refine lv_iconst (v := 0) hx hb dX8_isInside_84 (by decide) ?_
    exact q_iret hf hx hb hr rfl hk hw dX8_isInside_85 (Nat.le_of_ble_eq_true rfl) (Nat.le_of_ble_eq_true rfl)
  refine lv_aload_n hx hb dX8_isInside_26 rfl (lv_at hl 0 rfl) ?_
  refine lv_iload_n hx hb dX8_isInside_27 rfl (lv_at hl 1 rfl) ?_
  refine q_pI hf hw (fun v h => q_rV (As := [.int x1]) (rest := []) (q := (RX8, TX8, 32)) X hK hw rfl (Nat.le_of_ble_eq_true rfl : 0 < cnt (gn Γ) 8) (rfl : vwCl[10]? = _) (kX8_column h) mvX8_column lk_X8_141 ⟨Nat.le_of_ble_eq_true rfl, Nat.le_of_ble_eq_true rfl⟩ rfl hl.1 rfl (Nat.le_of_ble_eq_true rfl) dX8_isInside_28 ⟨Nat.le_of_ble_eq_true rfl, Nat.le_of_ble_eq_true rfl⟩) (fun v5 H locs hf hw => ?_)
  refine lv_aload_n hx hb dX8_isInside_31 rfl (lv_at hl 0 rfl) ?_
  refine q_get (v := .ref (ga Γ 140 0)) hx hb hK hw hown in_X8 ins_X8 (rfl : vwCl[10]? = some (RX8, TX8, 32)) rfl (Nat.le_of_ble_eq_true rfl : 0 < cnt (gn Γ) 8) 1 (by decide) 1355 fl_X8_9 rfl rfl dX8_isInside_32 ?_
  refine lv_iload_n hx hb dX8_isInside_35 rfl (lv_at hl 1 rfl) ?_
  refine q_iald hx hb hK hw (k := 140) (o := 0) (fun _ _ _ => rfl) (Nat.le_of_ble_eq_true rfl : 0 < cnt (gn Γ) 140) hf dX8_isInside_36 (fun hf => ?_)
  refine lv_iadd hx hb dX8_isInside_37 ?_
  refine lv_aload_n hx hb dX8_isInside_38 rfl (lv_at hl 0 rfl) ?_
  refine lv_iload_n hx hb dX8_isInside_39 rfl (lv_at hl 2 rfl) ?_
  refine q_pI hf hw (fun v h => q_rV (As := [.int x2]) (rest := [.int (v5 + (gI σ 140 0 (Int32.toNatClampNeg x1)))]) (q := (RX8, TX8, 32)) X hK hw rfl (Nat.le_of_ble_eq_true rfl : 0 < cnt (gn Γ) 8) (rfl : vwCl[10]? = _) (kX8_column h) mvX8_column lk_X8_141 ⟨Nat.le_of_ble_eq_true rfl, Nat.le_of_ble_eq_true rfl⟩ rfl hl.1 rfl (Nat.le_of_ble_eq_true rfl) dX8_isInside_40 ⟨Nat.le_of_ble_eq_true rfl, Nat.le_of_ble_eq_true rfl⟩) (fun v6 H locs hf hw => ?_)
  refine lv_aload_n hx hb dX8_isInside_43 rfl (lv_at hl 0 rfl) ?_
  refine q_get (v := .ref (ga Γ 140 0)) hx hb hK hw hown in_X8 ins_X8 (rfl : vwCl[10]? = some (RX8, TX8, 32)) rfl (Nat.le_of_ble_eq_true rfl : 0 < cnt (gn Γ) 8) 1 (by decide) 1355 fl_X8_9 rfl rfl dX8_isInside_44 ?_
  refine lv_iload_n hx hb dX8_isInside_47 rfl (lv_at hl 2 rfl) ?_
  refine q_iald hx hb hK hw (k := 140) (o := 0) (fun _ _ _ => rfl) (Nat.le_of_ble_eq_true rfl : 0 < cnt (gn Γ) 140) hf dX8_isInside_48 (fun hf => ?_)
  refine lv_iadd hx hb dX8_isInside_49 ?_
  refine q_ic_gt (tgt := 84) hx hb hf dX8_isInside_50 (by decide) (fun hf => ?_) (fun hf => ?_)
  · refine lv_iconst (v := 0) hx hb dX8_isInside_84 (by decide) ?_
    exact q_iret hf hx hb hr rfl hk hw dX8_isInside_85 (Nat.le_of_ble_eq_true rfl) (Nat.le_of_ble_eq_true rfl)
  refine lv_aload_n hx hb dX8_isInside_53 rfl (lv_at hl 0 rfl) ?_
  refine lv_iload_n hx hb dX8_isInside_54 rfl (lv_at hl 1 rfl) ?_
  refine q_pI hf hw (fun v h => q_rV (As := [.int x1]) (rest := []) (q := (RX8, TX8, 32)) X hK hw rfl (Nat.le_of_ble_eq_true rfl : 0 < cnt (gn Γ) 8) (rfl : vwCl[10]? = _) (kX8_row h) mvX8_row lk_X8_145 ⟨Nat.le_of_ble_eq_true rfl, Nat.le_of_ble_eq_true rfl⟩ rfl hl.1 rfl (Nat.le_of_ble_eq_true rfl) dX8_isInside_55 ⟨Nat.le_of_ble_eq_true rfl, Nat.le_of_ble_eq_true rfl⟩) (fun v7 H locs hf hw => ?_)
  refine lv_aload_n hx hb dX8_isInside_58 rfl (lv_at hl 0 rfl) ?_
  refine q_get (v := .ref (ga Γ 141 0)) hx hb hK hw hown in_X8 ins_X8 (rfl : vwCl[10]? = some (RX8, TX8, 32)) rfl (Nat.le_of_ble_eq_true rfl : 0 < cnt (gn Γ) 8) 2 (by decide) 1356 fl_X8_13 rfl rfl dX8_isInside_59 ?_
  refine lv_iload_n hx hb dX8_isInside_62 rfl (lv_at hl 1 rfl) ?_
  refine q_iald hx hb hK hw (k := 141) (o := 0) (fun _ _ _ => rfl) (Nat.le_of_ble_eq_true rfl : 0 < cnt (gn Γ) 141) hf dX8_isInside_63 (fun hf => ?_)
  refine lv_iadd hx hb dX8_isInside_64 ?_
  refine lv_aload_n hx hb dX8_isInside_65 rfl (lv_at hl 0 rfl) ?_
  refine lv_iload_n hx hb dX8_isInside_66 rfl (lv_at hl 2 rfl) ?_
  refine q_pI hf hw (fun v h => q_rV (As := [.int x2]) (rest := [.int (v7 + (gI σ 141 0 (Int32.toNatClampNeg x1)))]) (q := (RX8, TX8, 32)) X hK hw rfl (Nat.le_of_ble_eq_true rfl : 0 < cnt (gn Γ) 8) (rfl : vwCl[10]? = _) (kX8_row h) mvX8_row lk_X8_145 ⟨Nat.le_of_ble_eq_true rfl, Nat.le_of_ble_eq_true rfl⟩ rfl hl.1 rfl (Nat.le_of_ble_eq_true rfl) dX8_isInside_67 ⟨Nat.le_of_ble_eq_true rfl, Nat.le_of_ble_eq_true rfl⟩) (fun v8 H locs hf hw => ?_)
  refine lv_aload_n hx hb dX8_isInside_70 rfl (lv_at hl 0 rfl) ?_
  refine q_get (v := .ref (ga Γ 141 0)) hx hb hK hw hown in_X8 ins_X8 (rfl : vwCl[10]? = some (RX8, TX8, 32)) rfl (Nat.le_of_ble_eq_true rfl : 0 < cnt (gn Γ) 8) 2 (by decide) 1356 fl_X8_13 rfl rfl dX8_isInside_71 ?_
  refine lv_iload_n hx hb dX8_isInside_74 rfl (lv_at hl 2 rfl) ?_
  refine q_iald hx hb hK hw (k := 141) (o := 0) (fun _ _ _ => rfl) (Nat.le_of_ble_eq_true rfl : 0 < cnt (gn Γ) 141) hf dX8_isInside_75 (fun hf => ?_)
  refine lv_iadd hx hb dX8_isInside_76 ?_
  refine q_ic_gt (tgt := 84) hx hb hf dX8_isInside_77 (by decide) (fun hf => ?_) (fun hf => ?_)
  · refine lv_iconst (v := 0) hx hb dX8_isInside_84 (by decide) ?_
    exact q_iret hf hx hb hr rfl hk hw dX8_isInside_85 (Nat.le_of_ble_eq_true rfl) (Nat.le_of_ble_eq_true rfl)
  refine lv_iconst (v := 1) hx hb dX8_isInside_80 (by decide) ?_
  refine lv_goto (tgt := 85) hx hb dX8_isInside_81 (by decide) ?_
  exact q_iret hf hx hb hr rfl hk hw dX8_isInside_85 (Nat.le_of_ble_eq_true rfl) (Nat.le_of_ble_eq_true rfl)
set_option maxRecDepth 100000 in
theorem kX8_isBarred {Γ : Gm} {S : List (String × Nat × String)} {l : Launch} {N : Nat} {σ : St} {x1 : Int32} {x2 : Int32} {r : Int32}  (hf : fX8_isBarred N σ x1 x2 = some r) : CT Γ S l yX8_isBarred cX8_isBarred 3 (some (.boolean)) 0 0 0 0 [.ref (ga Γ 8 0), .int x1, .int x2] (some (.int r)) σ σ := by
  unfold fX8_isBarred at hf
  refine ct_body (lv := [(0, .ref (ga Γ 8 0)), (1, .int x1), (2, .int x2)]) (by decide +kernel) rfl (Nat.le_of_ble_eq_true rfl) ?_
  intro p e s m below meth c ls X hr hk hK hw hl
  have hx := X.1
  have hb := X.2.1
  have hown := X.2.2.2
  refine lv_aload_n hx hb dX8_isBarred_0 rfl (lv_at hl 0 rfl) ?_
  refine q_get (v := .ref (ga Γ 157 0)) hx hb hK hw hown in_X8 ins_X8 (rfl : vwCl[10]? = some (RX8, TX8, 32)) rfl (Nat.le_of_ble_eq_true rfl : 0 < cnt (gn Γ) 8) 21 (by decide) 1375 fl_X8_67 rfl rfl dX8_isBarred_1 ?_
  refine lv_bipush (v := 36) hx hb dX8_isBarred_4 (by decide) ?_
  refine lv_iload_n hx hb dX8_isBarred_6 rfl (lv_at hl 2 rfl) ?_
  refine lv_iadd hx hb dX8_isBarred_7 ?_
  refine q_iald hx hb hK hw (k := 157) (o := 0) (fun _ _ _ => rfl) (Nat.le_of_ble_eq_true rfl : 0 < cnt (gn Γ) 157) hf dX8_isBarred_8 (fun hf => ?_)
  refine lv_iconst (v := (-1)) hx hb dX8_isBarred_9 (by decide) ?_
  refine q_ic_eq (tgt := 30) hx hb hf dX8_isBarred_10 (by decide) (fun hf => ?_) (fun hf => ?_)
  · refine lv_iconst (v := 0) hx hb dX8_isBarred_30 (by decide) ?_
    exact q_iret hf hx hb hr rfl hk hw dX8_isBarred_31 (Nat.le_of_ble_eq_true rfl) (Nat.le_of_ble_eq_true rfl)
  refine lv_aload_n hx hb dX8_isBarred_13 rfl (lv_at hl 0 rfl) ?_
  refine q_get (v := .ref (ga Γ 157 0)) hx hb hK hw hown in_X8 ins_X8 (rfl : vwCl[10]? = some (RX8, TX8, 32)) rfl (Nat.le_of_ble_eq_true rfl : 0 < cnt (gn Γ) 8) 21 (by decide) 1375 fl_X8_67 rfl rfl dX8_isBarred_14 ?_
  refine lv_bipush (v := 36) hx hb dX8_isBarred_17 (by decide) ?_
  refine lv_iload_n hx hb dX8_isBarred_19 rfl (lv_at hl 2 rfl) ?_
  refine lv_iadd hx hb dX8_isBarred_20 ?_
  refine q_iald hx hb hK hw (k := 157) (o := 0) (fun _ _ _ => rfl) (Nat.le_of_ble_eq_true rfl : 0 < cnt (gn Γ) 157) hf dX8_isBarred_21 (fun hf => ?_)
  refine lv_iload_n hx hb dX8_isBarred_22 rfl (lv_at hl 1 rfl) ?_
  refine q_ic_eq (tgt := 30) hx hb hf dX8_isBarred_23 (by decide) (fun hf => ?_) (fun hf => ?_)
  · refine lv_iconst (v := 0) hx hb dX8_isBarred_30 (by decide) ?_
    exact q_iret hf hx hb hr rfl hk hw dX8_isBarred_31 (Nat.le_of_ble_eq_true rfl) (Nat.le_of_ble_eq_true rfl)
  refine lv_iconst (v := 1) hx hb dX8_isBarred_26 (by decide) ?_
  refine lv_goto (tgt := 31) hx hb dX8_isBarred_27 (by decide) ?_
  exact q_iret hf hx hb hr rfl hk hw dX8_isBarred_31 (Nat.le_of_ble_eq_true rfl) (Nat.le_of_ble_eq_true rfl)
set_option maxRecDepth 100000 in
theorem kX8_restores {Γ : Gm} {S : List (String × Nat × String)} {l : Launch} {N : Nat} {σ τ : St} {x1 : Int32} {x2 : Int32} {x3 : Int32}  (hf : fX8_restores N σ x1 x2 x3 = some τ) : CT Γ S l yX8_restores cX8_restores 4 none 0 0 0 0 [.ref (ga Γ 8 0), .int x1, .int x2, .int x3] none σ τ := by
  unfold fX8_restores at hf
  refine ct_body (lv := [(0, .ref (ga Γ 8 0)), (1, .int x1), (2, .int x2), (3, .int x3)]) (by decide +kernel) rfl (Nat.le_of_ble_eq_true rfl) ?_
  intro p e s m below meth c ls X hr hk hK hw hl
  have hx := X.1
  have hb := X.2.1
  have hown := X.2.2.2
  refine lv_aload_n hx hb dX8_restores_0 rfl (lv_at hl 0 rfl) ?_
  refine q_get (v := .ref (ga Γ 166 0)) hx hb hK hw hown in_X8 ins_X8 (rfl : vwCl[10]? = some (RX8, TX8, 32)) rfl (Nat.le_of_ble_eq_true rfl : 0 < cnt (gn Γ) 8) 24 (by decide) 1378 fl_X8_76 rfl rfl dX8_restores_1 ?_
  refine lv_aload_n hx hb dX8_restores_4 rfl (lv_at hl 0 rfl) ?_
  refine q_get (v := .int (gI σ 8 0 27)) hx hb hK hw hown in_X8 ins_X8 (rfl : vwCl[10]? = some (RX8, TX8, 32)) rfl (Nat.le_of_ble_eq_true rfl : 0 < cnt (gn Γ) 8) 27 (by decide) 1381 fl_X8_148 rfl rfl dX8_restores_5 ?_
  refine lv_iload_n hx hb dX8_restores_8 rfl (lv_at hl 1 rfl) ?_
  refine q_iast hx hb hK hw (k := 166) (o := 0) (fun _ _ _ => rfl) (Nat.le_of_ble_eq_true rfl : 0 < cnt (gn Γ) 166) hf dX8_restores_9 (fun σ1 H locs hf hw => ?_)
  refine lv_aload_n hx hb dX8_restores_10 rfl (lv_at hl 0 rfl) ?_
  refine q_get (v := .ref (ga Γ 167 0)) hx hb hK hw hown in_X8 ins_X8 (rfl : vwCl[10]? = some (RX8, TX8, 32)) rfl (Nat.le_of_ble_eq_true rfl : 0 < cnt (gn Γ) 8) 25 (by decide) 1379 fl_X8_79 rfl rfl dX8_restores_11 ?_
  refine lv_aload_n hx hb dX8_restores_14 rfl (lv_at hl 0 rfl) ?_
  refine q_get (v := .int (gI σ1 8 0 27)) hx hb hK hw hown in_X8 ins_X8 (rfl : vwCl[10]? = some (RX8, TX8, 32)) rfl (Nat.le_of_ble_eq_true rfl : 0 < cnt (gn Γ) 8) 27 (by decide) 1381 fl_X8_148 rfl rfl dX8_restores_15 ?_
  refine lv_iload_n hx hb dX8_restores_18 rfl (lv_at hl 2 rfl) ?_
  refine q_iast hx hb hK hw (k := 167) (o := 0) (fun _ _ _ => rfl) (Nat.le_of_ble_eq_true rfl : 0 < cnt (gn Γ) 167) hf dX8_restores_19 (fun σ2 H locs hf hw => ?_)
  refine lv_aload_n hx hb dX8_restores_20 rfl (lv_at hl 0 rfl) ?_
  refine q_get (v := .ref (ga Γ 168 0)) hx hb hK hw hown in_X8 ins_X8 (rfl : vwCl[10]? = some (RX8, TX8, 32)) rfl (Nat.le_of_ble_eq_true rfl : 0 < cnt (gn Γ) 8) 26 (by decide) 1380 fl_X8_82 rfl rfl dX8_restores_21 ?_
  refine lv_aload_n hx hb dX8_restores_24 rfl (lv_at hl 0 rfl) ?_
  refine q_get (v := .int (gI σ2 8 0 27)) hx hb hK hw hown in_X8 ins_X8 (rfl : vwCl[10]? = some (RX8, TX8, 32)) rfl (Nat.le_of_ble_eq_true rfl : 0 < cnt (gn Γ) 8) 27 (by decide) 1381 fl_X8_148 rfl rfl dX8_restores_25 ?_
  refine lv_iload_n hx hb dX8_restores_28 rfl (lv_at hl 3 rfl) ?_
  refine q_iast hx hb hK hw (k := 168) (o := 0) (fun _ _ _ => rfl) (Nat.le_of_ble_eq_true rfl : 0 < cnt (gn Γ) 168) hf dX8_restores_29 (fun σ3 H locs hf hw => ?_)
  refine lv_aload_n hx hb dX8_restores_30 rfl (lv_at hl 0 rfl) ?_
  refine lv_dup hx hb dX8_restores_31 rfl ?_
  refine q_get (v := .int (gI σ3 8 0 27)) hx hb hK hw hown in_X8 ins_X8 (rfl : vwCl[10]? = some (RX8, TX8, 32)) rfl (Nat.le_of_ble_eq_true rfl : 0 < cnt (gn Γ) 8) 27 (by decide) 1381 fl_X8_148 rfl rfl dX8_restores_32 ?_
  refine lv_iconst (v := 1) hx hb dX8_restores_35 (by decide) ?_
  refine lv_iadd hx hb dX8_restores_36 ?_
  refine q_puti (v := ((gI σ3 8 0 27) + (1 : Int32))) hx hb hK hw hown in_X8 ins_X8 tyX8 tyX8_ok nmX8 (rfl : vwCl[10]? = some (RX8, TX8, 32)) (fun _ _ _ => rfl) (Nat.le_of_ble_eq_true rfl : 0 < cnt (gn Γ) 8) 27 (by decide) 1381 fl_X8_148 rfl rfl rfl (fun _ _ _ => Nat.le_of_ble_eq_true rfl) (fun _ _ _ => rfl) hf dX8_restores_37 (fun σ4 H locs hf hw => ?_)
  exact q_vret hx hb hr hk hw dX8_restores_40 hf (Nat.le_of_ble_eq_true rfl) (Nat.le_of_ble_eq_true rfl)
set_option maxRecDepth 100000 in
theorem kX8_plans {Γ : Gm} {S : List (String × Nat × String)} {l : Launch} {N : Nat} {σ τ : St} {x1 : Int32} {x2 : Int32}  (hf : fX8_plans N σ x1 x2 = some τ) : CT Γ S l yX8_plans cX8_plans 3 none 1 23 0 0 [.ref (ga Γ 8 0), .int x1, .int x2] none σ τ := by
  unfold fX8_plans at hf
  refine ct_body (lv := [(0, .ref (ga Γ 8 0)), (1, .int x1), (2, .int x2)]) (by decide +kernel) rfl (Nat.le_of_ble_eq_true rfl) ?_
  intro p e s m below meth c ls X hr hk hK hw hl
  have hx := X.1
  have hb := X.2.1
  have hown := X.2.2.2
  refine lv_aload_n hx hb dX8_plans_0 rfl (lv_at hl 0 rfl) ?_
  refine lv_iload_n hx hb dX8_plans_1 rfl (lv_at hl 1 rfl) ?_
  refine lv_iload_n hx hb dX8_plans_2 rfl (lv_at hl 2 rfl) ?_
  refine lv_aload_n hx hb dX8_plans_3 rfl (lv_at hl 0 rfl) ?_
  refine q_get (v := .int (gI σ 8 0 20)) hx hb hK hw hown in_X8 ins_X8 (rfl : vwCl[10]? = some (RX8, TX8, 32)) rfl (Nat.le_of_ble_eq_true rfl : 0 < cnt (gn Γ) 8) 20 (by decide) 1374 fl_X8_108 rfl rfl dX8_plans_4 ?_
  refine q_eV hf hw (fun τ h => q_rV (As := [.int x1, .int x2, .int (gI σ 8 0 20)]) (rest := []) (q := (RX8, TX8, 32)) X hK hw rfl (Nat.le_of_ble_eq_true rfl : 0 < cnt (gn Γ) 8) (rfl : vwCl[10]? = _) (kX8_restores h) mvX8_restores lk_X8_151 ⟨Nat.le_of_ble_eq_true rfl, Nat.le_of_ble_eq_true rfl⟩ rfl hl.1 rfl (Nat.le_of_ble_eq_true rfl) dX8_plans_7 ⟨Nat.le_of_ble_eq_true rfl, Nat.le_of_ble_eq_true rfl⟩) (fun σ1 H locs hf hw => ?_)
  exact q_vret hx hb hr hk hw dX8_plans_10 hf (Nat.le_of_ble_eq_true rfl) (Nat.le_of_ble_eq_true rfl)
