/-! Contracts, by program. -/
set_option maxRecDepth 100000 in
theorem kX8_knows {Γ : Gm} {S : List (String × Nat × String)} {l : Launch} {N : Nat} {σ τ : St} {x1 : Int32} {x2 : Int32} {r : Int32}  (hf : fX8_knows N σ x1 x2 = some (r, τ)) : CT Γ S l yX8_knows cX8_knows 3 (some (.boolean)) 2 43 0 0 [.ref (ga Γ 8 0), .int x1, .int x2] (some (.int r)) σ τ := by
  unfold fX8_knows at hf
  refine ct_body (lv := [(0, .ref (ga Γ 8 0)), (1, .int x1), (2, .int x2)]) (by decide +kernel) rfl (Nat.le_of_ble_eq_true rfl) ?_
  intro p e s m below meth c ls X hr hk hK hw hl
  have hx := X.1
  have hb := X.2.1
  have hown := X.2.2.2
  refine lv_aload_n hx hb dX8_knows_0 rfl (lv_at hl 0 rfl) ?_
  refine lv_iconst (v := 0) hx hb dX8_knows_1 (by decide) ?_
  refine q_puti (v := (0 : Int32)) hx hb hK hw hown in_X8 ins_X8 tyX8 tyX8_ok nmX8 (rfl : vwCl[10]? = some (RX8, TX8, 32)) (fun _ _ _ => rfl) (Nat.le_of_ble_eq_true rfl : 0 < cnt (gn Γ) 8) 0 (by decide) 1354 fl_X8_97 rfl rfl rfl (fun _ _ _ => Nat.le_of_ble_eq_true rfl) (fun _ _ _ => rfl) hf dX8_knows_2 (fun σ1 H locs hf hw => ?_)
  refine lv_iload_n hx hb dX8_knows_5 rfl (lv_at hl 1 rfl) ?_
  refine q_pI hf hw (fun v h => q_rS (As := [.int x1]) (rest := []) X hK hw (kX8_isUser h) msX8_isUser lk_X8_165 ⟨Nat.le_of_ble_eq_true rfl, Nat.le_of_ble_eq_true rfl⟩ rfl hl.1 rfl (Nat.le_of_ble_eq_true rfl) dX8_knows_6 ⟨Nat.le_of_ble_eq_true rfl, Nat.le_of_ble_eq_true rfl⟩) (fun v2 H locs hf hw => ?_)
  refine q_if_ne (tgt := 18) hx hb hf dX8_knows_9 (by decide) (fun hf => ?_) (fun hf => ?_)
  · refine lv_aload_n hx hb dX8_knows_18 rfl (lv_at hl 0 rfl) ?_
    refine lv_iload_n hx hb dX8_knows_19 rfl (lv_at hl 2 rfl) ?_
    refine q_pI hf hw (fun v h => q_rV (As := [.int x2]) (rest := []) (q := (RX8, TX8, 32)) X hK hw rfl (Nat.le_of_ble_eq_true rfl : 0 < cnt (gn Γ) 8) (rfl : vwCl[10]? = _) (kX8_isOperation h) mvX8_isOperation lk_X8_222 ⟨Nat.le_of_ble_eq_true rfl, Nat.le_of_ble_eq_true rfl⟩ rfl hl.1 rfl (Nat.le_of_ble_eq_true rfl) dX8_knows_20 ⟨Nat.le_of_ble_eq_true rfl, Nat.le_of_ble_eq_true rfl⟩) (fun v3 H locs hf hw => ?_)
    refine q_if_eq (tgt := 37) hx hb hf dX8_knows_23 (by decide) (fun hf => ?_) (fun hf => ?_)
    · refine lv_aload_n hx hb dX8_knows_37 rfl (lv_at hl 0 rfl) ?_
      refine lv_iconst (v := 2) hx hb dX8_knows_38 (by decide) ?_
      refine q_eI hf hw (fun v τ h => q_rV (As := [.int (2 : Int32)]) (rest := []) (q := (RX8, TX8, 32)) X hK hw rfl (Nat.le_of_ble_eq_true rfl : 0 < cnt (gn Γ) 8) (rfl : vwCl[10]? = _) (kX8_isWrong h) mvX8_isWrong lk_X8_219 ⟨Nat.le_of_ble_eq_true rfl, Nat.le_of_ble_eq_true rfl⟩ rfl hl.1 rfl (Nat.le_of_ble_eq_true rfl) dX8_knows_39 ⟨Nat.le_of_ble_eq_true rfl, Nat.le_of_ble_eq_true rfl⟩) (fun v5 σ4 H locs hf hw => ?_)
      exact q_enret hf hx hb hr vn_Z hk hw dX8_knows_42 (Nat.le_of_ble_eq_true rfl) (Nat.le_of_ble_eq_true rfl)
    refine lv_aload_n hx hb dX8_knows_26 rfl (lv_at hl 0 rfl) ?_
    refine q_get (v := .ref (ga Γ 156 0)) hx hb hK hw hown in_X8 ins_X8 (rfl : vwCl[10]? = some (RX8, TX8, 32)) rfl (Nat.le_of_ble_eq_true rfl : 0 < cnt (gn Γ) 8) 19 (by decide) 1373 fl_X8_64 rfl rfl dX8_knows_27 ?_
    refine lv_iload_n hx hb dX8_knows_30 rfl (lv_at hl 1 rfl) ?_
    have ho_b6 := inb_lt (ck_t hf).1
    refine q_aalB hx hb hK hw (k := 156) (o := 0) (fun _ _ _ => rfl) (Nat.le_of_ble_eq_true rfl : 0 < cnt (gn Γ) 156) hf dX8_knows_31 (fun hf => ?_)
    refine lv_iload_n hx hb dX8_knows_32 rfl (lv_at hl 2 rfl) ?_
    refine q_zald hx hb hK hw (k := 165) (o := (Int32.toNatClampNeg x1)) (fun _ _ _ => rfl) ho_b6 hf dX8_knows_33 (fun hf => ?_)
    refine lv_goto (tgt := 42) hx hb dX8_knows_34 (by decide) ?_
    exact q_enret hf hx hb hr vn_Z hk hw dX8_knows_42 (Nat.le_of_ble_eq_true rfl) (Nat.le_of_ble_eq_true rfl)
  refine lv_aload_n hx hb dX8_knows_12 rfl (lv_at hl 0 rfl) ?_
  refine lv_iconst (v := 1) hx hb dX8_knows_13 (by decide) ?_
  refine q_eI hf hw (fun v τ h => q_rV (As := [.int (1 : Int32)]) (rest := []) (q := (RX8, TX8, 32)) X hK hw rfl (Nat.le_of_ble_eq_true rfl : 0 < cnt (gn Γ) 8) (rfl : vwCl[10]? = _) (kX8_isWrong h) mvX8_isWrong lk_X8_219 ⟨Nat.le_of_ble_eq_true rfl, Nat.le_of_ble_eq_true rfl⟩ rfl hl.1 rfl (Nat.le_of_ble_eq_true rfl) dX8_knows_14 ⟨Nat.le_of_ble_eq_true rfl, Nat.le_of_ble_eq_true rfl⟩) (fun v8 σ7 H locs hf hw => ?_)
  exact q_enret hf hx hb hr vn_Z hk hw dX8_knows_17 (Nat.le_of_ble_eq_true rfl) (Nat.le_of_ble_eq_true rfl)
set_option maxRecDepth 100000 in
theorem kX8_isNobody {Γ : Gm} {S : List (String × Nat × String)} {l : Launch} {N : Nat} {σ τ : St} {x1 : Int32} {r : Int32}  (hf : fX8_isNobody N σ x1 = some (r, τ)) : CT Γ S l yX8_isNobody cX8_isNobody 2 (some (.boolean)) 3 66 0 0 [.ref (ga Γ 8 0), .int x1] (some (.int r)) σ τ := by
  unfold fX8_isNobody at hf
  refine ct_body (lv := [(0, .ref (ga Γ 8 0)), (1, .int x1)]) (by decide +kernel) rfl (Nat.le_of_ble_eq_true rfl) ?_
  intro p e s m below meth c ls X hr hk hK hw hl
  have hx := X.1
  have hb := X.2.1
  have hown := X.2.2.2
  refine lv_aload_n hx hb dX8_isNobody_0 rfl (lv_at hl 0 rfl) ?_
  refine lv_iload_n hx hb dX8_isNobody_1 rfl (lv_at hl 1 rfl) ?_
  refine q_pI hf hw (fun v h => q_rS (As := [.int x1]) (rest := [.ref (ga Γ 8 0)]) X hK hw (kX8_isUser h) msX8_isUser lk_X8_165 ⟨Nat.le_of_ble_eq_true rfl, Nat.le_of_ble_eq_true rfl⟩ rfl hl.1 rfl (Nat.le_of_ble_eq_true rfl) dX8_isNobody_2 ⟨Nat.le_of_ble_eq_true rfl, Nat.le_of_ble_eq_true rfl⟩) (fun v1 H locs hf hw => ?_)
  refine q_if_eq (tgt := 12) hx hb hf dX8_isNobody_5 (by decide) (fun hf => ?_) (fun hf => ?_)
  · refine lv_iconst (v := 1) hx hb dX8_isNobody_12 (by decide) ?_
    refine q_puti (v := (1 : Int32)) hx hb hK hw hown in_X8 ins_X8 tyX8 tyX8_ok nmX8 (rfl : vwCl[10]? = some (RX8, TX8, 32)) (fun _ _ _ => rfl) (Nat.le_of_ble_eq_true rfl : 0 < cnt (gn Γ) 8) 0 (by decide) 1354 fl_X8_97 rfl rfl rfl (fun _ _ _ => Nat.le_of_ble_eq_true rfl) (fun _ _ _ => rfl) hf dX8_isNobody_13 (fun σ2 H locs hf hw => ?_)
    refine lv_aload_n hx hb dX8_isNobody_16 rfl (lv_at hl 0 rfl) ?_
    refine q_get (v := .int (gI σ2 8 0 0)) hx hb hK hw hown in_X8 ins_X8 (rfl : vwCl[10]? = some (RX8, TX8, 32)) rfl (Nat.le_of_ble_eq_true rfl : 0 < cnt (gn Γ) 8) 0 (by decide) 1354 fl_X8_97 rfl rfl dX8_isNobody_17 ?_
    refine q_if_ne (tgt := 28) hx hb hf dX8_isNobody_20 (by decide) (fun hf => ?_) (fun hf => ?_)
    · refine lv_aload_n hx hb dX8_isNobody_28 rfl (lv_at hl 0 rfl) ?_
      refine q_get (v := .int (gI σ2 8 0 0)) hx hb hK hw hown in_X8 ins_X8 (rfl : vwCl[10]? = some (RX8, TX8, 32)) rfl (Nat.le_of_ble_eq_true rfl : 0 < cnt (gn Γ) 8) 0 (by decide) 1354 fl_X8_97 rfl rfl dX8_isNobody_29 ?_
      refine q_if_le (tgt := 39) hx hb hf dX8_isNobody_32 (by decide) (fun hf => ?_) (fun hf => ?_)
      · refine lv_iconst (v := 0) hx hb dX8_isNobody_39 (by decide) ?_
        exact q_eiret hf hx hb hr rfl hk hw dX8_isNobody_40 (Nat.le_of_ble_eq_true rfl) (Nat.le_of_ble_eq_true rfl)
      refine lv_iconst (v := 1) hx hb dX8_isNobody_35 (by decide) ?_
      refine lv_goto (tgt := 40) hx hb dX8_isNobody_36 (by decide) ?_
      exact q_eiret hf hx hb hr rfl hk hw dX8_isNobody_40 (Nat.le_of_ble_eq_true rfl) (Nat.le_of_ble_eq_true rfl)
    refine lv_aload_n hx hb dX8_isNobody_23 rfl (lv_at hl 0 rfl) ?_
    refine lv_iload_n hx hb dX8_isNobody_24 rfl (lv_at hl 1 rfl) ?_
    refine q_eV hf hw (fun τ h => q_rV (As := [.int x1]) (rest := []) (q := (RX8, TX8, 32)) X hK hw rfl (Nat.le_of_ble_eq_true rfl : 0 < cnt (gn Γ) 8) (rfl : vwCl[10]? = _) (kX8_builds h) mvX8_builds lk_X8_161 ⟨Nat.le_of_ble_eq_true rfl, Nat.le_of_ble_eq_true rfl⟩ rfl hl.1 rfl (Nat.le_of_ble_eq_true rfl) dX8_isNobody_25 ⟨Nat.le_of_ble_eq_true rfl, Nat.le_of_ble_eq_true rfl⟩) (fun σ3 H locs hf hw => ?_)
    refine lv_aload_n hx hb dX8_isNobody_28 rfl (lv_at hl 0 rfl) ?_
    refine q_get (v := .int (gI σ3 8 0 0)) hx hb hK hw hown in_X8 ins_X8 (rfl : vwCl[10]? = some (RX8, TX8, 32)) rfl (Nat.le_of_ble_eq_true rfl : 0 < cnt (gn Γ) 8) 0 (by decide) 1354 fl_X8_97 rfl rfl dX8_isNobody_29 ?_
    refine q_if_le (tgt := 39) hx hb hf dX8_isNobody_32 (by decide) (fun hf => ?_) (fun hf => ?_)
    · refine lv_iconst (v := 0) hx hb dX8_isNobody_39 (by decide) ?_
      exact q_eiret hf hx hb hr rfl hk hw dX8_isNobody_40 (Nat.le_of_ble_eq_true rfl) (Nat.le_of_ble_eq_true rfl)
    refine lv_iconst (v := 1) hx hb dX8_isNobody_35 (by decide) ?_
    refine lv_goto (tgt := 40) hx hb dX8_isNobody_36 (by decide) ?_
    exact q_eiret hf hx hb hr rfl hk hw dX8_isNobody_40 (Nat.le_of_ble_eq_true rfl) (Nat.le_of_ble_eq_true rfl)
  refine lv_iconst (v := 0) hx hb dX8_isNobody_8 (by decide) ?_
  refine lv_goto (tgt := 13) hx hb dX8_isNobody_9 (by decide) ?_
  refine q_puti (v := (0 : Int32)) hx hb hK hw hown in_X8 ins_X8 tyX8 tyX8_ok nmX8 (rfl : vwCl[10]? = some (RX8, TX8, 32)) (fun _ _ _ => rfl) (Nat.le_of_ble_eq_true rfl : 0 < cnt (gn Γ) 8) 0 (by decide) 1354 fl_X8_97 rfl rfl rfl (fun _ _ _ => Nat.le_of_ble_eq_true rfl) (fun _ _ _ => rfl) hf dX8_isNobody_13 (fun σ4 H locs hf hw => ?_)
  refine lv_aload_n hx hb dX8_isNobody_16 rfl (lv_at hl 0 rfl) ?_
  refine q_get (v := .int (gI σ4 8 0 0)) hx hb hK hw hown in_X8 ins_X8 (rfl : vwCl[10]? = some (RX8, TX8, 32)) rfl (Nat.le_of_ble_eq_true rfl : 0 < cnt (gn Γ) 8) 0 (by decide) 1354 fl_X8_97 rfl rfl dX8_isNobody_17 ?_
  refine q_if_ne (tgt := 28) hx hb hf dX8_isNobody_20 (by decide) (fun hf => ?_) (fun hf => ?_)
  · refine lv_aload_n hx hb dX8_isNobody_28 rfl (lv_at hl 0 rfl) ?_
    refine q_get (v := .int (gI σ4 8 0 0)) hx hb hK hw hown in_X8 ins_X8 (rfl : vwCl[10]? = some (RX8, TX8, 32)) rfl (Nat.le_of_ble_eq_true rfl : 0 < cnt (gn Γ) 8) 0 (by decide) 1354 fl_X8_97 rfl rfl dX8_isNobody_29 ?_
    refine q_if_le (tgt := 39) hx hb hf dX8_isNobody_32 (by decide) (fun hf => ?_) (fun hf => ?_)
    · refine lv_iconst (v := 0) hx hb dX8_isNobody_39 (by decide) ?_
      exact q_eiret hf hx hb hr rfl hk hw dX8_isNobody_40 (Nat.le_of_ble_eq_true rfl) (Nat.le_of_ble_eq_true rfl)
    refine lv_iconst (v := 1) hx hb dX8_isNobody_35 (by decide) ?_
    refine lv_goto (tgt := 40) hx hb dX8_isNobody_36 (by decide) ?_
    exact q_eiret hf hx hb hr rfl hk hw dX8_isNobody_40 (Nat.le_of_ble_eq_true rfl) (Nat.le_of_ble_eq_true rfl)
  refine lv_aload_n hx hb dX8_isNobody_23 rfl (lv_at hl 0 rfl) ?_
  refine lv_iload_n hx hb dX8_isNobody_24 rfl (lv_at hl 1 rfl) ?_
  refine q_eV hf hw (fun τ h => q_rV (As := [.int x1]) (rest := []) (q := (RX8, TX8, 32)) X hK hw rfl (Nat.le_of_ble_eq_true rfl : 0 < cnt (gn Γ) 8) (rfl : vwCl[10]? = _) (kX8_builds h) mvX8_builds lk_X8_161 ⟨Nat.le_of_ble_eq_true rfl, Nat.le_of_ble_eq_true rfl⟩ rfl hl.1 rfl (Nat.le_of_ble_eq_true rfl) dX8_isNobody_25 ⟨Nat.le_of_ble_eq_true rfl, Nat.le_of_ble_eq_true rfl⟩) (fun σ5 H locs hf hw => ?_)
  refine lv_aload_n hx hb dX8_isNobody_28 rfl (lv_at hl 0 rfl) ?_
  refine q_get (v := .int (gI σ5 8 0 0)) hx hb hK hw hown in_X8 ins_X8 (rfl : vwCl[10]? = some (RX8, TX8, 32)) rfl (Nat.le_of_ble_eq_true rfl : 0 < cnt (gn Γ) 8) 0 (by decide) 1354 fl_X8_97 rfl rfl dX8_isNobody_29 ?_
  refine q_if_le (tgt := 39) hx hb hf dX8_isNobody_32 (by decide) (fun hf => ?_) (fun hf => ?_)
  · refine lv_iconst (v := 0) hx hb dX8_isNobody_39 (by decide) ?_
    exact q_eiret hf hx hb hr rfl hk hw dX8_isNobody_40 (Nat.le_of_ble_eq_true rfl) (Nat.le_of_ble_eq_true rfl)
  refine lv_iconst (v := 1) hx hb dX8_isNobody_35 (by decide) ?_
  refine lv_goto (tgt := 40) hx hb dX8_isNobody_36 (by decide) ?_
  exact q_eiret hf hx hb hr rfl hk hw dX8_isNobody_40 (Nat.le_of_ble_eq_true rfl) (Nat.le_of_ble_eq_true rfl)
set_option maxRecDepth 100000 in
theorem kX8_isUnseen {Γ : Gm} {S : List (String × Nat × String)} {l : Launch} {N : Nat} {σ τ : St} {x1 : Int32} {x2 : Int32} {r : Int32}  (hf : fX8_isUnseen N σ x1 x2 = some (r, τ)) : CT Γ S l yX8_isUnseen cX8_isUnseen 3 (some (.boolean)) 4 87 0 0 [.ref (ga Γ 8 0), .int x1, .int x2] (some (.int r)) σ τ := by
  unfold fX8_isUnseen at hf
  refine ct_body (lv := [(0, .ref (ga Γ 8 0)), (1, .int x1), (2, .int x2)]) (by decide +kernel) rfl (Nat.le_of_ble_eq_true rfl) ?_
  intro p e s m below meth c ls X hr hk hK hw hl
  have hx := X.1
  have hb := X.2.1
  have hown := X.2.2.2
  refine lv_aload_n hx hb dX8_isUnseen_0 rfl (lv_at hl 0 rfl) ?_
  refine lv_iload_n hx hb dX8_isUnseen_1 rfl (lv_at hl 1 rfl) ?_
  refine q_eI hf hw (fun v τ h => q_rV (As := [.int x1]) (rest := []) (q := (RX8, TX8, 32)) X hK hw rfl (Nat.le_of_ble_eq_true rfl : 0 < cnt (gn Γ) 8) (rfl : vwCl[10]? = _) (kX8_isNobody h) mvX8_isNobody lk_X8_228 ⟨Nat.le_of_ble_eq_true rfl, Nat.le_of_ble_eq_true rfl⟩ rfl hl.1 rfl (Nat.le_of_ble_eq_true rfl) dX8_isUnseen_2 ⟨Nat.le_of_ble_eq_true rfl, Nat.le_of_ble_eq_true rfl⟩) (fun v2 σ1 H locs hf hw => ?_)
  refine q_if_ne (tgt := 21) hx hb hf dX8_isUnseen_5 (by decide) (fun hf => ?_) (fun hf => ?_)
  · refine lv_aload_n hx hb dX8_isUnseen_21 rfl (lv_at hl 0 rfl) ?_
    refine q_get (v := .int (gI σ1 8 0 0)) hx hb hK hw hown in_X8 ins_X8 (rfl : vwCl[10]? = some (RX8, TX8, 32)) rfl (Nat.le_of_ble_eq_true rfl : 0 < cnt (gn Γ) 8) 0 (by decide) 1354 fl_X8_97 rfl rfl dX8_isUnseen_22 ?_
    refine q_if_le (tgt := 32) hx hb hf dX8_isUnseen_25 (by decide) (fun hf => ?_) (fun hf => ?_)
    · refine lv_iconst (v := 0) hx hb dX8_isUnseen_32 (by decide) ?_
      exact q_eiret hf hx hb hr rfl hk hw dX8_isUnseen_33 (Nat.le_of_ble_eq_true rfl) (Nat.le_of_ble_eq_true rfl)
    refine lv_iconst (v := 1) hx hb dX8_isUnseen_28 (by decide) ?_
    refine lv_goto (tgt := 33) hx hb dX8_isUnseen_29 (by decide) ?_
    exact q_eiret hf hx hb hr rfl hk hw dX8_isUnseen_33 (Nat.le_of_ble_eq_true rfl) (Nat.le_of_ble_eq_true rfl)
  refine lv_aload_n hx hb dX8_isUnseen_8 rfl (lv_at hl 0 rfl) ?_
  refine lv_iload_n hx hb dX8_isUnseen_9 rfl (lv_at hl 2 rfl) ?_
  refine q_pI hf hw (fun v h => q_rV (As := [.int x2]) (rest := []) (q := (RX8, TX8, 32)) X hK hw rfl (Nat.le_of_ble_eq_true rfl : 0 < cnt (gn Γ) 8) (rfl : vwCl[10]? = _) (kX8_isSeen h) mvX8_isSeen lk_X8_125 ⟨Nat.le_of_ble_eq_true rfl, Nat.le_of_ble_eq_true rfl⟩ rfl hl.1 rfl (Nat.le_of_ble_eq_true rfl) dX8_isUnseen_10 ⟨Nat.le_of_ble_eq_true rfl, Nat.le_of_ble_eq_true rfl⟩) (fun v3 H locs hf hw => ?_)
  refine q_if_ne (tgt := 21) hx hb hf dX8_isUnseen_13 (by decide) (fun hf => ?_) (fun hf => ?_)
  · refine lv_aload_n hx hb dX8_isUnseen_21 rfl (lv_at hl 0 rfl) ?_
    refine q_get (v := .int (gI σ1 8 0 0)) hx hb hK hw hown in_X8 ins_X8 (rfl : vwCl[10]? = some (RX8, TX8, 32)) rfl (Nat.le_of_ble_eq_true rfl : 0 < cnt (gn Γ) 8) 0 (by decide) 1354 fl_X8_97 rfl rfl dX8_isUnseen_22 ?_
    refine q_if_le (tgt := 32) hx hb hf dX8_isUnseen_25 (by decide) (fun hf => ?_) (fun hf => ?_)
    · refine lv_iconst (v := 0) hx hb dX8_isUnseen_32 (by decide) ?_
      exact q_eiret hf hx hb hr rfl hk hw dX8_isUnseen_33 (Nat.le_of_ble_eq_true rfl) (Nat.le_of_ble_eq_true rfl)
    refine lv_iconst (v := 1) hx hb dX8_isUnseen_28 (by decide) ?_
    refine lv_goto (tgt := 33) hx hb dX8_isUnseen_29 (by decide) ?_
    exact q_eiret hf hx hb hr rfl hk hw dX8_isUnseen_33 (Nat.le_of_ble_eq_true rfl) (Nat.le_of_ble_eq_true rfl)
  refine lv_aload_n hx hb dX8_isUnseen_16 rfl (lv_at hl 0 rfl) ?_
  refine lv_iconst (v := 2) hx hb dX8_isUnseen_17 (by decide) ?_
  refine q_puti (v := (2 : Int32)) hx hb hK hw hown in_X8 ins_X8 tyX8 tyX8_ok nmX8 (rfl : vwCl[10]? = some (RX8, TX8, 32)) (fun _ _ _ => rfl) (Nat.le_of_ble_eq_true rfl : 0 < cnt (gn Γ) 8) 0 (by decide) 1354 fl_X8_97 rfl rfl rfl (fun _ _ _ => Nat.le_of_ble_eq_true rfl) (fun _ _ _ => rfl) hf dX8_isUnseen_18 (fun σ4 H locs hf hw => ?_)
  refine lv_aload_n hx hb dX8_isUnseen_21 rfl (lv_at hl 0 rfl) ?_
  refine q_get (v := .int (gI σ4 8 0 0)) hx hb hK hw hown in_X8 ins_X8 (rfl : vwCl[10]? = some (RX8, TX8, 32)) rfl (Nat.le_of_ble_eq_true rfl : 0 < cnt (gn Γ) 8) 0 (by decide) 1354 fl_X8_97 rfl rfl dX8_isUnseen_22 ?_
  refine q_if_le (tgt := 32) hx hb hf dX8_isUnseen_25 (by decide) (fun hf => ?_) (fun hf => ?_)
  · refine lv_iconst (v := 0) hx hb dX8_isUnseen_32 (by decide) ?_
    exact q_eiret hf hx hb hr rfl hk hw dX8_isUnseen_33 (Nat.le_of_ble_eq_true rfl) (Nat.le_of_ble_eq_true rfl)
  refine lv_iconst (v := 1) hx hb dX8_isUnseen_28 (by decide) ?_
  refine lv_goto (tgt := 33) hx hb dX8_isUnseen_29 (by decide) ?_
  exact q_eiret hf hx hb hr rfl hk hw dX8_isUnseen_33 (Nat.le_of_ble_eq_true rfl) (Nat.le_of_ble_eq_true rfl)
set_option maxRecDepth 100000 in
theorem kX8_shapes {Γ : Gm} {S : List (String × Nat × String)} {l : Launch} {N : Nat} {σ τ : St} {x1 : Int32} {r : Int32}  (hf : fX8_shapes N σ x1 = some (r, τ)) : CT Γ S l yX8_shapes cX8_shapes 2 (some (.int)) 4 87 0 0 [.ref (ga Γ 8 0), .int x1] (some (.int r)) σ τ := by
  unfold fX8_shapes at hf
  refine ct_body (lv := [(0, .ref (ga Γ 8 0)), (1, .int x1)]) (by decide +kernel) rfl (Nat.le_of_ble_eq_true rfl) ?_
  intro p e s m below meth c ls X hr hk hK hw hl
  have hx := X.1
  have hb := X.2.1
  have hown := X.2.2.2
  refine lv_aload_n hx hb dX8_shapes_0 rfl (lv_at hl 0 rfl) ?_
  refine lv_iload_n hx hb dX8_shapes_1 rfl (lv_at hl 1 rfl) ?_
  refine q_eI hf hw (fun v τ h => q_rV (As := [.int x1]) (rest := []) (q := (RX8, TX8, 32)) X hK hw rfl (Nat.le_of_ble_eq_true rfl : 0 < cnt (gn Γ) 8) (rfl : vwCl[10]? = _) (kX8_isNobody h) mvX8_isNobody lk_X8_228 ⟨Nat.le_of_ble_eq_true rfl, Nat.le_of_ble_eq_true rfl⟩ rfl hl.1 rfl (Nat.le_of_ble_eq_true rfl) dX8_shapes_2 ⟨Nat.le_of_ble_eq_true rfl, Nat.le_of_ble_eq_true rfl⟩) (fun v2 σ1 H locs hf hw => ?_)
  refine q_if_eq (tgt := 12) hx hb hf dX8_shapes_5 (by decide) (fun hf => ?_) (fun hf => ?_)
  · refine lv_aload_n hx hb dX8_shapes_12 rfl (lv_at hl 0 rfl) ?_
    refine q_pI hf hw (fun v h => q_rV (As := []) (rest := []) (q := (RX8, TX8, 32)) X hK hw rfl (Nat.le_of_ble_eq_true rfl : 0 < cnt (gn Γ) 8) (rfl : vwCl[10]? = _) (kX8_seenMany h) mvX8_seenMany lk_X8_209 ⟨Nat.le_of_ble_eq_true rfl, Nat.le_of_ble_eq_true rfl⟩ rfl hl.1 rfl (Nat.le_of_ble_eq_true rfl) dX8_shapes_13 ⟨Nat.le_of_ble_eq_true rfl, Nat.le_of_ble_eq_true rfl⟩) (fun v3 H locs hf hw => ?_)
    exact q_eiret hf hx hb hr rfl hk hw dX8_shapes_16 (Nat.le_of_ble_eq_true rfl) (Nat.le_of_ble_eq_true rfl)
  refine lv_iconst (v := 0) hx hb dX8_shapes_8 (by decide) ?_
  refine lv_goto (tgt := 16) hx hb dX8_shapes_9 (by decide) ?_
  exact q_eiret hf hx hb hr rfl hk hw dX8_shapes_16 (Nat.le_of_ble_eq_true rfl) (Nat.le_of_ble_eq_true rfl)
set_option maxRecDepth 100000 in
theorem kX8_sees {Γ : Gm} {S : List (String × Nat × String)} {l : Launch} {N : Nat} {σ τ : St} {x1 : Int32} {x2 : Int32} {r : Int32}  (hf : fX8_sees N σ x1 x2 = some (r, τ)) : CT Γ S l yX8_sees cX8_sees 3 (some (.boolean)) 4 87 0 0 [.ref (ga Γ 8 0), .int x1, .int x2] (some (.int r)) σ τ := by
  unfold fX8_sees at hf
  refine ct_body (lv := [(0, .ref (ga Γ 8 0)), (1, .int x1), (2, .int x2)]) (by decide +kernel) rfl (Nat.le_of_ble_eq_true rfl) ?_
  intro p e s m below meth c ls X hr hk hK hw hl
  have hx := X.1
  have hb := X.2.1
  have hown := X.2.2.2
  refine lv_aload_n hx hb dX8_sees_0 rfl (lv_at hl 0 rfl) ?_
  refine lv_iload_n hx hb dX8_sees_1 rfl (lv_at hl 1 rfl) ?_
  refine q_eI hf hw (fun v τ h => q_rV (As := [.int x1]) (rest := []) (q := (RX8, TX8, 32)) X hK hw rfl (Nat.le_of_ble_eq_true rfl : 0 < cnt (gn Γ) 8) (rfl : vwCl[10]? = _) (kX8_isNobody h) mvX8_isNobody lk_X8_228 ⟨Nat.le_of_ble_eq_true rfl, Nat.le_of_ble_eq_true rfl⟩ rfl hl.1 rfl (Nat.le_of_ble_eq_true rfl) dX8_sees_2 ⟨Nat.le_of_ble_eq_true rfl, Nat.le_of_ble_eq_true rfl⟩) (fun v2 σ1 H locs hf hw => ?_)
  refine q_if_ne (tgt := 20) hx hb hf dX8_sees_5 (by decide) (fun hf => ?_) (fun hf => ?_)
  · refine lv_iconst (v := 0) hx hb dX8_sees_20 (by decide) ?_
    exact q_eiret hf hx hb hr rfl hk hw dX8_sees_21 (Nat.le_of_ble_eq_true rfl) (Nat.le_of_ble_eq_true rfl)
  refine lv_aload_n hx hb dX8_sees_8 rfl (lv_at hl 0 rfl) ?_
  refine lv_iload_n hx hb dX8_sees_9 rfl (lv_at hl 2 rfl) ?_
  refine q_pI hf hw (fun v h => q_rV (As := [.int x2]) (rest := []) (q := (RX8, TX8, 32)) X hK hw rfl (Nat.le_of_ble_eq_true rfl : 0 < cnt (gn Γ) 8) (rfl : vwCl[10]? = _) (kX8_isSeen h) mvX8_isSeen lk_X8_125 ⟨Nat.le_of_ble_eq_true rfl, Nat.le_of_ble_eq_true rfl⟩ rfl hl.1 rfl (Nat.le_of_ble_eq_true rfl) dX8_sees_10 ⟨Nat.le_of_ble_eq_true rfl, Nat.le_of_ble_eq_true rfl⟩) (fun v3 H locs hf hw => ?_)
  refine q_if_eq (tgt := 20) hx hb hf dX8_sees_13 (by decide) (fun hf => ?_) (fun hf => ?_)
  · refine lv_iconst (v := 0) hx hb dX8_sees_20 (by decide) ?_
    exact q_eiret hf hx hb hr rfl hk hw dX8_sees_21 (Nat.le_of_ble_eq_true rfl) (Nat.le_of_ble_eq_true rfl)
  refine lv_iconst (v := 1) hx hb dX8_sees_16 (by decide) ?_
  refine lv_goto (tgt := 21) hx hb dX8_sees_17 (by decide) ?_
  exact q_eiret hf hx hb hr rfl hk hw dX8_sees_21 (Nat.le_of_ble_eq_true rfl) (Nat.le_of_ble_eq_true rfl)
set_option maxRecDepth 100000 in
theorem kX8_columnOf {Γ : Gm} {S : List (String × Nat × String)} {l : Launch} {N : Nat} {σ τ : St} {x1 : Int32} {x2 : Int32} {r : Int32}  (hf : fX8_columnOf N σ x1 x2 = some (r, τ)) : CT Γ S l yX8_columnOf cX8_columnOf 3 (some (.int)) 5 109 0 0 [.ref (ga Γ 8 0), .int x1, .int x2] (some (.int r)) σ τ := by
  unfold fX8_columnOf at hf
  refine ct_body (lv := [(0, .ref (ga Γ 8 0)), (1, .int x1), (2, .int x2)]) (by decide +kernel) rfl (Nat.le_of_ble_eq_true rfl) ?_
  intro p e s m below meth c ls X hr hk hK hw hl
  have hx := X.1
  have hb := X.2.1
  have hown := X.2.2.2
  refine lv_aload_n hx hb dX8_columnOf_0 rfl (lv_at hl 0 rfl) ?_
  refine lv_iload_n hx hb dX8_columnOf_1 rfl (lv_at hl 1 rfl) ?_
  refine lv_iload_n hx hb dX8_columnOf_2 rfl (lv_at hl 2 rfl) ?_
  refine q_eI hf hw (fun v τ h => q_rV (As := [.int x1, .int x2]) (rest := []) (q := (RX8, TX8, 32)) X hK hw rfl (Nat.le_of_ble_eq_true rfl : 0 < cnt (gn Γ) 8) (rfl : vwCl[10]? = _) (kX8_isUnseen h) mvX8_isUnseen lk_X8_231 ⟨Nat.le_of_ble_eq_true rfl, Nat.le_of_ble_eq_true rfl⟩ rfl hl.1 rfl (Nat.le_of_ble_eq_true rfl) dX8_columnOf_3 ⟨Nat.le_of_ble_eq_true rfl, Nat.le_of_ble_eq_true rfl⟩) (fun v2 σ1 H locs hf hw => ?_)
  refine q_if_eq (tgt := 13) hx hb hf dX8_columnOf_6 (by decide) (fun hf => ?_) (fun hf => ?_)
  · refine lv_aload_n hx hb dX8_columnOf_13 rfl (lv_at hl 0 rfl) ?_
    refine lv_iload_n hx hb dX8_columnOf_14 rfl (lv_at hl 2 rfl) ?_
    refine q_pI hf hw (fun v h => q_rV (As := [.int x2]) (rest := []) (q := (RX8, TX8, 32)) X hK hw rfl (Nat.le_of_ble_eq_true rfl : 0 < cnt (gn Γ) 8) (rfl : vwCl[10]? = _) (kX8_column h) mvX8_column lk_X8_141 ⟨Nat.le_of_ble_eq_true rfl, Nat.le_of_ble_eq_true rfl⟩ rfl hl.1 rfl (Nat.le_of_ble_eq_true rfl) dX8_columnOf_15 ⟨Nat.le_of_ble_eq_true rfl, Nat.le_of_ble_eq_true rfl⟩) (fun v3 H locs hf hw => ?_)
    exact q_eiret hf hx hb hr rfl hk hw dX8_columnOf_18 (Nat.le_of_ble_eq_true rfl) (Nat.le_of_ble_eq_true rfl)
  refine lv_iconst (v := 0) hx hb dX8_columnOf_9 (by decide) ?_
  refine lv_goto (tgt := 18) hx hb dX8_columnOf_10 (by decide) ?_
  exact q_eiret hf hx hb hr rfl hk hw dX8_columnOf_18 (Nat.le_of_ble_eq_true rfl) (Nat.le_of_ble_eq_true rfl)
set_option maxRecDepth 100000 in
theorem kX8_rowOf {Γ : Gm} {S : List (String × Nat × String)} {l : Launch} {N : Nat} {σ τ : St} {x1 : Int32} {x2 : Int32} {r : Int32}  (hf : fX8_rowOf N σ x1 x2 = some (r, τ)) : CT Γ S l yX8_rowOf cX8_rowOf 3 (some (.int)) 5 109 0 0 [.ref (ga Γ 8 0), .int x1, .int x2] (some (.int r)) σ τ := by
  unfold fX8_rowOf at hf
  refine ct_body (lv := [(0, .ref (ga Γ 8 0)), (1, .int x1), (2, .int x2)]) (by decide +kernel) rfl (Nat.le_of_ble_eq_true rfl) ?_
  intro p e s m below meth c ls X hr hk hK hw hl
  have hx := X.1
  have hb := X.2.1
  have hown := X.2.2.2
  refine lv_aload_n hx hb dX8_rowOf_0 rfl (lv_at hl 0 rfl) ?_
  refine lv_iload_n hx hb dX8_rowOf_1 rfl (lv_at hl 1 rfl) ?_
  refine lv_iload_n hx hb dX8_rowOf_2 rfl (lv_at hl 2 rfl) ?_
  refine q_eI hf hw (fun v τ h => q_rV (As := [.int x1, .int x2]) (rest := []) (q := (RX8, TX8, 32)) X hK hw rfl (Nat.le_of_ble_eq_true rfl : 0 < cnt (gn Γ) 8) (rfl : vwCl[10]? = _) (kX8_isUnseen h) mvX8_isUnseen lk_X8_231 ⟨Nat.le_of_ble_eq_true rfl, Nat.le_of_ble_eq_true rfl⟩ rfl hl.1 rfl (Nat.le_of_ble_eq_true rfl) dX8_rowOf_3 ⟨Nat.le_of_ble_eq_true rfl, Nat.le_of_ble_eq_true rfl⟩) (fun v2 σ1 H locs hf hw => ?_)
  refine q_if_eq (tgt := 13) hx hb hf dX8_rowOf_6 (by decide) (fun hf => ?_) (fun hf => ?_)
  · refine lv_aload_n hx hb dX8_rowOf_13 rfl (lv_at hl 0 rfl) ?_
    refine lv_iload_n hx hb dX8_rowOf_14 rfl (lv_at hl 2 rfl) ?_
    refine q_pI hf hw (fun v h => q_rV (As := [.int x2]) (rest := []) (q := (RX8, TX8, 32)) X hK hw rfl (Nat.le_of_ble_eq_true rfl : 0 < cnt (gn Γ) 8) (rfl : vwCl[10]? = _) (kX8_row h) mvX8_row lk_X8_145 ⟨Nat.le_of_ble_eq_true rfl, Nat.le_of_ble_eq_true rfl⟩ rfl hl.1 rfl (Nat.le_of_ble_eq_true rfl) dX8_rowOf_15 ⟨Nat.le_of_ble_eq_true rfl, Nat.le_of_ble_eq_true rfl⟩) (fun v3 H locs hf hw => ?_)
    exact q_eiret hf hx hb hr rfl hk hw dX8_rowOf_18 (Nat.le_of_ble_eq_true rfl) (Nat.le_of_ble_eq_true rfl)
  refine lv_iconst (v := 0) hx hb dX8_rowOf_9 (by decide) ?_
  refine lv_goto (tgt := 18) hx hb dX8_rowOf_10 (by decide) ?_
  exact q_eiret hf hx hb hr rfl hk hw dX8_rowOf_18 (Nat.le_of_ble_eq_true rfl) (Nat.le_of_ble_eq_true rfl)
set_option maxRecDepth 100000 in
theorem kX8_rankOf {Γ : Gm} {S : List (String × Nat × String)} {l : Launch} {N : Nat} {σ τ : St} {x1 : Int32} {x2 : Int32} {r : Int32}  (hf : fX8_rankOf N σ x1 x2 = some (r, τ)) : CT Γ S l yX8_rankOf cX8_rankOf 3 (some (.int)) 5 109 0 0 [.ref (ga Γ 8 0), .int x1, .int x2] (some (.int r)) σ τ := by
  unfold fX8_rankOf at hf
  refine ct_body (lv := [(0, .ref (ga Γ 8 0)), (1, .int x1), (2, .int x2)]) (by decide +kernel) rfl (Nat.le_of_ble_eq_true rfl) ?_
  intro p e s m below meth c ls X hr hk hK hw hl
  have hx := X.1
  have hb := X.2.1
  have hown := X.2.2.2
  refine lv_aload_n hx hb dX8_rankOf_0 rfl (lv_at hl 0 rfl) ?_
  refine lv_iload_n hx hb dX8_rankOf_1 rfl (lv_at hl 1 rfl) ?_
  refine lv_iload_n hx hb dX8_rankOf_2 rfl (lv_at hl 2 rfl) ?_
  refine q_eI hf hw (fun v τ h => q_rV (As := [.int x1, .int x2]) (rest := []) (q := (RX8, TX8, 32)) X hK hw rfl (Nat.le_of_ble_eq_true rfl : 0 < cnt (gn Γ) 8) (rfl : vwCl[10]? = _) (kX8_isUnseen h) mvX8_isUnseen lk_X8_231 ⟨Nat.le_of_ble_eq_true rfl, Nat.le_of_ble_eq_true rfl⟩ rfl hl.1 rfl (Nat.le_of_ble_eq_true rfl) dX8_rankOf_3 ⟨Nat.le_of_ble_eq_true rfl, Nat.le_of_ble_eq_true rfl⟩) (fun v2 σ1 H locs hf hw => ?_)
  refine q_if_eq (tgt := 13) hx hb hf dX8_rankOf_6 (by decide) (fun hf => ?_) (fun hf => ?_)
  · refine lv_aload_n hx hb dX8_rankOf_13 rfl (lv_at hl 0 rfl) ?_
    refine lv_iload_n hx hb dX8_rankOf_14 rfl (lv_at hl 2 rfl) ?_
    refine q_pI hf hw (fun v h => q_rV (As := [.int x2]) (rest := []) (q := (RX8, TX8, 32)) X hK hw rfl (Nat.le_of_ble_eq_true rfl : 0 < cnt (gn Γ) 8) (rfl : vwCl[10]? = _) (kX8_rank h) mvX8_rank lk_X8_199 ⟨Nat.le_of_ble_eq_true rfl, Nat.le_of_ble_eq_true rfl⟩ rfl hl.1 rfl (Nat.le_of_ble_eq_true rfl) dX8_rankOf_15 ⟨Nat.le_of_ble_eq_true rfl, Nat.le_of_ble_eq_true rfl⟩) (fun v3 H locs hf hw => ?_)
    exact q_eiret hf hx hb hr rfl hk hw dX8_rankOf_18 (Nat.le_of_ble_eq_true rfl) (Nat.le_of_ble_eq_true rfl)
  refine lv_iconst (v := 0) hx hb dX8_rankOf_9 (by decide) ?_
  refine lv_goto (tgt := 18) hx hb dX8_rankOf_10 (by decide) ?_
  exact q_eiret hf hx hb hr rfl hk hw dX8_rankOf_18 (Nat.le_of_ble_eq_true rfl) (Nat.le_of_ble_eq_true rfl)
set_option maxRecDepth 100000 in
theorem kX8_shapeAt {Γ : Gm} {S : List (String × Nat × String)} {l : Launch} {N : Nat} {σ τ : St} {x1 : Int32} {x2 : Int32} {r : Int32}  (hf : fX8_shapeAt N σ x1 x2 = some (r, τ)) : CT Γ S l yX8_shapeAt cX8_shapeAt 4 (some (.int)) 4 104 0 0 [.ref (ga Γ 8 0), .int x1, .int x2] (some (.int r)) σ τ := by
  unfold fX8_shapeAt at hf
  refine ct_body (lv := [(0, .ref (ga Γ 8 0)), (1, .int x1), (2, .int x2)]) (by decide +kernel) rfl (Nat.le_of_ble_eq_true rfl) ?_
  intro p e s m below meth c ls X hr hk hK hw hl
  have hx := X.1
  have hb := X.2.1
  have hown := X.2.2.2
  refine lv_aload_n hx hb dX8_shapeAt_0 rfl (lv_at hl 0 rfl) ?_
  refine lv_iload_n hx hb dX8_shapeAt_1 rfl (lv_at hl 1 rfl) ?_
  refine q_eI hf hw (fun v τ h => q_rV (As := [.int x1]) (rest := []) (q := (RX8, TX8, 32)) X hK hw rfl (Nat.le_of_ble_eq_true rfl : 0 < cnt (gn Γ) 8) (rfl : vwCl[10]? = _) (kX8_isNobody h) mvX8_isNobody lk_X8_228 ⟨Nat.le_of_ble_eq_true rfl, Nat.le_of_ble_eq_true rfl⟩ rfl hl.1 rfl (Nat.le_of_ble_eq_true rfl) dX8_shapeAt_2 ⟨Nat.le_of_ble_eq_true rfl, Nat.le_of_ble_eq_true rfl⟩) (fun v2 σ1 H locs hf hw => ?_)
  refine q_if_eq (tgt := 10) hx hb hf dX8_shapeAt_5 (by decide) (fun hf => ?_) (fun hf => ?_)
  · refine lv_iconst (v := 0) hx hb dX8_shapeAt_10 (by decide) ?_
    refine lv_istore_n (lv' := [(3, .int (0 : Int32)), (0, .ref (ga Γ 8 0)), (1, .int x1), (2, .int x2)]) hx hb dX8_shapeAt_11 rfl hl (by decide) rfl (fun ls hl => ?_)
    have L12 : ∀ (K : Int32 → Option ((Int32 × St))) (hkk : ∀ (y3 : Int32) (H : Heap) (locs : List Loc) (ls : Array Slot), K y3 = some (r, τ) → Sit Γ σ1 s H locs → lv_has ls 4 [(0, .ref (ga Γ 8 0))] → W p l e { frames := 4, cells := 0, slots := 0, locals := 104 } s m [.ref (ga Γ 8 0), .int x1, .int x2].toArray below meth c H locs 0 0 (MQ below (Qg Γ (some (.int r)) τ (AA Γ s.heap.size)) [.ref (ga Γ 8 0), .int x1, .int x2].toArray s 0 0 (AA Γ s.heap.size)) (F0 m 45 ls [])) (n : Nat) (v3 : Int32) (H : Heap) (locs : List Loc) (ls : Array Slot), fX8_shapeAt_L12 K N x2 σ1 n v3 = some (r, τ) → Sit Γ σ1 s H locs → lv_has ls 4 [(0, .ref (ga Γ 8 0)), (2, .int x2), (3, .int v3)] → W p l e { frames := 4, cells := 0, slots := 0, locals := 104 } s m [.ref (ga Γ 8 0), .int x1, .int x2].toArray below meth c H locs 0 0 (MQ below (Qg Γ (some (.int r)) τ (AA Γ s.heap.size)) [.ref (ga Γ 8 0), .int x1, .int x2].toArray s 0 0 (AA Γ s.heap.size)) (F0 m 12 ls []) := by
      intro K hkk n
      induction n with
      | zero =>
        intro _ _ _ _ hf
        exact nomatch hf
      | succ n ih =>
        intro v3 H locs ls hf hw hl
        refine lv_iload_n hx hb dX8_shapeAt_12 rfl (lv_at hl 2 rfl) ?_
        refine lv_aload_n hx hb dX8_shapeAt_13 rfl (lv_at hl 0 rfl) ?_
        refine q_get (v := .int (gI σ1 8 0 8)) hx hb hK hw hown in_X8 ins_X8 (rfl : vwCl[10]? = some (RX8, TX8, 32)) rfl (Nat.le_of_ble_eq_true rfl : 0 < cnt (gn Γ) 8) 8 (by decide) 1362 fl_X8_119 rfl rfl dX8_shapeAt_14 ?_
        refine q_ic_ge (tgt := 45) hx hb hf dX8_shapeAt_17 (by decide) (fun hf => ?_) (fun hf => ?_)
        · exact hkk _ _ _ _ hf hw (lv_sub hl [0] rfl)
        refine lv_aload_n hx hb dX8_shapeAt_20 rfl (lv_at hl 0 rfl) ?_
        refine lv_iload_n hx hb dX8_shapeAt_21 rfl (lv_at hl 2 rfl) ?_
        refine q_pI hf hw (fun v h => q_rV (As := [.int v3]) (rest := []) (q := (RX8, TX8, 32)) X hK hw rfl (Nat.le_of_ble_eq_true rfl : 0 < cnt (gn Γ) 8) (rfl : vwCl[10]? = _) (kX8_isSeen h) mvX8_isSeen lk_X8_125 ⟨Nat.le_of_ble_eq_true rfl, Nat.le_of_ble_eq_true rfl⟩ rfl hl.1 rfl (Nat.le_of_ble_eq_true rfl) dX8_shapeAt_22 ⟨Nat.le_of_ble_eq_true rfl, Nat.le_of_ble_eq_true rfl⟩) (fun v4 H locs hf hw => ?_)
        refine q_if_eq (tgt := 39) hx hb hf dX8_shapeAt_25 (by decide) (fun hf => ?_) (fun hf => ?_)
        · refine q_iinc (lv1 := [(0, .ref (ga Γ 8 0)), (2, .int x2)]) (d := 1) hx hb hf dX8_shapeAt_39 hl (k := 2) rfl (by decide) (by decide) rfl (fun v5 ls hf hl => ?_)
          refine lv_goto (tgt := 12) hx hb dX8_shapeAt_42 (by decide) ?_
          exact ih _ _ _ _ hf hw (lv_sub hl [1, 2, 0] rfl)
        refine lv_aload_n hx hb dX8_shapeAt_28 rfl (lv_at hl 0 rfl) ?_
        refine lv_iload_n hx hb dX8_shapeAt_29 rfl (lv_at hl 2 rfl) ?_
        refine q_pI hf hw (fun v h => q_rV (As := [.int v3]) (rest := []) (q := (RX8, TX8, 32)) X hK hw rfl (Nat.le_of_ble_eq_true rfl : 0 < cnt (gn Γ) 8) (rfl : vwCl[10]? = _) (kX8_rank h) mvX8_rank lk_X8_199 ⟨Nat.le_of_ble_eq_true rfl, Nat.le_of_ble_eq_true rfl⟩ rfl hl.1 rfl (Nat.le_of_ble_eq_true rfl) dX8_shapeAt_30 ⟨Nat.le_of_ble_eq_true rfl, Nat.le_of_ble_eq_true rfl⟩) (fun v6 H locs hf hw => ?_)
        refine lv_iload_n hx hb dX8_shapeAt_33 rfl (lv_at hl 1 rfl) ?_
        refine q_ic_ne (tgt := 39) hx hb hf dX8_shapeAt_34 (by decide) (fun hf => ?_) (fun hf => ?_)
        · refine q_iinc (lv1 := [(0, .ref (ga Γ 8 0)), (2, .int x2)]) (d := 1) hx hb hf dX8_shapeAt_39 hl (k := 2) rfl (by decide) (by decide) rfl (fun v7 ls hf hl => ?_)
          refine lv_goto (tgt := 12) hx hb dX8_shapeAt_42 (by decide) ?_
          exact ih _ _ _ _ hf hw (lv_sub hl [1, 2, 0] rfl)
        refine lv_iload_n hx hb dX8_shapeAt_37 rfl (lv_at hl 2 rfl) ?_
        exact q_eiret hf hx hb hr rfl hk hw dX8_shapeAt_38 (Nat.le_of_ble_eq_true rfl) (Nat.le_of_ble_eq_true rfl)
    refine L12 _ (fun _ H locs ls hf hw hl => ?_) N (0 : Int32) _ _ _ hf hw (lv_sub hl [1, 3, 0] rfl)
    refine lv_aload_n hx hb dX8_shapeAt_45 rfl (lv_at hl 0 rfl) ?_
    refine lv_iconst (v := 2) hx hb dX8_shapeAt_46 (by decide) ?_
    refine q_eI hf hw (fun v τ h => q_rV (As := [.int (2 : Int32)]) (rest := []) (q := (RX8, TX8, 32)) X hK hw rfl (Nat.le_of_ble_eq_true rfl : 0 < cnt (gn Γ) 8) (rfl : vwCl[10]? = _) (kX8_fails h) mvX8_fails lk_X8_172 ⟨Nat.le_of_ble_eq_true rfl, Nat.le_of_ble_eq_true rfl⟩ rfl hl.1 rfl (Nat.le_of_ble_eq_true rfl) dX8_shapeAt_47 ⟨Nat.le_of_ble_eq_true rfl, Nat.le_of_ble_eq_true rfl⟩) (fun v9 σ8 H locs hf hw => ?_)
    exact q_eiret hf hx hb hr rfl hk hw dX8_shapeAt_50 (Nat.le_of_ble_eq_true rfl) (Nat.le_of_ble_eq_true rfl)
  refine lv_iconst (v := 0) hx hb dX8_shapeAt_8 (by decide) ?_
  exact q_eiret hf hx hb hr rfl hk hw dX8_shapeAt_9 (Nat.le_of_ble_eq_true rfl) (Nat.le_of_ble_eq_true rfl)
set_option maxRecDepth 100000 in
theorem kX8_keyOf {Γ : Gm} {S : List (String × Nat × String)} {l : Launch} {N : Nat} {σ τ : St} {x1 : Int32} {x2 : Int32} {r : UInt32}  (hf : fX8_keyOf N σ x1 x2 = some (r, τ)) : CT Γ S l yX8_keyOf cX8_keyOf 3 (some (.float)) 5 109 0 0 [.ref (ga Γ 8 0), .int x1, .int x2] (some (.float r)) σ τ := by
  unfold fX8_keyOf at hf
  refine ct_body (lv := [(0, .ref (ga Γ 8 0)), (1, .int x1), (2, .int x2)]) (by decide +kernel) rfl (Nat.le_of_ble_eq_true rfl) ?_
  intro p e s m below meth c ls X hr hk hK hw hl
  have hx := X.1
  have hb := X.2.1
  have hown := X.2.2.2
  refine lv_aload_n hx hb dX8_keyOf_0 rfl (lv_at hl 0 rfl) ?_
  refine lv_iload_n hx hb dX8_keyOf_1 rfl (lv_at hl 1 rfl) ?_
  refine lv_iload_n hx hb dX8_keyOf_2 rfl (lv_at hl 2 rfl) ?_
  refine q_eI hf hw (fun v τ h => q_rV (As := [.int x1, .int x2]) (rest := []) (q := (RX8, TX8, 32)) X hK hw rfl (Nat.le_of_ble_eq_true rfl : 0 < cnt (gn Γ) 8) (rfl : vwCl[10]? = _) (kX8_isUnseen h) mvX8_isUnseen lk_X8_231 ⟨Nat.le_of_ble_eq_true rfl, Nat.le_of_ble_eq_true rfl⟩ rfl hl.1 rfl (Nat.le_of_ble_eq_true rfl) dX8_keyOf_3 ⟨Nat.le_of_ble_eq_true rfl, Nat.le_of_ble_eq_true rfl⟩) (fun v2 σ1 H locs hf hw => ?_)
  refine q_if_eq (tgt := 13) hx hb hf dX8_keyOf_6 (by decide) (fun hf => ?_) (fun hf => ?_)
  · refine lv_aload_n hx hb dX8_keyOf_13 rfl (lv_at hl 0 rfl) ?_
    refine lv_iload_n hx hb dX8_keyOf_14 rfl (lv_at hl 2 rfl) ?_
    refine q_pF hf hw (fun v h => q_rV (As := [.int x2]) (rest := []) (q := (RX8, TX8, 32)) X hK hw rfl (Nat.le_of_ble_eq_true rfl : 0 < cnt (gn Γ) 8) (rfl : vwCl[10]? = _) (kX8_key h) mvX8_key lk_X8_138 ⟨Nat.le_of_ble_eq_true rfl, Nat.le_of_ble_eq_true rfl⟩ rfl hl.1 rfl (Nat.le_of_ble_eq_true rfl) dX8_keyOf_15 ⟨Nat.le_of_ble_eq_true rfl, Nat.le_of_ble_eq_true rfl⟩) (fun v3 H locs hf hw => ?_)
    exact q_efret hf hx hb hr hk hw dX8_keyOf_18 (Nat.le_of_ble_eq_true rfl) (Nat.le_of_ble_eq_true rfl)
  refine lv_fconst0 hx hb dX8_keyOf_9 ?_
  refine lv_goto (tgt := 18) hx hb dX8_keyOf_10 (by decide) ?_
  exact q_efret hf hx hb hr hk hw dX8_keyOf_18 (Nat.le_of_ble_eq_true rfl) (Nat.le_of_ble_eq_true rfl)
set_option maxRecDepth 100000 in
theorem kX8_keyBits {Γ : Gm} {S : List (String × Nat × String)} {l : Launch} {N : Nat} {σ τ : St} {x1 : Int32} {x2 : Int32} {r : Int32}  (hf : fX8_keyBits N σ x1 x2 = some (r, τ)) : CT Γ S l yX8_keyBits cX8_keyBits 3 (some (.int)) 5 109 0 0 [.ref (ga Γ 8 0), .int x1, .int x2] (some (.int r)) σ τ := by
  unfold fX8_keyBits at hf
  refine ct_body (lv := [(0, .ref (ga Γ 8 0)), (1, .int x1), (2, .int x2)]) (by decide +kernel) rfl (Nat.le_of_ble_eq_true rfl) ?_
  intro p e s m below meth c ls X hr hk hK hw hl
  have hx := X.1
  have hb := X.2.1
  have hown := X.2.2.2
  refine lv_aload_n hx hb dX8_keyBits_0 rfl (lv_at hl 0 rfl) ?_
  refine lv_iload_n hx hb dX8_keyBits_1 rfl (lv_at hl 1 rfl) ?_
  refine lv_iload_n hx hb dX8_keyBits_2 rfl (lv_at hl 2 rfl) ?_
  refine q_eI hf hw (fun v τ h => q_rV (As := [.int x1, .int x2]) (rest := []) (q := (RX8, TX8, 32)) X hK hw rfl (Nat.le_of_ble_eq_true rfl : 0 < cnt (gn Γ) 8) (rfl : vwCl[10]? = _) (kX8_isUnseen h) mvX8_isUnseen lk_X8_231 ⟨Nat.le_of_ble_eq_true rfl, Nat.le_of_ble_eq_true rfl⟩ rfl hl.1 rfl (Nat.le_of_ble_eq_true rfl) dX8_keyBits_3 ⟨Nat.le_of_ble_eq_true rfl, Nat.le_of_ble_eq_true rfl⟩) (fun v2 σ1 H locs hf hw => ?_)
  refine q_if_eq (tgt := 13) hx hb hf dX8_keyBits_6 (by decide) (fun hf => ?_) (fun hf => ?_)
  · refine lv_aload_n hx hb dX8_keyBits_13 rfl (lv_at hl 0 rfl) ?_
    refine lv_iload_n hx hb dX8_keyBits_14 rfl (lv_at hl 2 rfl) ?_
    refine q_pF hf hw (fun v h => q_rV (As := [.int x2]) (rest := []) (q := (RX8, TX8, 32)) X hK hw rfl (Nat.le_of_ble_eq_true rfl : 0 < cnt (gn Γ) 8) (rfl : vwCl[10]? = _) (kX8_key h) mvX8_key lk_X8_138 ⟨Nat.le_of_ble_eq_true rfl, Nat.le_of_ble_eq_true rfl⟩ rfl hl.1 rfl (Nat.le_of_ble_eq_true rfl) dX8_keyBits_15 ⟨Nat.le_of_ble_eq_true rfl, Nat.le_of_ble_eq_true rfl⟩) (fun v3 H locs hf hw => ?_)
    refine q_pI hf hw (fun v h => q_rS (As := [.float v3]) (rest := []) X hK hw (kJxf58ca_floatToIntBits_5c35a h) msJxf58ca_floatToIntBits_5c35a lk_X8_182 ⟨Nat.le_of_ble_eq_true rfl, Nat.le_of_ble_eq_true rfl⟩ rfl hl.1 rfl (Nat.le_of_ble_eq_true rfl) dX8_keyBits_18 ⟨Nat.le_of_ble_eq_true rfl, Nat.le_of_ble_eq_true rfl⟩) (fun v4 H locs hf hw => ?_)
    exact q_eiret hf hx hb hr rfl hk hw dX8_keyBits_21 (Nat.le_of_ble_eq_true rfl) (Nat.le_of_ble_eq_true rfl)
  refine lv_iconst (v := 0) hx hb dX8_keyBits_9 (by decide) ?_
  refine lv_goto (tgt := 21) hx hb dX8_keyBits_10 (by decide) ?_
  exact q_eiret hf hx hb hr rfl hk hw dX8_keyBits_21 (Nat.le_of_ble_eq_true rfl) (Nat.le_of_ble_eq_true rfl)
set_option maxRecDepth 100000 in
theorem kX8_keyCut {Γ : Gm} {S : List (String × Nat × String)} {l : Launch} {N : Nat} {σ τ : St} {x1 : Int32} {x2 : Int32} {r : Int32}  (hf : fX8_keyCut N σ x1 x2 = some (r, τ)) : CT Γ S l yX8_keyCut cX8_keyCut 3 (some (.int)) 5 109 0 0 [.ref (ga Γ 8 0), .int x1, .int x2] (some (.int r)) σ τ := by
  unfold fX8_keyCut at hf
  refine ct_body (lv := [(0, .ref (ga Γ 8 0)), (1, .int x1), (2, .int x2)]) (by decide +kernel) rfl (Nat.le_of_ble_eq_true rfl) ?_
  intro p e s m below meth c ls X hr hk hK hw hl
  have hx := X.1
  have hb := X.2.1
  have hown := X.2.2.2
  refine lv_aload_n hx hb dX8_keyCut_0 rfl (lv_at hl 0 rfl) ?_
  refine lv_iload_n hx hb dX8_keyCut_1 rfl (lv_at hl 1 rfl) ?_
  refine lv_iload_n hx hb dX8_keyCut_2 rfl (lv_at hl 2 rfl) ?_
  refine q_eI hf hw (fun v τ h => q_rV (As := [.int x1, .int x2]) (rest := []) (q := (RX8, TX8, 32)) X hK hw rfl (Nat.le_of_ble_eq_true rfl : 0 < cnt (gn Γ) 8) (rfl : vwCl[10]? = _) (kX8_isUnseen h) mvX8_isUnseen lk_X8_231 ⟨Nat.le_of_ble_eq_true rfl, Nat.le_of_ble_eq_true rfl⟩ rfl hl.1 rfl (Nat.le_of_ble_eq_true rfl) dX8_keyCut_3 ⟨Nat.le_of_ble_eq_true rfl, Nat.le_of_ble_eq_true rfl⟩) (fun v2 σ1 H locs hf hw => ?_)
  refine q_if_eq (tgt := 13) hx hb hf dX8_keyCut_6 (by decide) (fun hf => ?_) (fun hf => ?_)
  · refine lv_aload_n hx hb dX8_keyCut_13 rfl (lv_at hl 0 rfl) ?_
    refine lv_iload_n hx hb dX8_keyCut_14 rfl (lv_at hl 2 rfl) ?_
    refine q_pF hf hw (fun v h => q_rV (As := [.int x2]) (rest := []) (q := (RX8, TX8, 32)) X hK hw rfl (Nat.le_of_ble_eq_true rfl : 0 < cnt (gn Γ) 8) (rfl : vwCl[10]? = _) (kX8_key h) mvX8_key lk_X8_138 ⟨Nat.le_of_ble_eq_true rfl, Nat.le_of_ble_eq_true rfl⟩ rfl hl.1 rfl (Nat.le_of_ble_eq_true rfl) dX8_keyCut_15 ⟨Nat.le_of_ble_eq_true rfl, Nat.le_of_ble_eq_true rfl⟩) (fun v3 H locs hf hw => ?_)
    refine lv_ldcf (v := 1090519040) hx hb hown (kw_at hK.2.2.2.2.1 1702 (by decide +kernel) rfl) dX8_keyCut_18 ?_
    refine q_fmul hx hb hf dX8_keyCut_20 (fun hf => ?_)
    refine lv_f2i hx hb dX8_keyCut_21 ?_
    exact q_eiret hf hx hb hr rfl hk hw dX8_keyCut_22 (Nat.le_of_ble_eq_true rfl) (Nat.le_of_ble_eq_true rfl)
  refine lv_iconst (v := 0) hx hb dX8_keyCut_9 (by decide) ?_
  refine lv_goto (tgt := 22) hx hb dX8_keyCut_10 (by decide) ?_
  exact q_eiret hf hx hb hr rfl hk hw dX8_keyCut_22 (Nat.le_of_ble_eq_true rfl) (Nat.le_of_ble_eq_true rfl)
set_option maxRecDepth 100000 in
theorem kX8_isCovering {Γ : Gm} {S : List (String × Nat × String)} {l : Launch} {N : Nat} {σ : St} {x1 : Int32} {x2 : Int32} {x3 : Int32} {r : Int32}  (hf : fX8_isCovering N σ x1 x2 x3 = some r) : CT Γ S l yX8_isCovering cX8_isCovering 4 (some (.boolean)) 1 22 0 0 [.ref (ga Γ 8 0), .int x1, .int x2, .int x3] (some (.int r)) σ σ := by
  unfold fX8_isCovering at hf
  refine ct_body (lv := [(0, .ref (ga Γ 8 0)), (1, .int x1), (2, .int x2), (3, .int x3)]) (by decide +kernel) rfl (Nat.le_of_ble_eq_true rfl) ?_
  intro p e s m below meth c ls X hr hk hK hw hl
  have hx := X.1
  have hb := X.2.1
  have hown := X.2.2.2
  refine lv_iload_n hx hb dX8_isCovering_0 rfl (lv_at hl 2 rfl) ?_
  refine lv_aload_n hx hb dX8_isCovering_1 rfl (lv_at hl 0 rfl) ?_
  refine lv_iload_n hx hb dX8_isCovering_2 rfl (lv_at hl 1 rfl) ?_
  refine q_pI hf hw (fun v h => q_rV (As := [.int x1]) (rest := [.int x2]) (q := (RX8, TX8, 32)) X hK hw rfl (Nat.le_of_ble_eq_true rfl : 0 < cnt (gn Γ) 8) (rfl : vwCl[10]? = _) (kX8_column h) mvX8_column lk_X8_141 ⟨Nat.le_of_ble_eq_true rfl, Nat.le_of_ble_eq_true rfl⟩ rfl hl.1 rfl (Nat.le_of_ble_eq_true rfl) dX8_isCovering_3 ⟨Nat.le_of_ble_eq_true rfl, Nat.le_of_ble_eq_true rfl⟩) (fun v1 H locs hf hw => ?_)
  refine lv_aload_n hx hb dX8_isCovering_6 rfl (lv_at hl 0 rfl) ?_
  refine lv_iload_n hx hb dX8_isCovering_7 rfl (lv_at hl 1 rfl) ?_
  refine q_pI hf hw (fun v h => q_rV (As := [.int x1]) (rest := [.int v1, .int x2]) (q := (RX8, TX8, 32)) X hK hw rfl (Nat.le_of_ble_eq_true rfl : 0 < cnt (gn Γ) 8) (rfl : vwCl[10]? = _) (kX8_column h) mvX8_column lk_X8_141 ⟨Nat.le_of_ble_eq_true rfl, Nat.le_of_ble_eq_true rfl⟩ rfl hl.1 rfl (Nat.le_of_ble_eq_true rfl) dX8_isCovering_8 ⟨Nat.le_of_ble_eq_true rfl, Nat.le_of_ble_eq_true rfl⟩) (fun v2 H locs hf hw => ?_)
  refine lv_aload_n hx hb dX8_isCovering_11 rfl (lv_at hl 0 rfl) ?_
  refine q_get (v := .ref (ga Γ 140 0)) hx hb hK hw hown in_X8 ins_X8 (rfl : vwCl[10]? = some (RX8, TX8, 32)) rfl (Nat.le_of_ble_eq_true rfl : 0 < cnt (gn Γ) 8) 1 (by decide) 1355 fl_X8_9 rfl rfl dX8_isCovering_12 ?_
  refine lv_iload_n hx hb dX8_isCovering_15 rfl (lv_at hl 1 rfl) ?_
  refine q_iald hx hb hK hw (k := 140) (o := 0) (fun _ _ _ => rfl) (Nat.le_of_ble_eq_true rfl : 0 < cnt (gn Γ) 140) hf dX8_isCovering_16 (fun hf => ?_)
  refine lv_iadd hx hb dX8_isCovering_17 ?_
  refine lv_iconst (v := 1) hx hb dX8_isCovering_18 (by decide) ?_
  refine lv_isub hx hb dX8_isCovering_19 ?_
  refine q_pI hf hw (fun v h => q_rS (As := [.int x2, .int v1, .int ((v2 + (gI σ 140 0 (Int32.toNatClampNeg x1))) - (1 : Int32))]) (rest := []) X hK hw (kX8_isBetween h) msX8_isBetween lk_X8_101 ⟨Nat.le_of_ble_eq_true rfl, Nat.le_of_ble_eq_true rfl⟩ rfl hl.1 rfl (Nat.le_of_ble_eq_true rfl) dX8_isCovering_20 ⟨Nat.le_of_ble_eq_true rfl, Nat.le_of_ble_eq_true rfl⟩) (fun v3 H locs hf hw => ?_)
  refine q_if_eq (tgt := 56) hx hb hf dX8_isCovering_23 (by decide) (fun hf => ?_) (fun hf => ?_)
  · refine lv_iconst (v := 0) hx hb dX8_isCovering_56 (by decide) ?_
    exact q_iret hf hx hb hr rfl hk hw dX8_isCovering_57 (Nat.le_of_ble_eq_true rfl) (Nat.le_of_ble_eq_true rfl)
  refine lv_iload_n hx hb dX8_isCovering_26 rfl (lv_at hl 3 rfl) ?_
  refine lv_aload_n hx hb dX8_isCovering_27 rfl (lv_at hl 0 rfl) ?_
  refine lv_iload_n hx hb dX8_isCovering_28 rfl (lv_at hl 1 rfl) ?_
  refine q_pI hf hw (fun v h => q_rV (As := [.int x1]) (rest := [.int x3]) (q := (RX8, TX8, 32)) X hK hw rfl (Nat.le_of_ble_eq_true rfl : 0 < cnt (gn Γ) 8) (rfl : vwCl[10]? = _) (kX8_row h) mvX8_row lk_X8_145 ⟨Nat.le_of_ble_eq_true rfl, Nat.le_of_ble_eq_true rfl⟩ rfl hl.1 rfl (Nat.le_of_ble_eq_true rfl) dX8_isCovering_29 ⟨Nat.le_of_ble_eq_true rfl, Nat.le_of_ble_eq_true rfl⟩) (fun v4 H locs hf hw => ?_)
  refine lv_aload_n hx hb dX8_isCovering_32 rfl (lv_at hl 0 rfl) ?_
  refine lv_iload_n hx hb dX8_isCovering_33 rfl (lv_at hl 1 rfl) ?_
  refine q_pI hf hw (fun v h => q_rV (As := [.int x1]) (rest := [.int v4, .int x3]) (q := (RX8, TX8, 32)) X hK hw rfl (Nat.le_of_ble_eq_true rfl : 0 < cnt (gn Γ) 8) (rfl : vwCl[10]? = _) (kX8_row h) mvX8_row lk_X8_145 ⟨Nat.le_of_ble_eq_true rfl, Nat.le_of_ble_eq_true rfl⟩ rfl hl.1 rfl (Nat.le_of_ble_eq_true rfl) dX8_isCovering_34 ⟨Nat.le_of_ble_eq_true rfl, Nat.le_of_ble_eq_true rfl⟩) (fun v5 H locs hf hw => ?_)
  refine lv_aload_n hx hb dX8_isCovering_37 rfl (lv_at hl 0 rfl) ?_
  refine q_get (v := .ref (ga Γ 141 0)) hx hb hK hw hown in_X8 ins_X8 (rfl : vwCl[10]? = some (RX8, TX8, 32)) rfl (Nat.le_of_ble_eq_true rfl : 0 < cnt (gn Γ) 8) 2 (by decide) 1356 fl_X8_13 rfl rfl dX8_isCovering_38 ?_
  refine lv_iload_n hx hb dX8_isCovering_41 rfl (lv_at hl 1 rfl) ?_
  refine q_iald hx hb hK hw (k := 141) (o := 0) (fun _ _ _ => rfl) (Nat.le_of_ble_eq_true rfl : 0 < cnt (gn Γ) 141) hf dX8_isCovering_42 (fun hf => ?_)
  refine lv_iadd hx hb dX8_isCovering_43 ?_
  refine lv_iconst (v := 1) hx hb dX8_isCovering_44 (by decide) ?_
  refine lv_isub hx hb dX8_isCovering_45 ?_
  refine q_pI hf hw (fun v h => q_rS (As := [.int x3, .int v4, .int ((v5 + (gI σ 141 0 (Int32.toNatClampNeg x1))) - (1 : Int32))]) (rest := []) X hK hw (kX8_isBetween h) msX8_isBetween lk_X8_101 ⟨Nat.le_of_ble_eq_true rfl, Nat.le_of_ble_eq_true rfl⟩ rfl hl.1 rfl (Nat.le_of_ble_eq_true rfl) dX8_isCovering_46 ⟨Nat.le_of_ble_eq_true rfl, Nat.le_of_ble_eq_true rfl⟩) (fun v6 H locs hf hw => ?_)
  refine q_if_eq (tgt := 56) hx hb hf dX8_isCovering_49 (by decide) (fun hf => ?_) (fun hf => ?_)
  · refine lv_iconst (v := 0) hx hb dX8_isCovering_56 (by decide) ?_
    exact q_iret hf hx hb hr rfl hk hw dX8_isCovering_57 (Nat.le_of_ble_eq_true rfl) (Nat.le_of_ble_eq_true rfl)
  refine lv_iconst (v := 1) hx hb dX8_isCovering_52 (by decide) ?_
  refine lv_goto (tgt := 57) hx hb dX8_isCovering_53 (by decide) ?_
  exact q_iret hf hx hb hr rfl hk hw dX8_isCovering_57 (Nat.le_of_ble_eq_true rfl) (Nat.le_of_ble_eq_true rfl)
set_option maxRecDepth 100000 in
theorem kX8_topAt {Γ : Gm} {S : List (String × Nat × String)} {l : Launch} {N : Nat} {σ τ : St} {x1 : Int32} {x2 : Int32} {x3 : Int32} {r : Int32}  (hf : fX8_topAt N σ x1 x2 x3 = some (r, τ)) : CT Γ S l yX8_topAt cX8_topAt 6 (some (.int)) 3 104 0 0 [.ref (ga Γ 8 0), .int x1, .int x2, .int x3] (some (.int r)) σ τ := by
  unfold fX8_topAt at hf
  refine ct_body (lv := [(0, .ref (ga Γ 8 0)), (1, .int x1), (2, .int x2), (3, .int x3)]) (by decide +kernel) rfl (Nat.le_of_ble_eq_true rfl) ?_
  intro p e s m below meth c ls X hr hk hK hw hl
  have hx := X.1
  have hb := X.2.1
  have hown := X.2.2.2
  refine lv_aload_n hx hb dX8_topAt_0 rfl (lv_at hl 0 rfl) ?_
  refine lv_iconst (v := 0) hx hb dX8_topAt_1 (by decide) ?_
  refine q_puti (v := (0 : Int32)) hx hb hK hw hown in_X8 ins_X8 tyX8 tyX8_ok nmX8 (rfl : vwCl[10]? = some (RX8, TX8, 32)) (fun _ _ _ => rfl) (Nat.le_of_ble_eq_true rfl : 0 < cnt (gn Γ) 8) 0 (by decide) 1354 fl_X8_97 rfl rfl rfl (fun _ _ _ => Nat.le_of_ble_eq_true rfl) (fun _ _ _ => rfl) hf dX8_topAt_2 (fun σ1 H locs hf hw => ?_)
  refine lv_iload_n hx hb dX8_topAt_5 rfl (lv_at hl 1 rfl) ?_
  refine q_pI hf hw (fun v h => q_rS (As := [.int x1]) (rest := []) X hK hw (kX8_isUser h) msX8_isUser lk_X8_165 ⟨Nat.le_of_ble_eq_true rfl, Nat.le_of_ble_eq_true rfl⟩ rfl hl.1 rfl (Nat.le_of_ble_eq_true rfl) dX8_topAt_6 ⟨Nat.le_of_ble_eq_true rfl, Nat.le_of_ble_eq_true rfl⟩) (fun v2 H locs hf hw => ?_)
  refine q_if_eq (tgt := 23) hx hb hf dX8_topAt_9 (by decide) (fun hf => ?_) (fun hf => ?_)
  · refine lv_aload_n hx hb dX8_topAt_23 rfl (lv_at hl 0 rfl) ?_
    refine lv_iconst (v := 1) hx hb dX8_topAt_24 (by decide) ?_
    refine q_eI hf hw (fun v τ h => q_rV (As := [.int (1 : Int32)]) (rest := []) (q := (RX8, TX8, 32)) X hK hw rfl (Nat.le_of_ble_eq_true rfl : 0 < cnt (gn Γ) 8) (rfl : vwCl[10]? = _) (kX8_fails h) mvX8_fails lk_X8_172 ⟨Nat.le_of_ble_eq_true rfl, Nat.le_of_ble_eq_true rfl⟩ rfl hl.1 rfl (Nat.le_of_ble_eq_true rfl) dX8_topAt_25 ⟨Nat.le_of_ble_eq_true rfl, Nat.le_of_ble_eq_true rfl⟩) (fun v4 σ3 H locs hf hw => ?_)
    exact q_eiret hf hx hb hr rfl hk hw dX8_topAt_28 (Nat.le_of_ble_eq_true rfl) (Nat.le_of_ble_eq_true rfl)
  refine lv_aload_n hx hb dX8_topAt_12 rfl (lv_at hl 0 rfl) ?_
  refine lv_iload_n hx hb dX8_topAt_13 rfl (lv_at hl 2 rfl) ?_
  refine lv_iload_n hx hb dX8_topAt_14 rfl (lv_at hl 3 rfl) ?_
  refine lv_iconst (v := 1) hx hb dX8_topAt_15 (by decide) ?_
  refine lv_iconst (v := 1) hx hb dX8_topAt_16 (by decide) ?_
  refine q_pI hf hw (fun v h => q_rV (As := [.int x2, .int x3, .int (1 : Int32), .int (1 : Int32)]) (rest := []) (q := (RX8, TX8, 32)) X hK hw rfl (Nat.le_of_ble_eq_true rfl : 0 < cnt (gn Γ) 8) (rfl : vwCl[10]? = _) (kX8_isOnBoard h) mvX8_isOnBoard lk_X8_168 ⟨Nat.le_of_ble_eq_true rfl, Nat.le_of_ble_eq_true rfl⟩ rfl hl.1 rfl (Nat.le_of_ble_eq_true rfl) dX8_topAt_17 ⟨Nat.le_of_ble_eq_true rfl, Nat.le_of_ble_eq_true rfl⟩) (fun v5 H locs hf hw => ?_)
  refine q_if_ne (tgt := 29) hx hb hf dX8_topAt_20 (by decide) (fun hf => ?_) (fun hf => ?_)
  · refine lv_aload_n hx hb dX8_topAt_29 rfl (lv_at hl 0 rfl) ?_
    refine lv_iload_n hx hb dX8_topAt_30 rfl (lv_at hl 1 rfl) ?_
    refine q_eV hf hw (fun τ h => q_rV (As := [.int x1]) (rest := []) (q := (RX8, TX8, 32)) X hK hw rfl (Nat.le_of_ble_eq_true rfl : 0 < cnt (gn Γ) 8) (rfl : vwCl[10]? = _) (kX8_builds h) mvX8_builds lk_X8_161 ⟨Nat.le_of_ble_eq_true rfl, Nat.le_of_ble_eq_true rfl⟩ rfl hl.1 rfl (Nat.le_of_ble_eq_true rfl) dX8_topAt_31 ⟨Nat.le_of_ble_eq_true rfl, Nat.le_of_ble_eq_true rfl⟩) (fun σ6 H locs hf hw => ?_)
    refine lv_iconst (v := (-1)) hx hb dX8_topAt_34 (by decide) ?_
    refine q_istore (lv1 := [(0, .ref (ga Γ 8 0)), (1, .int x1), (2, .int x2), (3, .int x3)]) hx hb hf dX8_topAt_35 hl (by decide) rfl (fun v7 ls hf hl => ?_)
    refine lv_iconst (v := 0) hx hb dX8_topAt_37 (by decide) ?_
    refine lv_istore (lv' := [(5, .int (0 : Int32)), (4, .int v7), (0, .ref (ga Γ 8 0)), (1, .int x1), (2, .int x2), (3, .int x3)]) hx hb dX8_topAt_38 hl (by decide) rfl (fun ls hl => ?_)
    have L40 : ∀ (K : Int32 → Int32 → Option ((Int32 × St))) (hkk : ∀ (y4 : Int32) (y5 : Int32) (H : Heap) (locs : List Loc) (ls : Array Slot), K y4 y5 = some (r, τ) → Sit Γ σ6 s H locs → lv_has ls 6 [(0, .ref (ga Γ 8 0)), (4, .int y4)] → W p l e { frames := 3, cells := 0, slots := 0, locals := 104 } s m [.ref (ga Γ 8 0), .int x1, .int x2, .int x3].toArray below meth c H locs 0 0 (MQ below (Qg Γ (some (.int r)) τ (AA Γ s.heap.size)) [.ref (ga Γ 8 0), .int x1, .int x2, .int x3].toArray s 0 0 (AA Γ s.heap.size)) (F0 m 109 ls [])) (n : Nat) (v8 : Int32) (v9 : Int32) (H : Heap) (locs : List Loc) (ls : Array Slot), fX8_topAt_L40 K N x2 x3 σ6 n v8 v9 = some (r, τ) → Sit Γ σ6 s H locs → lv_has ls 6 [(0, .ref (ga Γ 8 0)), (2, .int x2), (3, .int x3), (4, .int v8), (5, .int v9)] → W p l e { frames := 3, cells := 0, slots := 0, locals := 104 } s m [.ref (ga Γ 8 0), .int x1, .int x2, .int x3].toArray below meth c H locs 0 0 (MQ below (Qg Γ (some (.int r)) τ (AA Γ s.heap.size)) [.ref (ga Γ 8 0), .int x1, .int x2, .int x3].toArray s 0 0 (AA Γ s.heap.size)) (F0 m 40 ls []) := by
      intro K hkk n
      induction n with
      | zero =>
        intro _ _ _ _ _ hf
        exact nomatch hf
      | succ n ih =>
        intro v8 v9 H locs ls hf hw hl
        refine lv_iload hx hb dX8_topAt_40 (lv_at hl 4 rfl) ?_
        refine lv_aload_n hx hb dX8_topAt_42 rfl (lv_at hl 0 rfl) ?_
        refine q_get (v := .int (gI σ6 8 0 8)) hx hb hK hw hown in_X8 ins_X8 (rfl : vwCl[10]? = some (RX8, TX8, 32)) rfl (Nat.le_of_ble_eq_true rfl : 0 < cnt (gn Γ) 8) 8 (by decide) 1362 fl_X8_119 rfl rfl dX8_topAt_43 ?_
        refine q_ic_ge (tgt := 109) hx hb hf dX8_topAt_46 (by decide) (fun hf => ?_) (fun hf => ?_)
        · exact hkk _ _ _ _ _ hf hw (lv_sub hl [0, 3] rfl)
        refine lv_aload_n hx hb dX8_topAt_49 rfl (lv_at hl 0 rfl) ?_
        refine lv_iload hx hb dX8_topAt_50 (lv_at hl 4 rfl) ?_
        refine q_pI hf hw (fun v h => q_rV (As := [.int v9]) (rest := []) (q := (RX8, TX8, 32)) X hK hw rfl (Nat.le_of_ble_eq_true rfl : 0 < cnt (gn Γ) 8) (rfl : vwCl[10]? = _) (kX8_isSeen h) mvX8_isSeen lk_X8_125 ⟨Nat.le_of_ble_eq_true rfl, Nat.le_of_ble_eq_true rfl⟩ rfl hl.1 rfl (Nat.le_of_ble_eq_true rfl) dX8_topAt_52 ⟨Nat.le_of_ble_eq_true rfl, Nat.le_of_ble_eq_true rfl⟩) (fun v10 H locs hf hw => ?_)
        refine q_if_eq (tgt := 103) hx hb hf dX8_topAt_55 (by decide) (fun hf => ?_) (fun hf => ?_)
        · refine q_iinc (lv1 := [(0, .ref (ga Γ 8 0)), (2, .int x2), (3, .int x3), (4, .int v8)]) (d := 1) hx hb hf dX8_topAt_103 hl (k := 4) rfl (by decide) (by decide) rfl (fun v11 ls hf hl => ?_)
          refine lv_goto (tgt := 40) hx hb dX8_topAt_106 (by decide) ?_
          exact ih _ _ _ _ _ hf hw (lv_sub hl [1, 2, 3, 4, 0] rfl)
        refine lv_aload_n hx hb dX8_topAt_58 rfl (lv_at hl 0 rfl) ?_
        refine q_get (v := .ref (ga Γ 144 0)) hx hb hK hw hown in_X8 ins_X8 (rfl : vwCl[10]? = some (RX8, TX8, 32)) rfl (Nat.le_of_ble_eq_true rfl : 0 < cnt (gn Γ) 8) 5 (by decide) 1359 fl_X8_22 rfl rfl dX8_topAt_59 ?_
        refine lv_iload hx hb dX8_topAt_62 (lv_at hl 4 rfl) ?_
        refine q_zald hx hb hK hw (k := 144) (o := 0) (fun _ _ _ => rfl) (Nat.le_of_ble_eq_true rfl : 0 < cnt (gn Γ) 144) hf dX8_topAt_64 (fun hf => ?_)
        refine q_if_ne (tgt := 103) hx hb hf dX8_topAt_65 (by decide) (fun hf => ?_) (fun hf => ?_)
        · refine q_iinc (lv1 := [(0, .ref (ga Γ 8 0)), (2, .int x2), (3, .int x3), (4, .int v8)]) (d := 1) hx hb hf dX8_topAt_103 hl (k := 4) rfl (by decide) (by decide) rfl (fun v12 ls hf hl => ?_)
          refine lv_goto (tgt := 40) hx hb dX8_topAt_106 (by decide) ?_
          exact ih _ _ _ _ _ hf hw (lv_sub hl [1, 2, 3, 4, 0] rfl)
        refine lv_aload_n hx hb dX8_topAt_68 rfl (lv_at hl 0 rfl) ?_
        refine lv_iload hx hb dX8_topAt_69 (lv_at hl 4 rfl) ?_
        refine lv_iload_n hx hb dX8_topAt_71 rfl (lv_at hl 1 rfl) ?_
        refine lv_iload_n hx hb dX8_topAt_72 rfl (lv_at hl 2 rfl) ?_
        refine q_pI hf hw (fun v h => q_rV (As := [.int v9, .int x2, .int x3]) (rest := []) (q := (RX8, TX8, 32)) X hK hw rfl (Nat.le_of_ble_eq_true rfl : 0 < cnt (gn Γ) 8) (rfl : vwCl[10]? = _) (kX8_isCovering h) mvX8_isCovering lk_X8_235 ⟨Nat.le_of_ble_eq_true rfl, Nat.le_of_ble_eq_true rfl⟩ rfl hl.1 rfl (Nat.le_of_ble_eq_true rfl) dX8_topAt_73 ⟨Nat.le_of_ble_eq_true rfl, Nat.le_of_ble_eq_true rfl⟩) (fun v13 H locs hf hw => ?_)
        refine q_if_eq (tgt := 103) hx hb hf dX8_topAt_76 (by decide) (fun hf => ?_) (fun hf => ?_)
        · refine q_iinc (lv1 := [(0, .ref (ga Γ 8 0)), (2, .int x2), (3, .int x3), (4, .int v8)]) (d := 1) hx hb hf dX8_topAt_103 hl (k := 4) rfl (by decide) (by decide) rfl (fun v14 ls hf hl => ?_)
          refine lv_goto (tgt := 40) hx hb dX8_topAt_106 (by decide) ?_
          exact ih _ _ _ _ _ hf hw (lv_sub hl [1, 2, 3, 4, 0] rfl)
        refine lv_iload hx hb dX8_topAt_79 (lv_at hl 3 rfl) ?_
        refine q_if_lt (tgt := 99) hx hb hf dX8_topAt_81 (by decide) (fun hf => ?_) (fun hf => ?_)
        · refine lv_iload hx hb dX8_topAt_99 (lv_at hl 4 rfl) ?_
          refine lv_istore (lv' := [(4, .int v9), (0, .ref (ga Γ 8 0)), (2, .int x2), (3, .int x3), (5, .int v9)]) hx hb dX8_topAt_101 hl (by decide) rfl (fun ls hl => ?_)
          refine q_iinc (lv1 := [(4, .int v9), (0, .ref (ga Γ 8 0)), (2, .int x2), (3, .int x3)]) (d := 1) hx hb hf dX8_topAt_103 hl (k := 4) rfl (by decide) (by decide) rfl (fun v15 ls hf hl => ?_)
          refine lv_goto (tgt := 40) hx hb dX8_topAt_106 (by decide) ?_
          exact ih _ _ _ _ _ hf hw (lv_sub hl [2, 3, 4, 1, 0] rfl)
        refine lv_aload_n hx hb dX8_topAt_84 rfl (lv_at hl 0 rfl) ?_
        refine lv_iload hx hb dX8_topAt_85 (lv_at hl 4 rfl) ?_
        refine q_pI hf hw (fun v h => q_rV (As := [.int v9]) (rest := []) (q := (RX8, TX8, 32)) X hK hw rfl (Nat.le_of_ble_eq_true rfl : 0 < cnt (gn Γ) 8) (rfl : vwCl[10]? = _) (kX8_rank h) mvX8_rank lk_X8_199 ⟨Nat.le_of_ble_eq_true rfl, Nat.le_of_ble_eq_true rfl⟩ rfl hl.1 rfl (Nat.le_of_ble_eq_true rfl) dX8_topAt_87 ⟨Nat.le_of_ble_eq_true rfl, Nat.le_of_ble_eq_true rfl⟩) (fun v16 H locs hf hw => ?_)
        refine lv_aload_n hx hb dX8_topAt_90 rfl (lv_at hl 0 rfl) ?_
        refine lv_iload hx hb dX8_topAt_91 (lv_at hl 3 rfl) ?_
        refine q_pI hf hw (fun v h => q_rV (As := [.int v8]) (rest := [.int v16]) (q := (RX8, TX8, 32)) X hK hw rfl (Nat.le_of_ble_eq_true rfl : 0 < cnt (gn Γ) 8) (rfl : vwCl[10]? = _) (kX8_rank h) mvX8_rank lk_X8_199 ⟨Nat.le_of_ble_eq_true rfl, Nat.le_of_ble_eq_true rfl⟩ rfl hl.1 rfl (Nat.le_of_ble_eq_true rfl) dX8_topAt_93 ⟨Nat.le_of_ble_eq_true rfl, Nat.le_of_ble_eq_true rfl⟩) (fun v17 H locs hf hw => ?_)
        refine q_ic_le (tgt := 103) hx hb hf dX8_topAt_96 (by decide) (fun hf => ?_) (fun hf => ?_)
        · refine q_iinc (lv1 := [(0, .ref (ga Γ 8 0)), (2, .int x2), (3, .int x3), (4, .int v8)]) (d := 1) hx hb hf dX8_topAt_103 hl (k := 4) rfl (by decide) (by decide) rfl (fun v18 ls hf hl => ?_)
          refine lv_goto (tgt := 40) hx hb dX8_topAt_106 (by decide) ?_
          exact ih _ _ _ _ _ hf hw (lv_sub hl [1, 2, 3, 4, 0] rfl)
        refine lv_iload hx hb dX8_topAt_99 (lv_at hl 4 rfl) ?_
        refine lv_istore (lv' := [(4, .int v9), (0, .ref (ga Γ 8 0)), (2, .int x2), (3, .int x3), (5, .int v9)]) hx hb dX8_topAt_101 hl (by decide) rfl (fun ls hl => ?_)
        refine q_iinc (lv1 := [(4, .int v9), (0, .ref (ga Γ 8 0)), (2, .int x2), (3, .int x3)]) (d := 1) hx hb hf dX8_topAt_103 hl (k := 4) rfl (by decide) (by decide) rfl (fun v19 ls hf hl => ?_)
        refine lv_goto (tgt := 40) hx hb dX8_topAt_106 (by decide) ?_
        exact ih _ _ _ _ _ hf hw (lv_sub hl [2, 3, 4, 1, 0] rfl)
    refine L40 _ (fun v20 _ H locs ls hf hw hl => ?_) N v7 (0 : Int32) _ _ _ hf hw (lv_sub hl [2, 4, 5, 1, 0] rfl)
    refine lv_iload hx hb dX8_topAt_109 (lv_at hl 1 rfl) ?_
    refine q_if_ge (tgt := 122) hx hb hf dX8_topAt_111 (by decide) (fun hf => ?_) (fun hf => ?_)
    · refine lv_iload hx hb dX8_topAt_122 (lv_at hl 1 rfl) ?_
      exact q_eiret hf hx hb hr rfl hk hw dX8_topAt_124 (Nat.le_of_ble_eq_true rfl) (Nat.le_of_ble_eq_true rfl)
    refine lv_aload_n hx hb dX8_topAt_114 rfl (lv_at hl 0 rfl) ?_
    refine lv_iconst (v := 2) hx hb dX8_topAt_115 (by decide) ?_
    refine q_eI hf hw (fun v τ h => q_rV (As := [.int (2 : Int32)]) (rest := []) (q := (RX8, TX8, 32)) X hK hw rfl (Nat.le_of_ble_eq_true rfl : 0 < cnt (gn Γ) 8) (rfl : vwCl[10]? = _) (kX8_fails h) mvX8_fails lk_X8_172 ⟨Nat.le_of_ble_eq_true rfl, Nat.le_of_ble_eq_true rfl⟩ rfl hl.1 rfl (Nat.le_of_ble_eq_true rfl) dX8_topAt_116 ⟨Nat.le_of_ble_eq_true rfl, Nat.le_of_ble_eq_true rfl⟩) (fun v22 σ21 H locs hf hw => ?_)
    refine lv_goto (tgt := 124) hx hb dX8_topAt_119 (by decide) ?_
    exact q_eiret hf hx hb hr rfl hk hw dX8_topAt_124 (Nat.le_of_ble_eq_true rfl) (Nat.le_of_ble_eq_true rfl)
  refine lv_aload_n hx hb dX8_topAt_23 rfl (lv_at hl 0 rfl) ?_
  refine lv_iconst (v := 1) hx hb dX8_topAt_24 (by decide) ?_
  refine q_eI hf hw (fun v τ h => q_rV (As := [.int (1 : Int32)]) (rest := []) (q := (RX8, TX8, 32)) X hK hw rfl (Nat.le_of_ble_eq_true rfl : 0 < cnt (gn Γ) 8) (rfl : vwCl[10]? = _) (kX8_fails h) mvX8_fails lk_X8_172 ⟨Nat.le_of_ble_eq_true rfl, Nat.le_of_ble_eq_true rfl⟩ rfl hl.1 rfl (Nat.le_of_ble_eq_true rfl) dX8_topAt_25 ⟨Nat.le_of_ble_eq_true rfl, Nat.le_of_ble_eq_true rfl⟩) (fun v24 σ23 H locs hf hw => ?_)
  exact q_eiret hf hx hb hr rfl hk hw dX8_topAt_28 (Nat.le_of_ble_eq_true rfl) (Nat.le_of_ble_eq_true rfl)
set_option maxRecDepth 100000 in
theorem kX8_lockedBy {Γ : Gm} {S : List (String × Nat × String)} {l : Launch} {N : Nat} {σ τ : St} {x1 : Int32} {x2 : Int32} {r : Int32}  (hf : fX8_lockedBy N σ x1 x2 = some (r, τ)) : CT Γ S l yX8_lockedBy cX8_lockedBy 3 (some (.int)) 5 109 0 0 [.ref (ga Γ 8 0), .int x1, .int x2] (some (.int r)) σ τ := by
  unfold fX8_lockedBy at hf
  refine ct_body (lv := [(0, .ref (ga Γ 8 0)), (1, .int x1), (2, .int x2)]) (by decide +kernel) rfl (Nat.le_of_ble_eq_true rfl) ?_
  intro p e s m below meth c ls X hr hk hK hw hl
  have hx := X.1
  have hb := X.2.1
  have hown := X.2.2.2
  refine lv_aload_n hx hb dX8_lockedBy_0 rfl (lv_at hl 0 rfl) ?_
  refine lv_iload_n hx hb dX8_lockedBy_1 rfl (lv_at hl 1 rfl) ?_
  refine lv_iload_n hx hb dX8_lockedBy_2 rfl (lv_at hl 2 rfl) ?_
  refine q_eI hf hw (fun v τ h => q_rV (As := [.int x1, .int x2]) (rest := []) (q := (RX8, TX8, 32)) X hK hw rfl (Nat.le_of_ble_eq_true rfl : 0 < cnt (gn Γ) 8) (rfl : vwCl[10]? = _) (kX8_isUnseen h) mvX8_isUnseen lk_X8_231 ⟨Nat.le_of_ble_eq_true rfl, Nat.le_of_ble_eq_true rfl⟩ rfl hl.1 rfl (Nat.le_of_ble_eq_true rfl) dX8_lockedBy_3 ⟨Nat.le_of_ble_eq_true rfl, Nat.le_of_ble_eq_true rfl⟩) (fun v2 σ1 H locs hf hw => ?_)
  refine q_if_eq (tgt := 13) hx hb hf dX8_lockedBy_6 (by decide) (fun hf => ?_) (fun hf => ?_)
  · refine lv_aload_n hx hb dX8_lockedBy_13 rfl (lv_at hl 0 rfl) ?_
    refine q_get (v := .ref (ga Γ 157 0)) hx hb hK hw hown in_X8 ins_X8 (rfl : vwCl[10]? = some (RX8, TX8, 32)) rfl (Nat.le_of_ble_eq_true rfl : 0 < cnt (gn Γ) 8) 21 (by decide) 1375 fl_X8_67 rfl rfl dX8_lockedBy_14 ?_
    refine lv_bipush (v := 36) hx hb dX8_lockedBy_17 (by decide) ?_
    refine lv_iload_n hx hb dX8_lockedBy_19 rfl (lv_at hl 2 rfl) ?_
    refine lv_iadd hx hb dX8_lockedBy_20 ?_
    refine q_iald hx hb hK hw (k := 157) (o := 0) (fun _ _ _ => rfl) (Nat.le_of_ble_eq_true rfl : 0 < cnt (gn Γ) 157) hf dX8_lockedBy_21 (fun hf => ?_)
    exact q_eiret hf hx hb hr rfl hk hw dX8_lockedBy_22 (Nat.le_of_ble_eq_true rfl) (Nat.le_of_ble_eq_true rfl)
  refine lv_iconst (v := 0) hx hb dX8_lockedBy_9 (by decide) ?_
  refine lv_goto (tgt := 22) hx hb dX8_lockedBy_10 (by decide) ?_
  exact q_eiret hf hx hb hr rfl hk hw dX8_lockedBy_22 (Nat.le_of_ble_eq_true rfl) (Nat.le_of_ble_eq_true rfl)
set_option maxRecDepth 100000 in
theorem kX8_inside {Γ : Gm} {S : List (String × Nat × String)} {l : Launch} {N : Nat} {σ τ : St} {x1 : Int32} {x2 : Int32} {r : Int32}  (hf : fX8_inside N σ x1 x2 = some (r, τ)) : CT Γ S l yX8_inside cX8_inside 5 (some (.int)) 5 109 0 0 [.ref (ga Γ 8 0), .int x1, .int x2] (some (.int r)) σ τ := by
  unfold fX8_inside at hf
  refine ct_body (lv := [(0, .ref (ga Γ 8 0)), (1, .int x1), (2, .int x2)]) (by decide +kernel) rfl (Nat.le_of_ble_eq_true rfl) ?_
  intro p e s m below meth c ls X hr hk hK hw hl
  have hx := X.1
  have hb := X.2.1
  have hown := X.2.2.2
  refine lv_aload_n hx hb dX8_inside_0 rfl (lv_at hl 0 rfl) ?_
  refine lv_iload_n hx hb dX8_inside_1 rfl (lv_at hl 1 rfl) ?_
  refine lv_iload_n hx hb dX8_inside_2 rfl (lv_at hl 2 rfl) ?_
  refine q_eI hf hw (fun v τ h => q_rV (As := [.int x1, .int x2]) (rest := []) (q := (RX8, TX8, 32)) X hK hw rfl (Nat.le_of_ble_eq_true rfl : 0 < cnt (gn Γ) 8) (rfl : vwCl[10]? = _) (kX8_isUnseen h) mvX8_isUnseen lk_X8_231 ⟨Nat.le_of_ble_eq_true rfl, Nat.le_of_ble_eq_true rfl⟩ rfl hl.1 rfl (Nat.le_of_ble_eq_true rfl) dX8_inside_3 ⟨Nat.le_of_ble_eq_true rfl, Nat.le_of_ble_eq_true rfl⟩) (fun v2 σ1 H locs hf hw => ?_)
  refine q_if_eq (tgt := 11) hx hb hf dX8_inside_6 (by decide) (fun hf => ?_) (fun hf => ?_)
  · refine lv_iconst (v := 0) hx hb dX8_inside_11 (by decide) ?_
    refine lv_istore_n (lv' := [(3, .int (0 : Int32)), (0, .ref (ga Γ 8 0)), (1, .int x1), (2, .int x2)]) hx hb dX8_inside_12 rfl hl (by decide) rfl (fun ls hl => ?_)
    refine lv_iconst (v := 0) hx hb dX8_inside_13 (by decide) ?_
    refine lv_istore (lv' := [(4, .int (0 : Int32)), (3, .int (0 : Int32)), (0, .ref (ga Γ 8 0)), (1, .int x1), (2, .int x2)]) hx hb dX8_inside_14 hl (by decide) rfl (fun ls hl => ?_)
    have L16 : ∀ (K : Int32 → Int32 → Option ((Int32 × St))) (hkk : ∀ (y3 : Int32) (y4 : Int32) (H : Heap) (locs : List Loc) (ls : Array Slot), K y3 y4 = some (r, τ) → Sit Γ σ1 s H locs → lv_has ls 5 [(3, .int y3)] → W p l e { frames := 5, cells := 0, slots := 0, locals := 109 } s m [.ref (ga Γ 8 0), .int x1, .int x2].toArray below meth c H locs 0 0 (MQ below (Qg Γ (some (.int r)) τ (AA Γ s.heap.size)) [.ref (ga Γ 8 0), .int x1, .int x2].toArray s 0 0 (AA Γ s.heap.size)) (F0 m 64 ls [])) (n : Nat) (v3 : Int32) (v4 : Int32) (H : Heap) (locs : List Loc) (ls : Array Slot), fX8_inside_L16 K N x2 σ1 n v3 v4 = some (r, τ) → Sit Γ σ1 s H locs → lv_has ls 5 [(0, .ref (ga Γ 8 0)), (2, .int x2), (3, .int v3), (4, .int v4)] → W p l e { frames := 5, cells := 0, slots := 0, locals := 109 } s m [.ref (ga Γ 8 0), .int x1, .int x2].toArray below meth c H locs 0 0 (MQ below (Qg Γ (some (.int r)) τ (AA Γ s.heap.size)) [.ref (ga Γ 8 0), .int x1, .int x2].toArray s 0 0 (AA Γ s.heap.size)) (F0 m 16 ls []) := by
      intro K hkk n
      induction n with
      | zero =>
        intro _ _ _ _ _ hf
        exact nomatch hf
      | succ n ih =>
        intro v3 v4 H locs ls hf hw hl
        refine lv_iload hx hb dX8_inside_16 (lv_at hl 3 rfl) ?_
        refine lv_aload_n hx hb dX8_inside_18 rfl (lv_at hl 0 rfl) ?_
        refine q_get (v := .int (gI σ1 8 0 8)) hx hb hK hw hown in_X8 ins_X8 (rfl : vwCl[10]? = some (RX8, TX8, 32)) rfl (Nat.le_of_ble_eq_true rfl : 0 < cnt (gn Γ) 8) 8 (by decide) 1362 fl_X8_119 rfl rfl dX8_inside_19 ?_
        refine q_ic_ge (tgt := 64) hx hb hf dX8_inside_22 (by decide) (fun hf => ?_) (fun hf => ?_)
        · exact hkk _ _ _ _ _ hf hw (lv_sub hl [2] rfl)
        refine lv_iload_n hx hb dX8_inside_25 rfl (lv_at hl 2 rfl) ?_
        refine lv_iload hx hb dX8_inside_26 (lv_at hl 3 rfl) ?_
        refine lv_iload_n hx hb dX8_inside_28 rfl (lv_at hl 1 rfl) ?_
        refine q_ic_eq (tgt := 55) hx hb hf dX8_inside_29 (by decide) (fun hf => ?_) (fun hf => ?_)
        · refine lv_iconst (v := 0) hx hb dX8_inside_55 (by decide) ?_
          refine lv_iadd hx hb dX8_inside_56 ?_
          refine q_istore_n (lv1 := [(0, .ref (ga Γ 8 0)), (2, .int x2), (4, .int v4)]) hx hb hf dX8_inside_57 rfl hl (by decide) rfl (fun v5 ls hf hl => ?_)
          refine q_iinc (lv1 := [(3, .int v5), (0, .ref (ga Γ 8 0)), (2, .int x2)]) (d := 1) hx hb hf dX8_inside_58 hl (k := 3) rfl (by decide) (by decide) rfl (fun v6 ls hf hl => ?_)
          refine lv_goto (tgt := 16) hx hb dX8_inside_61 (by decide) ?_
          exact ih _ _ _ _ _ hf hw (lv_sub hl [2, 3, 1, 0] rfl)
        refine lv_aload_n hx hb dX8_inside_32 rfl (lv_at hl 0 rfl) ?_
        refine lv_iload hx hb dX8_inside_33 (lv_at hl 3 rfl) ?_
        refine q_pI hf hw (fun v h => q_rV (As := [.int v4]) (rest := [.int v3]) (q := (RX8, TX8, 32)) X hK hw rfl (Nat.le_of_ble_eq_true rfl : 0 < cnt (gn Γ) 8) (rfl : vwCl[10]? = _) (kX8_isSeen h) mvX8_isSeen lk_X8_125 ⟨Nat.le_of_ble_eq_true rfl, Nat.le_of_ble_eq_true rfl⟩ rfl hl.1 rfl (Nat.le_of_ble_eq_true rfl) dX8_inside_35 ⟨Nat.le_of_ble_eq_true rfl, Nat.le_of_ble_eq_true rfl⟩) (fun v7 H locs hf hw => ?_)
        refine q_if_eq (tgt := 55) hx hb hf dX8_inside_38 (by decide) (fun hf => ?_) (fun hf => ?_)
        · refine lv_iconst (v := 0) hx hb dX8_inside_55 (by decide) ?_
          refine lv_iadd hx hb dX8_inside_56 ?_
          refine q_istore_n (lv1 := [(0, .ref (ga Γ 8 0)), (2, .int x2), (4, .int v4)]) hx hb hf dX8_inside_57 rfl hl (by decide) rfl (fun v8 ls hf hl => ?_)
          refine q_iinc (lv1 := [(3, .int v8), (0, .ref (ga Γ 8 0)), (2, .int x2)]) (d := 1) hx hb hf dX8_inside_58 hl (k := 3) rfl (by decide) (by decide) rfl (fun v9 ls hf hl => ?_)
          refine lv_goto (tgt := 16) hx hb dX8_inside_61 (by decide) ?_
          exact ih _ _ _ _ _ hf hw (lv_sub hl [2, 3, 1, 0] rfl)
        refine lv_aload_n hx hb dX8_inside_41 rfl (lv_at hl 0 rfl) ?_
        refine lv_iload hx hb dX8_inside_42 (lv_at hl 3 rfl) ?_
        refine lv_iload_n hx hb dX8_inside_44 rfl (lv_at hl 1 rfl) ?_
        refine q_pI hf hw (fun v h => q_rV (As := [.int v4, .int x2]) (rest := [.int v3]) (q := (RX8, TX8, 32)) X hK hw rfl (Nat.le_of_ble_eq_true rfl : 0 < cnt (gn Γ) 8) (rfl : vwCl[10]? = _) (kX8_isInside h) mvX8_isInside lk_X8_196 ⟨Nat.le_of_ble_eq_true rfl, Nat.le_of_ble_eq_true rfl⟩ rfl hl.1 rfl (Nat.le_of_ble_eq_true rfl) dX8_inside_45 ⟨Nat.le_of_ble_eq_true rfl, Nat.le_of_ble_eq_true rfl⟩) (fun v10 H locs hf hw => ?_)
        refine q_if_eq (tgt := 55) hx hb hf dX8_inside_48 (by decide) (fun hf => ?_) (fun hf => ?_)
        · refine lv_iconst (v := 0) hx hb dX8_inside_55 (by decide) ?_
          refine lv_iadd hx hb dX8_inside_56 ?_
          refine q_istore_n (lv1 := [(0, .ref (ga Γ 8 0)), (2, .int x2), (4, .int v4)]) hx hb hf dX8_inside_57 rfl hl (by decide) rfl (fun v11 ls hf hl => ?_)
          refine q_iinc (lv1 := [(3, .int v11), (0, .ref (ga Γ 8 0)), (2, .int x2)]) (d := 1) hx hb hf dX8_inside_58 hl (k := 3) rfl (by decide) (by decide) rfl (fun v12 ls hf hl => ?_)
          refine lv_goto (tgt := 16) hx hb dX8_inside_61 (by decide) ?_
          exact ih _ _ _ _ _ hf hw (lv_sub hl [2, 3, 1, 0] rfl)
        refine lv_iconst (v := 1) hx hb dX8_inside_51 (by decide) ?_
        refine lv_goto (tgt := 56) hx hb dX8_inside_52 (by decide) ?_
        refine lv_iadd hx hb dX8_inside_56 ?_
        refine q_istore_n (lv1 := [(0, .ref (ga Γ 8 0)), (2, .int x2), (4, .int v4)]) hx hb hf dX8_inside_57 rfl hl (by decide) rfl (fun v13 ls hf hl => ?_)
        refine q_iinc (lv1 := [(3, .int v13), (0, .ref (ga Γ 8 0)), (2, .int x2)]) (d := 1) hx hb hf dX8_inside_58 hl (k := 3) rfl (by decide) (by decide) rfl (fun v14 ls hf hl => ?_)
        refine lv_goto (tgt := 16) hx hb dX8_inside_61 (by decide) ?_
        exact ih _ _ _ _ _ hf hw (lv_sub hl [2, 3, 1, 0] rfl)
    refine L16 _ (fun v15 _ H locs ls hf hw hl => ?_) N (0 : Int32) (0 : Int32) _ _ _ hf hw (lv_sub hl [2, 4, 1, 0] rfl)
    refine lv_iload_n hx hb dX8_inside_64 rfl (lv_at hl 0 rfl) ?_
    exact q_eiret hf hx hb hr rfl hk hw dX8_inside_65 (Nat.le_of_ble_eq_true rfl) (Nat.le_of_ble_eq_true rfl)
  refine lv_iconst (v := 0) hx hb dX8_inside_9 (by decide) ?_
  exact q_eiret hf hx hb hr rfl hk hw dX8_inside_10 (Nat.le_of_ble_eq_true rfl) (Nat.le_of_ble_eq_true rfl)
set_option maxRecDepth 100000 in
theorem kX8_connectors {Γ : Gm} {S : List (String × Nat × String)} {l : Launch} {N : Nat} {σ τ : St} {x1 : Int32} {r : Int32}  (hf : fX8_connectors N σ x1 = some (r, τ)) : CT Γ S l yX8_connectors cX8_connectors 2 (some (.int)) 4 87 0 0 [.ref (ga Γ 8 0), .int x1] (some (.int r)) σ τ := by
  unfold fX8_connectors at hf
  refine ct_body (lv := [(0, .ref (ga Γ 8 0)), (1, .int x1)]) (by decide +kernel) rfl (Nat.le_of_ble_eq_true rfl) ?_
  intro p e s m below meth c ls X hr hk hK hw hl
  have hx := X.1
  have hb := X.2.1
  have hown := X.2.2.2
  refine lv_aload_n hx hb dX8_connectors_0 rfl (lv_at hl 0 rfl) ?_
  refine lv_iload_n hx hb dX8_connectors_1 rfl (lv_at hl 1 rfl) ?_
  refine q_eI hf hw (fun v τ h => q_rV (As := [.int x1]) (rest := []) (q := (RX8, TX8, 32)) X hK hw rfl (Nat.le_of_ble_eq_true rfl : 0 < cnt (gn Γ) 8) (rfl : vwCl[10]? = _) (kX8_isNobody h) mvX8_isNobody lk_X8_228 ⟨Nat.le_of_ble_eq_true rfl, Nat.le_of_ble_eq_true rfl⟩ rfl hl.1 rfl (Nat.le_of_ble_eq_true rfl) dX8_connectors_2 ⟨Nat.le_of_ble_eq_true rfl, Nat.le_of_ble_eq_true rfl⟩) (fun v2 σ1 H locs hf hw => ?_)
  refine q_if_eq (tgt := 12) hx hb hf dX8_connectors_5 (by decide) (fun hf => ?_) (fun hf => ?_)
  · refine lv_aload_n hx hb dX8_connectors_12 rfl (lv_at hl 0 rfl) ?_
    refine q_pI hf hw (fun v h => q_rV (As := []) (rest := []) (q := (RX8, TX8, 32)) X hK hw rfl (Nat.le_of_ble_eq_true rfl : 0 < cnt (gn Γ) 8) (rfl : vwCl[10]? = _) (kX8_joinedMany h) mvX8_joinedMany lk_X8_216 ⟨Nat.le_of_ble_eq_true rfl, Nat.le_of_ble_eq_true rfl⟩ rfl hl.1 rfl (Nat.le_of_ble_eq_true rfl) dX8_connectors_13 ⟨Nat.le_of_ble_eq_true rfl, Nat.le_of_ble_eq_true rfl⟩) (fun v3 H locs hf hw => ?_)
    exact q_eiret hf hx hb hr rfl hk hw dX8_connectors_16 (Nat.le_of_ble_eq_true rfl) (Nat.le_of_ble_eq_true rfl)
  refine lv_iconst (v := 0) hx hb dX8_connectors_8 (by decide) ?_
  refine lv_goto (tgt := 16) hx hb dX8_connectors_9 (by decide) ?_
  exact q_eiret hf hx hb hr rfl hk hw dX8_connectors_16 (Nat.le_of_ble_eq_true rfl) (Nat.le_of_ble_eq_true rfl)
set_option maxRecDepth 100000 in
theorem kX8_endColumn {Γ : Gm} {S : List (String × Nat × String)} {l : Launch} {N : Nat} {σ : St} {x1 : Int32} {x2 : Int32} {r : Int32}  (hf : fX8_endColumn N σ x1 x2 = some r) : CT Γ S l yX8_endColumn cX8_endColumn 3 (some (.int)) 1 21 0 0 [.ref (ga Γ 8 0), .int x1, .int x2] (some (.int r)) σ σ := by
  unfold fX8_endColumn at hf
  refine ct_body (lv := [(0, .ref (ga Γ 8 0)), (1, .int x1), (2, .int x2)]) (by decide +kernel) rfl (Nat.le_of_ble_eq_true rfl) ?_
  intro p e s m below meth c ls X hr hk hK hw hl
  have hx := X.1
  have hb := X.2.1
  have hown := X.2.2.2
  refine lv_iload_n hx hb dX8_endColumn_0 rfl (lv_at hl 2 rfl) ?_
  refine lv_bipush (v := 108) hx hb dX8_endColumn_1 (by decide) ?_
  refine q_ic_ne (tgt := 16) hx hb hf dX8_endColumn_3 (by decide) (fun hf => ?_) (fun hf => ?_)
  · refine lv_iload_n hx hb dX8_endColumn_16 rfl (lv_at hl 2 rfl) ?_
    refine lv_bipush (v := 114) hx hb dX8_endColumn_17 (by decide) ?_
    refine q_ic_ne (tgt := 37) hx hb hf dX8_endColumn_19 (by decide) (fun hf => ?_) (fun hf => ?_)
    · refine lv_aload_n hx hb dX8_endColumn_37 rfl (lv_at hl 0 rfl) ?_
      refine lv_iload_n hx hb dX8_endColumn_38 rfl (lv_at hl 1 rfl) ?_
      refine q_pI hf hw (fun v h => q_rV (As := [.int x1]) (rest := []) (q := (RX8, TX8, 32)) X hK hw rfl (Nat.le_of_ble_eq_true rfl : 0 < cnt (gn Γ) 8) (rfl : vwCl[10]? = _) (kX8_column h) mvX8_column lk_X8_141 ⟨Nat.le_of_ble_eq_true rfl, Nat.le_of_ble_eq_true rfl⟩ rfl hl.1 rfl (Nat.le_of_ble_eq_true rfl) dX8_endColumn_39 ⟨Nat.le_of_ble_eq_true rfl, Nat.le_of_ble_eq_true rfl⟩) (fun v1 H locs hf hw => ?_)
      refine lv_aload_n hx hb dX8_endColumn_42 rfl (lv_at hl 0 rfl) ?_
      refine q_get (v := .ref (ga Γ 140 0)) hx hb hK hw hown in_X8 ins_X8 (rfl : vwCl[10]? = some (RX8, TX8, 32)) rfl (Nat.le_of_ble_eq_true rfl : 0 < cnt (gn Γ) 8) 1 (by decide) 1355 fl_X8_9 rfl rfl dX8_endColumn_43 ?_
      refine lv_iload_n hx hb dX8_endColumn_46 rfl (lv_at hl 1 rfl) ?_
      refine q_iald hx hb hK hw (k := 140) (o := 0) (fun _ _ _ => rfl) (Nat.le_of_ble_eq_true rfl : 0 < cnt (gn Γ) 140) hf dX8_endColumn_47 (fun hf => ?_)
      refine lv_iconst (v := 1) hx hb dX8_endColumn_48 (by decide) ?_
      refine lv_isub hx hb dX8_endColumn_49 ?_
      refine lv_iconst (v := 2) hx hb dX8_endColumn_50 (by decide) ?_
      refine lv_idiv hx hb dX8_endColumn_51 (by decide) ?_
      refine lv_iadd hx hb dX8_endColumn_52 ?_
      exact q_iret hf hx hb hr rfl hk hw dX8_endColumn_53 (Nat.le_of_ble_eq_true rfl) (Nat.le_of_ble_eq_true rfl)
    refine lv_aload_n hx hb dX8_endColumn_22 rfl (lv_at hl 0 rfl) ?_
    refine lv_iload_n hx hb dX8_endColumn_23 rfl (lv_at hl 1 rfl) ?_
    refine q_pI hf hw (fun v h => q_rV (As := [.int x1]) (rest := []) (q := (RX8, TX8, 32)) X hK hw rfl (Nat.le_of_ble_eq_true rfl : 0 < cnt (gn Γ) 8) (rfl : vwCl[10]? = _) (kX8_column h) mvX8_column lk_X8_141 ⟨Nat.le_of_ble_eq_true rfl, Nat.le_of_ble_eq_true rfl⟩ rfl hl.1 rfl (Nat.le_of_ble_eq_true rfl) dX8_endColumn_24 ⟨Nat.le_of_ble_eq_true rfl, Nat.le_of_ble_eq_true rfl⟩) (fun v2 H locs hf hw => ?_)
    refine lv_aload_n hx hb dX8_endColumn_27 rfl (lv_at hl 0 rfl) ?_
    refine q_get (v := .ref (ga Γ 140 0)) hx hb hK hw hown in_X8 ins_X8 (rfl : vwCl[10]? = some (RX8, TX8, 32)) rfl (Nat.le_of_ble_eq_true rfl : 0 < cnt (gn Γ) 8) 1 (by decide) 1355 fl_X8_9 rfl rfl dX8_endColumn_28 ?_
    refine lv_iload_n hx hb dX8_endColumn_31 rfl (lv_at hl 1 rfl) ?_
    refine q_iald hx hb hK hw (k := 140) (o := 0) (fun _ _ _ => rfl) (Nat.le_of_ble_eq_true rfl : 0 < cnt (gn Γ) 140) hf dX8_endColumn_32 (fun hf => ?_)
    refine lv_iadd hx hb dX8_endColumn_33 ?_
    refine lv_goto (tgt := 53) hx hb dX8_endColumn_34 (by decide) ?_
    exact q_iret hf hx hb hr rfl hk hw dX8_endColumn_53 (Nat.le_of_ble_eq_true rfl) (Nat.le_of_ble_eq_true rfl)
  refine lv_aload_n hx hb dX8_endColumn_6 rfl (lv_at hl 0 rfl) ?_
  refine lv_iload_n hx hb dX8_endColumn_7 rfl (lv_at hl 1 rfl) ?_
  refine q_pI hf hw (fun v h => q_rV (As := [.int x1]) (rest := []) (q := (RX8, TX8, 32)) X hK hw rfl (Nat.le_of_ble_eq_true rfl : 0 < cnt (gn Γ) 8) (rfl : vwCl[10]? = _) (kX8_column h) mvX8_column lk_X8_141 ⟨Nat.le_of_ble_eq_true rfl, Nat.le_of_ble_eq_true rfl⟩ rfl hl.1 rfl (Nat.le_of_ble_eq_true rfl) dX8_endColumn_8 ⟨Nat.le_of_ble_eq_true rfl, Nat.le_of_ble_eq_true rfl⟩) (fun v3 H locs hf hw => ?_)
  refine lv_iconst (v := 1) hx hb dX8_endColumn_11 (by decide) ?_
  refine lv_isub hx hb dX8_endColumn_12 ?_
  refine lv_goto (tgt := 53) hx hb dX8_endColumn_13 (by decide) ?_
  exact q_iret hf hx hb hr rfl hk hw dX8_endColumn_53 (Nat.le_of_ble_eq_true rfl) (Nat.le_of_ble_eq_true rfl)
set_option maxRecDepth 100000 in
theorem kX8_endRow {Γ : Gm} {S : List (String × Nat × String)} {l : Launch} {N : Nat} {σ : St} {x1 : Int32} {x2 : Int32} {r : Int32}  (hf : fX8_endRow N σ x1 x2 = some r) : CT Γ S l yX8_endRow cX8_endRow 3 (some (.int)) 1 21 0 0 [.ref (ga Γ 8 0), .int x1, .int x2] (some (.int r)) σ σ := by
  unfold fX8_endRow at hf
  refine ct_body (lv := [(0, .ref (ga Γ 8 0)), (1, .int x1), (2, .int x2)]) (by decide +kernel) rfl (Nat.le_of_ble_eq_true rfl) ?_
  intro p e s m below meth c ls X hr hk hK hw hl
  have hx := X.1
  have hb := X.2.1
  have hown := X.2.2.2
  refine lv_iload_n hx hb dX8_endRow_0 rfl (lv_at hl 2 rfl) ?_
  refine lv_bipush (v := 116) hx hb dX8_endRow_1 (by decide) ?_
  refine q_ic_ne (tgt := 16) hx hb hf dX8_endRow_3 (by decide) (fun hf => ?_) (fun hf => ?_)
  · refine lv_iload_n hx hb dX8_endRow_16 rfl (lv_at hl 2 rfl) ?_
    refine lv_bipush (v := 98) hx hb dX8_endRow_17 (by decide) ?_
    refine q_ic_ne (tgt := 37) hx hb hf dX8_endRow_19 (by decide) (fun hf => ?_) (fun hf => ?_)
    · refine lv_aload_n hx hb dX8_endRow_37 rfl (lv_at hl 0 rfl) ?_
      refine lv_iload_n hx hb dX8_endRow_38 rfl (lv_at hl 1 rfl) ?_
      refine q_pI hf hw (fun v h => q_rV (As := [.int x1]) (rest := []) (q := (RX8, TX8, 32)) X hK hw rfl (Nat.le_of_ble_eq_true rfl : 0 < cnt (gn Γ) 8) (rfl : vwCl[10]? = _) (kX8_row h) mvX8_row lk_X8_145 ⟨Nat.le_of_ble_eq_true rfl, Nat.le_of_ble_eq_true rfl⟩ rfl hl.1 rfl (Nat.le_of_ble_eq_true rfl) dX8_endRow_39 ⟨Nat.le_of_ble_eq_true rfl, Nat.le_of_ble_eq_true rfl⟩) (fun v1 H locs hf hw => ?_)
      refine lv_aload_n hx hb dX8_endRow_42 rfl (lv_at hl 0 rfl) ?_
      refine q_get (v := .ref (ga Γ 141 0)) hx hb hK hw hown in_X8 ins_X8 (rfl : vwCl[10]? = some (RX8, TX8, 32)) rfl (Nat.le_of_ble_eq_true rfl : 0 < cnt (gn Γ) 8) 2 (by decide) 1356 fl_X8_13 rfl rfl dX8_endRow_43 ?_
      refine lv_iload_n hx hb dX8_endRow_46 rfl (lv_at hl 1 rfl) ?_
      refine q_iald hx hb hK hw (k := 141) (o := 0) (fun _ _ _ => rfl) (Nat.le_of_ble_eq_true rfl : 0 < cnt (gn Γ) 141) hf dX8_endRow_47 (fun hf => ?_)
      refine lv_iconst (v := 1) hx hb dX8_endRow_48 (by decide) ?_
      refine lv_isub hx hb dX8_endRow_49 ?_
      refine lv_iconst (v := 2) hx hb dX8_endRow_50 (by decide) ?_
      refine lv_idiv hx hb dX8_endRow_51 (by decide) ?_
      refine lv_iadd hx hb dX8_endRow_52 ?_
      exact q_iret hf hx hb hr rfl hk hw dX8_endRow_53 (Nat.le_of_ble_eq_true rfl) (Nat.le_of_ble_eq_true rfl)
    refine lv_aload_n hx hb dX8_endRow_22 rfl (lv_at hl 0 rfl) ?_
    refine lv_iload_n hx hb dX8_endRow_23 rfl (lv_at hl 1 rfl) ?_
    refine q_pI hf hw (fun v h => q_rV (As := [.int x1]) (rest := []) (q := (RX8, TX8, 32)) X hK hw rfl (Nat.le_of_ble_eq_true rfl : 0 < cnt (gn Γ) 8) (rfl : vwCl[10]? = _) (kX8_row h) mvX8_row lk_X8_145 ⟨Nat.le_of_ble_eq_true rfl, Nat.le_of_ble_eq_true rfl⟩ rfl hl.1 rfl (Nat.le_of_ble_eq_true rfl) dX8_endRow_24 ⟨Nat.le_of_ble_eq_true rfl, Nat.le_of_ble_eq_true rfl⟩) (fun v2 H locs hf hw => ?_)
    refine lv_aload_n hx hb dX8_endRow_27 rfl (lv_at hl 0 rfl) ?_
    refine q_get (v := .ref (ga Γ 141 0)) hx hb hK hw hown in_X8 ins_X8 (rfl : vwCl[10]? = some (RX8, TX8, 32)) rfl (Nat.le_of_ble_eq_true rfl : 0 < cnt (gn Γ) 8) 2 (by decide) 1356 fl_X8_13 rfl rfl dX8_endRow_28 ?_
    refine lv_iload_n hx hb dX8_endRow_31 rfl (lv_at hl 1 rfl) ?_
    refine q_iald hx hb hK hw (k := 141) (o := 0) (fun _ _ _ => rfl) (Nat.le_of_ble_eq_true rfl : 0 < cnt (gn Γ) 141) hf dX8_endRow_32 (fun hf => ?_)
    refine lv_iadd hx hb dX8_endRow_33 ?_
    refine lv_goto (tgt := 53) hx hb dX8_endRow_34 (by decide) ?_
    exact q_iret hf hx hb hr rfl hk hw dX8_endRow_53 (Nat.le_of_ble_eq_true rfl) (Nat.le_of_ble_eq_true rfl)
  refine lv_aload_n hx hb dX8_endRow_6 rfl (lv_at hl 0 rfl) ?_
  refine lv_iload_n hx hb dX8_endRow_7 rfl (lv_at hl 1 rfl) ?_
  refine q_pI hf hw (fun v h => q_rV (As := [.int x1]) (rest := []) (q := (RX8, TX8, 32)) X hK hw rfl (Nat.le_of_ble_eq_true rfl : 0 < cnt (gn Γ) 8) (rfl : vwCl[10]? = _) (kX8_row h) mvX8_row lk_X8_145 ⟨Nat.le_of_ble_eq_true rfl, Nat.le_of_ble_eq_true rfl⟩ rfl hl.1 rfl (Nat.le_of_ble_eq_true rfl) dX8_endRow_8 ⟨Nat.le_of_ble_eq_true rfl, Nat.le_of_ble_eq_true rfl⟩) (fun v3 H locs hf hw => ?_)
  refine lv_iconst (v := 1) hx hb dX8_endRow_11 (by decide) ?_
  refine lv_isub hx hb dX8_endRow_12 ?_
  refine lv_goto (tgt := 53) hx hb dX8_endRow_13 (by decide) ?_
  exact q_iret hf hx hb hr rfl hk hw dX8_endRow_53 (Nat.le_of_ble_eq_true rfl) (Nat.le_of_ble_eq_true rfl)
set_option maxRecDepth 100000 in
theorem kX8_isOpen {Γ : Gm} {S : List (String × Nat × String)} {l : Launch} {N : Nat} {σ : St} {x1 : Int32} {x2 : Int32} {r : Int32}  (hf : fX8_isOpen N σ x1 x2 = some r) : CT Γ S l yX8_isOpen cX8_isOpen 3 (some (.boolean)) 2 46 0 0 [.ref (ga Γ 8 0), .int x1, .int x2] (some (.int r)) σ σ := by
  unfold fX8_isOpen at hf
  refine ct_body (lv := [(0, .ref (ga Γ 8 0)), (1, .int x1), (2, .int x2)]) (by decide +kernel) rfl (Nat.le_of_ble_eq_true rfl) ?_
  intro p e s m below meth c ls X hr hk hK hw hl
  have hx := X.1
  have hb := X.2.1
  have hown := X.2.2.2
  refine lv_aload_n hx hb dX8_isOpen_0 rfl (lv_at hl 0 rfl) ?_
  refine lv_iload_n hx hb dX8_isOpen_1 rfl (lv_at hl 1 rfl) ?_
  refine lv_iload_n hx hb dX8_isOpen_2 rfl (lv_at hl 2 rfl) ?_
  refine lv_iconst (v := 1) hx hb dX8_isOpen_3 (by decide) ?_
  refine lv_iconst (v := 1) hx hb dX8_isOpen_4 (by decide) ?_
  refine q_pI hf hw (fun v h => q_rV (As := [.int x1, .int x2, .int (1 : Int32), .int (1 : Int32)]) (rest := []) (q := (RX8, TX8, 32)) X hK hw rfl (Nat.le_of_ble_eq_true rfl : 0 < cnt (gn Γ) 8) (rfl : vwCl[10]? = _) (kX8_isOnBoard h) mvX8_isOnBoard lk_X8_168 ⟨Nat.le_of_ble_eq_true rfl, Nat.le_of_ble_eq_true rfl⟩ rfl hl.1 rfl (Nat.le_of_ble_eq_true rfl) dX8_isOpen_5 ⟨Nat.le_of_ble_eq_true rfl, Nat.le_of_ble_eq_true rfl⟩) (fun v1 H locs hf hw => ?_)
  refine q_if_eq (tgt := 29) hx hb hf dX8_isOpen_8 (by decide) (fun hf => ?_) (fun hf => ?_)
  · refine lv_iconst (v := 0) hx hb dX8_isOpen_29 (by decide) ?_
    exact q_iret hf hx hb hr rfl hk hw dX8_isOpen_30 (Nat.le_of_ble_eq_true rfl) (Nat.le_of_ble_eq_true rfl)
  refine lv_aload_n hx hb dX8_isOpen_11 rfl (lv_at hl 0 rfl) ?_
  refine q_get (v := .ref (ga Γ 171 0)) hx hb hK hw hown in_X8 ins_X8 (rfl : vwCl[10]? = some (RX8, TX8, 32)) rfl (Nat.le_of_ble_eq_true rfl : 0 < cnt (gn Γ) 8) 30 (by decide) 1384 fl_X8_91 rfl rfl dX8_isOpen_12 ?_
  refine lv_bipush (v := 24) hx hb dX8_isOpen_15 (by decide) ?_
  refine lv_iload_n hx hb dX8_isOpen_17 rfl (lv_at hl 2 rfl) ?_
  refine lv_imul hx hb dX8_isOpen_18 ?_
  refine lv_iload_n hx hb dX8_isOpen_19 rfl (lv_at hl 1 rfl) ?_
  refine lv_iadd hx hb dX8_isOpen_20 ?_
  refine q_zald hx hb hK hw (k := 171) (o := 0) (fun _ _ _ => rfl) (Nat.le_of_ble_eq_true rfl : 0 < cnt (gn Γ) 171) hf dX8_isOpen_21 (fun hf => ?_)
  refine q_if_ne (tgt := 29) hx hb hf dX8_isOpen_22 (by decide) (fun hf => ?_) (fun hf => ?_)
  · refine lv_iconst (v := 0) hx hb dX8_isOpen_29 (by decide) ?_
    exact q_iret hf hx hb hr rfl hk hw dX8_isOpen_30 (Nat.le_of_ble_eq_true rfl) (Nat.le_of_ble_eq_true rfl)
  refine lv_iconst (v := 1) hx hb dX8_isOpen_25 (by decide) ?_
  refine lv_goto (tgt := 30) hx hb dX8_isOpen_26 (by decide) ?_
  exact q_iret hf hx hb hr rfl hk hw dX8_isOpen_30 (Nat.le_of_ble_eq_true rfl) (Nat.le_of_ble_eq_true rfl)
set_option maxRecDepth 100000 in
theorem kX8_shuts {Γ : Gm} {S : List (String × Nat × String)} {l : Launch} {N : Nat} {σ τ : St}  (hf : fX8_shuts N σ = some τ) : CT Γ S l yX8_shuts cX8_shuts 3 none 2 45 0 0 [.ref (ga Γ 8 0)] none σ τ := by
  unfold fX8_shuts at hf
  refine ct_body (lv := [(0, .ref (ga Γ 8 0))]) (by decide +kernel) rfl (Nat.le_of_ble_eq_true rfl) ?_
  intro p e s m below meth c ls X hr hk hK hw hl
  have hx := X.1
  have hb := X.2.1
  have hown := X.2.2.2
  refine lv_iconst (v := 0) hx hb dX8_shuts_0 (by decide) ?_
  refine lv_istore_n (lv' := [(1, .int (0 : Int32)), (0, .ref (ga Γ 8 0))]) hx hb dX8_shuts_1 rfl hl (by decide) rfl (fun ls hl => ?_)
  have L2 : ∀ (K : Int32 → St → Option (St)) (hkk : ∀ (y1 : Int32) (σq : St) (H : Heap) (locs : List Loc) (ls : Array Slot), K y1 σq = some τ → Sit Γ σq s H locs → lv_has ls 3 [] → W p l e { frames := 2, cells := 0, slots := 0, locals := 45 } s m [.ref (ga Γ 8 0)].toArray below meth c H locs 0 0 (MQ below (Qg Γ (none) τ (AA Γ s.heap.size)) [.ref (ga Γ 8 0)].toArray s 0 0 (AA Γ s.heap.size)) (F0 m 85 ls [])) (n : Nat) (v1 : Int32) (σ2 : St) (H : Heap) (locs : List Loc) (ls : Array Slot), fX8_shuts_L2 K N n v1 σ2 = some τ → Sit Γ σ2 s H locs → lv_has ls 3 [(0, .ref (ga Γ 8 0)), (1, .int v1)] → W p l e { frames := 2, cells := 0, slots := 0, locals := 45 } s m [.ref (ga Γ 8 0)].toArray below meth c H locs 0 0 (MQ below (Qg Γ (none) τ (AA Γ s.heap.size)) [.ref (ga Γ 8 0)].toArray s 0 0 (AA Γ s.heap.size)) (F0 m 2 ls []) := by
    intro K hkk n
    induction n with
    | zero =>
      intro _ _ _ _ _ hf
      exact nomatch hf
    | succ n ih =>
      intro v1 σ2 H locs ls hf hw hl
      refine lv_iload_n hx hb dX8_shuts_2 rfl (lv_at hl 1 rfl) ?_
      refine lv_sipush (v := 384) hx hb dX8_shuts_3 (by decide) ?_
      refine q_ic_ge (tgt := 85) hx hb hf dX8_shuts_6 (by decide) (fun hf => ?_) (fun hf => ?_)
      · exact hkk _ _ _ _ _ hf hw (lv_sub hl [] rfl)
      refine lv_aload_n hx hb dX8_shuts_9 rfl (lv_at hl 0 rfl) ?_
      refine q_get (v := .ref (ga Γ 171 0)) hx hb hK hw hown in_X8 ins_X8 (rfl : vwCl[10]? = some (RX8, TX8, 32)) rfl (Nat.le_of_ble_eq_true rfl : 0 < cnt (gn Γ) 8) 30 (by decide) 1384 fl_X8_91 rfl rfl dX8_shuts_10 ?_
      refine lv_iload_n hx hb dX8_shuts_13 rfl (lv_at hl 1 rfl) ?_
      refine lv_iconst (v := 0) hx hb dX8_shuts_14 (by decide) ?_
      refine q_zast hx hb hK hw (k := 171) (o := 0) (fun _ _ _ => rfl) (Nat.le_of_ble_eq_true rfl : 0 < cnt (gn Γ) 171) hf dX8_shuts_15 (fun σ3 H locs hf hw => ?_)
      refine lv_iconst (v := 0) hx hb dX8_shuts_16 (by decide) ?_
      refine lv_istore_n (lv' := [(2, .int (0 : Int32)), (0, .ref (ga Γ 8 0)), (1, .int v1)]) hx hb dX8_shuts_17 rfl hl (by decide) rfl (fun ls hl => ?_)
      have L18 : ∀ (K : Int32 → St → Option (St)) (hkk : ∀ (y2 : Int32) (σq : St) (H : Heap) (locs : List Loc) (ls : Array Slot), K y2 σq = some τ → Sit Γ σq s H locs → lv_has ls 3 [(0, .ref (ga Γ 8 0)), (1, .int v1)] → W p l e { frames := 2, cells := 0, slots := 0, locals := 45 } s m [.ref (ga Γ 8 0)].toArray below meth c H locs 0 0 (MQ below (Qg Γ (none) τ (AA Γ s.heap.size)) [.ref (ga Γ 8 0)].toArray s 0 0 (AA Γ s.heap.size)) (F0 m 79 ls [])) (n : Nat) (v4 : Int32) (σ5 : St) (H : Heap) (locs : List Loc) (ls : Array Slot), fX8_shuts_L18 K N v1 n v4 σ5 = some τ → Sit Γ σ5 s H locs → lv_has ls 3 [(0, .ref (ga Γ 8 0)), (1, .int v1), (2, .int v4)] → W p l e { frames := 2, cells := 0, slots := 0, locals := 45 } s m [.ref (ga Γ 8 0)].toArray below meth c H locs 0 0 (MQ below (Qg Γ (none) τ (AA Γ s.heap.size)) [.ref (ga Γ 8 0)].toArray s 0 0 (AA Γ s.heap.size)) (F0 m 18 ls []) := by
        intro K hkk n
        induction n with
        | zero =>
          intro _ _ _ _ _ hf
          exact nomatch hf
        | succ n ih =>
          intro v4 σ5 H locs ls hf hw hl
          refine lv_iload_n hx hb dX8_shuts_18 rfl (lv_at hl 2 rfl) ?_
          refine lv_aload_n hx hb dX8_shuts_19 rfl (lv_at hl 0 rfl) ?_
          refine q_get (v := .int (gI σ5 8 0 8)) hx hb hK hw hown in_X8 ins_X8 (rfl : vwCl[10]? = some (RX8, TX8, 32)) rfl (Nat.le_of_ble_eq_true rfl : 0 < cnt (gn Γ) 8) 8 (by decide) 1362 fl_X8_119 rfl rfl dX8_shuts_20 ?_
          refine q_ic_ge (tgt := 79) hx hb hf dX8_shuts_23 (by decide) (fun hf => ?_) (fun hf => ?_)
          · exact hkk _ _ _ _ _ hf hw (lv_sub hl [0, 1] rfl)
          refine lv_aload_n hx hb dX8_shuts_26 rfl (lv_at hl 0 rfl) ?_
          refine q_get (v := .ref (ga Γ 171 0)) hx hb hK hw hown in_X8 ins_X8 (rfl : vwCl[10]? = some (RX8, TX8, 32)) rfl (Nat.le_of_ble_eq_true rfl : 0 < cnt (gn Γ) 8) 30 (by decide) 1384 fl_X8_91 rfl rfl dX8_shuts_27 ?_
          refine lv_iload_n hx hb dX8_shuts_30 rfl (lv_at hl 1 rfl) ?_
          refine lv_dup2_11 hx hb dX8_shuts_31 rfl rfl ?_
          refine q_zald hx hb hK hw (k := 171) (o := 0) (fun _ _ _ => rfl) (Nat.le_of_ble_eq_true rfl : 0 < cnt (gn Γ) 171) hf dX8_shuts_32 (fun hf => ?_)
          refine lv_aload_n hx hb dX8_shuts_33 rfl (lv_at hl 0 rfl) ?_
          refine lv_iload_n hx hb dX8_shuts_34 rfl (lv_at hl 2 rfl) ?_
          refine q_pI hf hw (fun v h => q_rV (As := [.int v4]) (rest := [.int (gI σ5 171 0 (Int32.toNatClampNeg v1)), .int v1, .ref (ga Γ 171 0)]) (q := (RX8, TX8, 32)) X hK hw rfl (Nat.le_of_ble_eq_true rfl : 0 < cnt (gn Γ) 8) (rfl : vwCl[10]? = _) (kX8_isSeen h) mvX8_isSeen lk_X8_125 ⟨Nat.le_of_ble_eq_true rfl, Nat.le_of_ble_eq_true rfl⟩ rfl hl.1 rfl (Nat.le_of_ble_eq_true rfl) dX8_shuts_35 ⟨Nat.le_of_ble_eq_true rfl, Nat.le_of_ble_eq_true rfl⟩) (fun v6 H locs hf hw => ?_)
          refine q_if_eq (tgt := 70) hx hb hf dX8_shuts_38 (by decide) (fun hf => ?_) (fun hf => ?_)
          · refine lv_iconst (v := 0) hx hb dX8_shuts_70 (by decide) ?_
            refine lv_ior hx hb dX8_shuts_71 ?_
            refine q_zast hx hb hK hw (k := 171) (o := 0) (fun _ _ _ => rfl) (Nat.le_of_ble_eq_true rfl : 0 < cnt (gn Γ) 171) hf dX8_shuts_72 (fun σ7 H locs hf hw => ?_)
            refine q_iinc (lv1 := [(0, .ref (ga Γ 8 0)), (1, .int v1)]) (d := 1) hx hb hf dX8_shuts_73 hl (k := 2) rfl (by decide) (by decide) rfl (fun v8 ls hf hl => ?_)
            refine lv_goto (tgt := 18) hx hb dX8_shuts_76 (by decide) ?_
            exact ih _ _ _ _ _ hf hw (lv_sub hl [1, 2, 0] rfl)
          refine lv_aload_n hx hb dX8_shuts_41 rfl (lv_at hl 0 rfl) ?_
          refine q_get (v := .ref (ga Γ 144 0)) hx hb hK hw hown in_X8 ins_X8 (rfl : vwCl[10]? = some (RX8, TX8, 32)) rfl (Nat.le_of_ble_eq_true rfl : 0 < cnt (gn Γ) 8) 5 (by decide) 1359 fl_X8_22 rfl rfl dX8_shuts_42 ?_
          refine lv_iload_n hx hb dX8_shuts_45 rfl (lv_at hl 2 rfl) ?_
          refine q_zald hx hb hK hw (k := 144) (o := 0) (fun _ _ _ => rfl) (Nat.le_of_ble_eq_true rfl : 0 < cnt (gn Γ) 144) hf dX8_shuts_46 (fun hf => ?_)
          refine q_if_ne (tgt := 70) hx hb hf dX8_shuts_47 (by decide) (fun hf => ?_) (fun hf => ?_)
          · refine lv_iconst (v := 0) hx hb dX8_shuts_70 (by decide) ?_
            refine lv_ior hx hb dX8_shuts_71 ?_
            refine q_zast hx hb hK hw (k := 171) (o := 0) (fun _ _ _ => rfl) (Nat.le_of_ble_eq_true rfl : 0 < cnt (gn Γ) 171) hf dX8_shuts_72 (fun σ9 H locs hf hw => ?_)
            refine q_iinc (lv1 := [(0, .ref (ga Γ 8 0)), (1, .int v1)]) (d := 1) hx hb hf dX8_shuts_73 hl (k := 2) rfl (by decide) (by decide) rfl (fun v10 ls hf hl => ?_)
            refine lv_goto (tgt := 18) hx hb dX8_shuts_76 (by decide) ?_
            exact ih _ _ _ _ _ hf hw (lv_sub hl [1, 2, 0] rfl)
          refine lv_aload_n hx hb dX8_shuts_50 rfl (lv_at hl 0 rfl) ?_
          refine lv_iload_n hx hb dX8_shuts_51 rfl (lv_at hl 2 rfl) ?_
          refine lv_iload_n hx hb dX8_shuts_52 rfl (lv_at hl 1 rfl) ?_
          refine lv_bipush (v := 24) hx hb dX8_shuts_53 (by decide) ?_
          refine lv_irem hx hb dX8_shuts_55 (by decide) ?_
          refine lv_iload_n hx hb dX8_shuts_56 rfl (lv_at hl 1 rfl) ?_
          refine lv_bipush (v := 24) hx hb dX8_shuts_57 (by decide) ?_
          refine lv_idiv hx hb dX8_shuts_59 (by decide) ?_
          refine q_pI hf hw (fun v h => q_rV (As := [.int v4, .int (v1 - v1 / (24 : Int32) * (24 : Int32)), .int (v1 / (24 : Int32))]) (rest := [.int (gI σ5 171 0 (Int32.toNatClampNeg v1)), .int v1, .ref (ga Γ 171 0)]) (q := (RX8, TX8, 32)) X hK hw rfl (Nat.le_of_ble_eq_true rfl : 0 < cnt (gn Γ) 8) (rfl : vwCl[10]? = _) (kX8_isCovering h) mvX8_isCovering lk_X8_235 ⟨Nat.le_of_ble_eq_true rfl, Nat.le_of_ble_eq_true rfl⟩ rfl hl.1 rfl (Nat.le_of_ble_eq_true rfl) dX8_shuts_60 ⟨Nat.le_of_ble_eq_true rfl, Nat.le_of_ble_eq_true rfl⟩) (fun v11 H locs hf hw => ?_)
          refine q_if_eq (tgt := 70) hx hb hf dX8_shuts_63 (by decide) (fun hf => ?_) (fun hf => ?_)
          · refine lv_iconst (v := 0) hx hb dX8_shuts_70 (by decide) ?_
            refine lv_ior hx hb dX8_shuts_71 ?_
            refine q_zast hx hb hK hw (k := 171) (o := 0) (fun _ _ _ => rfl) (Nat.le_of_ble_eq_true rfl : 0 < cnt (gn Γ) 171) hf dX8_shuts_72 (fun σ12 H locs hf hw => ?_)
            refine q_iinc (lv1 := [(0, .ref (ga Γ 8 0)), (1, .int v1)]) (d := 1) hx hb hf dX8_shuts_73 hl (k := 2) rfl (by decide) (by decide) rfl (fun v13 ls hf hl => ?_)
            refine lv_goto (tgt := 18) hx hb dX8_shuts_76 (by decide) ?_
            exact ih _ _ _ _ _ hf hw (lv_sub hl [1, 2, 0] rfl)
          refine lv_iconst (v := 1) hx hb dX8_shuts_66 (by decide) ?_
          refine lv_goto (tgt := 71) hx hb dX8_shuts_67 (by decide) ?_
          refine lv_ior hx hb dX8_shuts_71 ?_
          refine q_zast hx hb hK hw (k := 171) (o := 0) (fun _ _ _ => rfl) (Nat.le_of_ble_eq_true rfl : 0 < cnt (gn Γ) 171) hf dX8_shuts_72 (fun σ14 H locs hf hw => ?_)
          refine q_iinc (lv1 := [(0, .ref (ga Γ 8 0)), (1, .int v1)]) (d := 1) hx hb hf dX8_shuts_73 hl (k := 2) rfl (by decide) (by decide) rfl (fun v15 ls hf hl => ?_)
          refine lv_goto (tgt := 18) hx hb dX8_shuts_76 (by decide) ?_
          exact ih _ _ _ _ _ hf hw (lv_sub hl [1, 2, 0] rfl)
      refine L18 _ (fun _ σ16 H locs ls hf hw hl => ?_) N (0 : Int32) σ3 _ _ _ hf hw (lv_sub hl [1, 2, 0] rfl)
      refine q_iinc (lv1 := [(0, .ref (ga Γ 8 0))]) (d := 1) hx hb hf dX8_shuts_79 hl (k := 1) rfl (by decide) (by decide) rfl (fun v17 ls hf hl => ?_)
      refine lv_goto (tgt := 2) hx hb dX8_shuts_82 (by decide) ?_
      exact ih _ _ _ _ _ hf hw (lv_sub hl [1, 0] rfl)
  refine L2 _ (fun _ σ18 H locs ls hf hw hl => ?_) N (0 : Int32) σ _ _ _ hf hw (lv_sub hl [1, 0] rfl)
  exact q_vret hx hb hr hk hw dX8_shuts_85 hf (Nat.le_of_ble_eq_true rfl) (Nat.le_of_ble_eq_true rfl)
set_option maxRecDepth 100000 in
theorem kX8_stepOver {Γ : Gm} {S : List (String × Nat × String)} {l : Launch} {N : Nat} {σ : St} {x1 : Int32} {r : Int32}  (hf : fX8_stepOver N σ x1 = some r) : CT Γ S l yX8_stepOver cX8_stepOver 1 (some (.int)) 0 0 0 0 [.int x1] (some (.int r)) σ σ := by
  unfold fX8_stepOver at hf
  refine ct_body (lv := [(0, .int x1)]) (by decide +kernel) rfl (Nat.le_of_ble_eq_true rfl) ?_
  intro p e s m below meth c ls X hr hk hK hw hl
  have hx := X.1
  have hb := X.2.1
  have hown := X.2.2.2
  refine lv_iload_n hx hb dX8_stepOver_0 rfl (lv_at hl 0 rfl) ?_
  refine q_if_ne (tgt := 8) hx hb hf dX8_stepOver_1 (by decide) (fun hf => ?_) (fun hf => ?_)
  · refine lv_iload_n hx hb dX8_stepOver_8 rfl (lv_at hl 0 rfl) ?_
    refine lv_iconst (v := 1) hx hb dX8_stepOver_9 (by decide) ?_
    refine q_ic_ne (tgt := 17) hx hb hf dX8_stepOver_10 (by decide) (fun hf => ?_) (fun hf => ?_)
    · refine lv_iconst (v := 0) hx hb dX8_stepOver_17 (by decide) ?_
      exact q_iret hf hx hb hr rfl hk hw dX8_stepOver_18 (Nat.le_of_ble_eq_true rfl) (Nat.le_of_ble_eq_true rfl)
    refine lv_iconst (v := (-1)) hx hb dX8_stepOver_13 (by decide) ?_
    refine lv_goto (tgt := 18) hx hb dX8_stepOver_14 (by decide) ?_
    exact q_iret hf hx hb hr rfl hk hw dX8_stepOver_18 (Nat.le_of_ble_eq_true rfl) (Nat.le_of_ble_eq_true rfl)
  refine lv_iconst (v := 1) hx hb dX8_stepOver_4 (by decide) ?_
  refine lv_goto (tgt := 18) hx hb dX8_stepOver_5 (by decide) ?_
  exact q_iret hf hx hb hr rfl hk hw dX8_stepOver_18 (Nat.le_of_ble_eq_true rfl) (Nat.le_of_ble_eq_true rfl)
set_option maxRecDepth 100000 in
theorem kX8_stepDown {Γ : Gm} {S : List (String × Nat × String)} {l : Launch} {N : Nat} {σ : St} {x1 : Int32} {r : Int32}  (hf : fX8_stepDown N σ x1 = some r) : CT Γ S l yX8_stepDown cX8_stepDown 1 (some (.int)) 0 0 0 0 [.int x1] (some (.int r)) σ σ := by
  unfold fX8_stepDown at hf
  refine ct_body (lv := [(0, .int x1)]) (by decide +kernel) rfl (Nat.le_of_ble_eq_true rfl) ?_
  intro p e s m below meth c ls X hr hk hK hw hl
  have hx := X.1
  have hb := X.2.1
  have hown := X.2.2.2
  refine lv_iload_n hx hb dX8_stepDown_0 rfl (lv_at hl 0 rfl) ?_
  refine lv_iconst (v := 2) hx hb dX8_stepDown_1 (by decide) ?_
  refine q_ic_ne (tgt := 9) hx hb hf dX8_stepDown_2 (by decide) (fun hf => ?_) (fun hf => ?_)
  · refine lv_iload_n hx hb dX8_stepDown_9 rfl (lv_at hl 0 rfl) ?_
    refine lv_iconst (v := 3) hx hb dX8_stepDown_10 (by decide) ?_
    refine q_ic_ne (tgt := 18) hx hb hf dX8_stepDown_11 (by decide) (fun hf => ?_) (fun hf => ?_)
    · refine lv_iconst (v := 0) hx hb dX8_stepDown_18 (by decide) ?_
      exact q_iret hf hx hb hr rfl hk hw dX8_stepDown_19 (Nat.le_of_ble_eq_true rfl) (Nat.le_of_ble_eq_true rfl)
    refine lv_iconst (v := (-1)) hx hb dX8_stepDown_14 (by decide) ?_
    refine lv_goto (tgt := 19) hx hb dX8_stepDown_15 (by decide) ?_
    exact q_iret hf hx hb hr rfl hk hw dX8_stepDown_19 (Nat.le_of_ble_eq_true rfl) (Nat.le_of_ble_eq_true rfl)
  refine lv_iconst (v := 1) hx hb dX8_stepDown_5 (by decide) ?_
  refine lv_goto (tgt := 19) hx hb dX8_stepDown_6 (by decide) ?_
  exact q_iret hf hx hb hr rfl hk hw dX8_stepDown_19 (Nat.le_of_ble_eq_true rfl) (Nat.le_of_ble_eq_true rfl)
set_option maxRecDepth 100000 in
theorem kX8_route {Γ : Gm} {S : List (String × Nat × String)} {l : Launch} {N : Nat} {σ τ : St} {x1 : Int32} {r : Int32}  (hf : fX8_route N σ x1 = some (r, τ)) : CT Γ S l yX8_route cX8_route 16 (some (.int)) 3 68 0 0 [.ref (ga Γ 8 0), .int x1] (some (.int r)) σ τ := by
  unfold fX8_route at hf
  refine ct_body (lv := [(0, .ref (ga Γ 8 0)), (1, .int x1)]) (by decide +kernel) rfl (Nat.le_of_ble_eq_true rfl) ?_
  intro p e s m below meth c ls X hr hk hK hw hl
  have hx := X.1
  have hb := X.2.1
  have hown := X.2.2.2
  refine lv_aload_n hx hb dX8_route_0 rfl (lv_at hl 0 rfl) ?_
  refine q_eV hf hw (fun τ h => q_rV (As := []) (rest := []) (q := (RX8, TX8, 32)) X hK hw rfl (Nat.le_of_ble_eq_true rfl : 0 < cnt (gn Γ) 8) (rfl : vwCl[10]? = _) (kX8_shuts h) mvX8_shuts lk_X8_238 ⟨Nat.le_of_ble_eq_true rfl, Nat.le_of_ble_eq_true rfl⟩ rfl hl.1 rfl (Nat.le_of_ble_eq_true rfl) dX8_route_1 ⟨Nat.le_of_ble_eq_true rfl, Nat.le_of_ble_eq_true rfl⟩) (fun σ1 H locs hf hw => ?_)
  refine lv_aload_n hx hb dX8_route_4 rfl (lv_at hl 0 rfl) ?_
  refine lv_aload_n hx hb dX8_route_5 rfl (lv_at hl 0 rfl) ?_
  refine q_get (v := .ref (ga Γ 142 0)) hx hb hK hw hown in_X8 ins_X8 (rfl : vwCl[10]? = some (RX8, TX8, 32)) rfl (Nat.le_of_ble_eq_true rfl : 0 < cnt (gn Γ) 8) 3 (by decide) 1357 fl_X8_16 rfl rfl dX8_route_6 ?_
  refine lv_iload_n hx hb dX8_route_9 rfl (lv_at hl 1 rfl) ?_
  refine q_iald hx hb hK hw (k := 142) (o := 0) (fun _ _ _ => rfl) (Nat.le_of_ble_eq_true rfl : 0 < cnt (gn Γ) 142) hf dX8_route_10 (fun hf => ?_)
  refine lv_aload_n hx hb dX8_route_11 rfl (lv_at hl 0 rfl) ?_
  refine q_get (v := .ref (ga Γ 145 0)) hx hb hK hw hown in_X8 ins_X8 (rfl : vwCl[10]? = some (RX8, TX8, 32)) rfl (Nat.le_of_ble_eq_true rfl : 0 < cnt (gn Γ) 8) 6 (by decide) 1360 fl_X8_26 rfl rfl dX8_route_12 ?_
  refine lv_iload_n hx hb dX8_route_15 rfl (lv_at hl 1 rfl) ?_
  refine q_cald hx hb hK hw (k := 145) (o := 0) (fun _ _ _ => rfl) (Nat.le_of_ble_eq_true rfl : 0 < cnt (gn Γ) 145) hf dX8_route_16 (fun hf => ?_)
  refine q_pI hf hw (fun v h => q_rV (As := [.int (gI σ1 142 0 (Int32.toNatClampNeg x1)), .int (gI σ1 145 0 (Int32.toNatClampNeg x1))]) (rest := []) (q := (RX8, TX8, 32)) X hK hw rfl (Nat.le_of_ble_eq_true rfl : 0 < cnt (gn Γ) 8) (rfl : vwCl[10]? = _) (kX8_endColumn h) mvX8_endColumn lk_X8_241 ⟨Nat.le_of_ble_eq_true rfl, Nat.le_of_ble_eq_true rfl⟩ rfl hl.1 rfl (Nat.le_of_ble_eq_true rfl) dX8_route_17 ⟨Nat.le_of_ble_eq_true rfl, Nat.le_of_ble_eq_true rfl⟩) (fun v2 H locs hf hw => ?_)
  refine lv_istore_n (lv' := [(2, .int v2), (0, .ref (ga Γ 8 0)), (1, .int x1)]) hx hb dX8_route_20 rfl hl (by decide) rfl (fun ls hl => ?_)
  refine lv_aload_n hx hb dX8_route_21 rfl (lv_at hl 1 rfl) ?_
  refine lv_aload_n hx hb dX8_route_22 rfl (lv_at hl 1 rfl) ?_
  refine q_get (v := .ref (ga Γ 142 0)) hx hb hK hw hown in_X8 ins_X8 (rfl : vwCl[10]? = some (RX8, TX8, 32)) rfl (Nat.le_of_ble_eq_true rfl : 0 < cnt (gn Γ) 8) 3 (by decide) 1357 fl_X8_16 rfl rfl dX8_route_23 ?_
  refine lv_iload_n hx hb dX8_route_26 rfl (lv_at hl 2 rfl) ?_
  refine q_iald hx hb hK hw (k := 142) (o := 0) (fun _ _ _ => rfl) (Nat.le_of_ble_eq_true rfl : 0 < cnt (gn Γ) 142) hf dX8_route_27 (fun hf => ?_)
  refine lv_aload_n hx hb dX8_route_28 rfl (lv_at hl 1 rfl) ?_
  refine q_get (v := .ref (ga Γ 145 0)) hx hb hK hw hown in_X8 ins_X8 (rfl : vwCl[10]? = some (RX8, TX8, 32)) rfl (Nat.le_of_ble_eq_true rfl : 0 < cnt (gn Γ) 8) 6 (by decide) 1360 fl_X8_26 rfl rfl dX8_route_29 ?_
  refine lv_iload_n hx hb dX8_route_32 rfl (lv_at hl 2 rfl) ?_
  refine q_cald hx hb hK hw (k := 145) (o := 0) (fun _ _ _ => rfl) (Nat.le_of_ble_eq_true rfl : 0 < cnt (gn Γ) 145) hf dX8_route_33 (fun hf => ?_)
  refine q_pI hf hw (fun v h => q_rV (As := [.int (gI σ1 142 0 (Int32.toNatClampNeg x1)), .int (gI σ1 145 0 (Int32.toNatClampNeg x1))]) (rest := []) (q := (RX8, TX8, 32)) X hK hw rfl (Nat.le_of_ble_eq_true rfl : 0 < cnt (gn Γ) 8) (rfl : vwCl[10]? = _) (kX8_endRow h) mvX8_endRow lk_X8_245 ⟨Nat.le_of_ble_eq_true rfl, Nat.le_of_ble_eq_true rfl⟩ rfl hl.1 rfl (Nat.le_of_ble_eq_true rfl) dX8_route_34 ⟨Nat.le_of_ble_eq_true rfl, Nat.le_of_ble_eq_true rfl⟩) (fun v3 H locs hf hw => ?_)
  refine lv_istore_n (lv' := [(3, .int v3), (2, .int v2), (0, .ref (ga Γ 8 0)), (1, .int x1)]) hx hb dX8_route_37 rfl hl (by decide) rfl (fun ls hl => ?_)
  refine lv_aload_n hx hb dX8_route_38 rfl (lv_at hl 2 rfl) ?_
  refine lv_aload_n hx hb dX8_route_39 rfl (lv_at hl 2 rfl) ?_
  refine q_get (v := .ref (ga Γ 143 0)) hx hb hK hw hown in_X8 ins_X8 (rfl : vwCl[10]? = some (RX8, TX8, 32)) rfl (Nat.le_of_ble_eq_true rfl : 0 < cnt (gn Γ) 8) 4 (by decide) 1358 fl_X8_19 rfl rfl dX8_route_40 ?_
  refine lv_iload_n hx hb dX8_route_43 rfl (lv_at hl 3 rfl) ?_
  refine q_iald hx hb hK hw (k := 143) (o := 0) (fun _ _ _ => rfl) (Nat.le_of_ble_eq_true rfl : 0 < cnt (gn Γ) 143) hf dX8_route_44 (fun hf => ?_)
  refine lv_aload_n hx hb dX8_route_45 rfl (lv_at hl 2 rfl) ?_
  refine q_get (v := .ref (ga Γ 146 0)) hx hb hK hw hown in_X8 ins_X8 (rfl : vwCl[10]? = some (RX8, TX8, 32)) rfl (Nat.le_of_ble_eq_true rfl : 0 < cnt (gn Γ) 8) 7 (by decide) 1361 fl_X8_30 rfl rfl dX8_route_46 ?_
  refine lv_iload_n hx hb dX8_route_49 rfl (lv_at hl 3 rfl) ?_
  refine q_cald hx hb hK hw (k := 146) (o := 0) (fun _ _ _ => rfl) (Nat.le_of_ble_eq_true rfl : 0 < cnt (gn Γ) 146) hf dX8_route_50 (fun hf => ?_)
  refine q_pI hf hw (fun v h => q_rV (As := [.int (gI σ1 143 0 (Int32.toNatClampNeg x1)), .int (gI σ1 146 0 (Int32.toNatClampNeg x1))]) (rest := []) (q := (RX8, TX8, 32)) X hK hw rfl (Nat.le_of_ble_eq_true rfl : 0 < cnt (gn Γ) 8) (rfl : vwCl[10]? = _) (kX8_endColumn h) mvX8_endColumn lk_X8_241 ⟨Nat.le_of_ble_eq_true rfl, Nat.le_of_ble_eq_true rfl⟩ rfl hl.1 rfl (Nat.le_of_ble_eq_true rfl) dX8_route_51 ⟨Nat.le_of_ble_eq_true rfl, Nat.le_of_ble_eq_true rfl⟩) (fun v4 H locs hf hw => ?_)
  refine lv_istore (lv' := [(4, .int v4), (3, .int v3), (2, .int v2), (0, .ref (ga Γ 8 0)), (1, .int x1)]) hx hb dX8_route_54 hl (by decide) rfl (fun ls hl => ?_)
  refine lv_aload_n hx hb dX8_route_56 rfl (lv_at hl 3 rfl) ?_
  refine lv_aload_n hx hb dX8_route_57 rfl (lv_at hl 3 rfl) ?_
  refine q_get (v := .ref (ga Γ 143 0)) hx hb hK hw hown in_X8 ins_X8 (rfl : vwCl[10]? = some (RX8, TX8, 32)) rfl (Nat.le_of_ble_eq_true rfl : 0 < cnt (gn Γ) 8) 4 (by decide) 1358 fl_X8_19 rfl rfl dX8_route_58 ?_
  refine lv_iload_n hx hb dX8_route_61 rfl (lv_at hl 4 rfl) ?_
  refine q_iald hx hb hK hw (k := 143) (o := 0) (fun _ _ _ => rfl) (Nat.le_of_ble_eq_true rfl : 0 < cnt (gn Γ) 143) hf dX8_route_62 (fun hf => ?_)
  refine lv_aload_n hx hb dX8_route_63 rfl (lv_at hl 3 rfl) ?_
  refine q_get (v := .ref (ga Γ 146 0)) hx hb hK hw hown in_X8 ins_X8 (rfl : vwCl[10]? = some (RX8, TX8, 32)) rfl (Nat.le_of_ble_eq_true rfl : 0 < cnt (gn Γ) 8) 7 (by decide) 1361 fl_X8_30 rfl rfl dX8_route_64 ?_
  refine lv_iload_n hx hb dX8_route_67 rfl (lv_at hl 4 rfl) ?_
  refine q_cald hx hb hK hw (k := 146) (o := 0) (fun _ _ _ => rfl) (Nat.le_of_ble_eq_true rfl : 0 < cnt (gn Γ) 146) hf dX8_route_68 (fun hf => ?_)
  refine q_pI hf hw (fun v h => q_rV (As := [.int (gI σ1 143 0 (Int32.toNatClampNeg x1)), .int (gI σ1 146 0 (Int32.toNatClampNeg x1))]) (rest := []) (q := (RX8, TX8, 32)) X hK hw rfl (Nat.le_of_ble_eq_true rfl : 0 < cnt (gn Γ) 8) (rfl : vwCl[10]? = _) (kX8_endRow h) mvX8_endRow lk_X8_245 ⟨Nat.le_of_ble_eq_true rfl, Nat.le_of_ble_eq_true rfl⟩ rfl hl.1 rfl (Nat.le_of_ble_eq_true rfl) dX8_route_69 ⟨Nat.le_of_ble_eq_true rfl, Nat.le_of_ble_eq_true rfl⟩) (fun v5 H locs hf hw => ?_)
  refine lv_istore (lv' := [(5, .int v5), (4, .int v4), (3, .int v3), (2, .int v2), (0, .ref (ga Γ 8 0)), (1, .int x1)]) hx hb dX8_route_72 hl (by decide) rfl (fun ls hl => ?_)
  refine lv_aload_n hx hb dX8_route_74 rfl (lv_at hl 4 rfl) ?_
  refine lv_iload_n hx hb dX8_route_75 rfl (lv_at hl 3 rfl) ?_
  refine lv_iload_n hx hb dX8_route_76 rfl (lv_at hl 2 rfl) ?_
  refine q_pI hf hw (fun v h => q_rV (As := [.int v2, .int v3]) (rest := []) (q := (RX8, TX8, 32)) X hK hw rfl (Nat.le_of_ble_eq_true rfl : 0 < cnt (gn Γ) 8) (rfl : vwCl[10]? = _) (kX8_isOpen h) mvX8_isOpen lk_X8_248 ⟨Nat.le_of_ble_eq_true rfl, Nat.le_of_ble_eq_true rfl⟩ rfl hl.1 rfl (Nat.le_of_ble_eq_true rfl) dX8_route_77 ⟨Nat.le_of_ble_eq_true rfl, Nat.le_of_ble_eq_true rfl⟩) (fun v6 H locs hf hw => ?_)
  refine q_if_eq (tgt := 94) hx hb hf dX8_route_80 (by decide) (fun hf => ?_) (fun hf => ?_)
  · refine lv_ldc (v := 1000000000) hx hb hown (kw_at hK.2.2.2.2.1 1751 (by decide +kernel) rfl) dX8_route_94 ?_
    exact q_eiret hf hx hb hr rfl hk hw dX8_route_96 (Nat.le_of_ble_eq_true rfl) (Nat.le_of_ble_eq_true rfl)
  refine lv_aload_n hx hb dX8_route_83 rfl (lv_at hl 4 rfl) ?_
  refine lv_iload hx hb dX8_route_84 (lv_at hl 1 rfl) ?_
  refine lv_iload hx hb dX8_route_86 (lv_at hl 0 rfl) ?_
  refine q_pI hf hw (fun v h => q_rV (As := [.int v4, .int v5]) (rest := []) (q := (RX8, TX8, 32)) X hK hw rfl (Nat.le_of_ble_eq_true rfl : 0 < cnt (gn Γ) 8) (rfl : vwCl[10]? = _) (kX8_isOpen h) mvX8_isOpen lk_X8_248 ⟨Nat.le_of_ble_eq_true rfl, Nat.le_of_ble_eq_true rfl⟩ rfl hl.1 rfl (Nat.le_of_ble_eq_true rfl) dX8_route_88 ⟨Nat.le_of_ble_eq_true rfl, Nat.le_of_ble_eq_true rfl⟩) (fun v7 H locs hf hw => ?_)
  refine q_if_ne (tgt := 97) hx hb hf dX8_route_91 (by decide) (fun hf => ?_) (fun hf => ?_)
  · refine lv_iconst (v := 0) hx hb dX8_route_97 (by decide) ?_
    refine lv_istore (lv' := [(6, .int (0 : Int32)), (5, .int v5), (4, .int v4), (3, .int v3), (2, .int v2), (0, .ref (ga Γ 8 0)), (1, .int x1)]) hx hb dX8_route_98 hl (by decide) rfl (fun ls hl => ?_)
    have L100 : ∀ (K : Int32 → St → Option ((Int32 × St))) (hkk : ∀ (y6 : Int32) (σq : St) (H : Heap) (locs : List Loc) (ls : Array Slot), K y6 σq = some (r, τ) → Sit Γ σq s H locs → lv_has ls 16 [(0, .ref (ga Γ 8 0)), (2, .int v2), (3, .int v3), (4, .int v4), (5, .int v5)] → W p l e { frames := 3, cells := 0, slots := 0, locals := 68 } s m [.ref (ga Γ 8 0), .int x1].toArray below meth c H locs 0 0 (MQ below (Qg Γ (some (.int r)) τ (AA Γ s.heap.size)) [.ref (ga Γ 8 0), .int x1].toArray s 0 0 (AA Γ s.heap.size)) (F0 m 133 ls [])) (n : Nat) (v8 : Int32) (σ9 : St) (H : Heap) (locs : List Loc) (ls : Array Slot), fX8_route_L100 K N n v8 σ9 = some (r, τ) → Sit Γ σ9 s H locs → lv_has ls 16 [(0, .ref (ga Γ 8 0)), (2, .int v2), (3, .int v3), (4, .int v4), (5, .int v5), (6, .int v8)] → W p l e { frames := 3, cells := 0, slots := 0, locals := 68 } s m [.ref (ga Γ 8 0), .int x1].toArray below meth c H locs 0 0 (MQ below (Qg Γ (some (.int r)) τ (AA Γ s.heap.size)) [.ref (ga Γ 8 0), .int x1].toArray s 0 0 (AA Γ s.heap.size)) (F0 m 100 ls []) := by
      intro K hkk n
      induction n with
      | zero =>
        intro _ _ _ _ _ hf
        exact nomatch hf
      | succ n ih =>
        intro v8 σ9 H locs ls hf hw hl
        refine lv_iload hx hb dX8_route_100 (lv_at hl 5 rfl) ?_
        refine lv_aload_n hx hb dX8_route_102 rfl (lv_at hl 0 rfl) ?_
        refine q_get (v := .ref (ga Γ 169 0)) hx hb hK hw hown in_X8 ins_X8 (rfl : vwCl[10]? = some (RX8, TX8, 32)) rfl (Nat.le_of_ble_eq_true rfl : 0 < cnt (gn Γ) 8) 28 (by decide) 1382 fl_X8_85 rfl rfl dX8_route_103 ?_
        refine q_alenI (v := (1536 : Int32)) hx hb hK hw (k := 169) (o := 0) (fun _ _ _ => rfl) (Nat.le_of_ble_eq_true rfl : 0 < cnt (gn Γ) 169) rfl dX8_route_106 ?_
        refine q_ic_ge (tgt := 133) hx hb hf dX8_route_107 (by decide) (fun hf => ?_) (fun hf => ?_)
        · exact hkk _ _ _ _ _ hf hw (lv_sub hl [0, 1, 2, 3, 4] rfl)
        refine lv_aload_n hx hb dX8_route_110 rfl (lv_at hl 0 rfl) ?_
        refine q_get (v := .ref (ga Γ 169 0)) hx hb hK hw hown in_X8 ins_X8 (rfl : vwCl[10]? = some (RX8, TX8, 32)) rfl (Nat.le_of_ble_eq_true rfl : 0 < cnt (gn Γ) 8) 28 (by decide) 1382 fl_X8_85 rfl rfl dX8_route_111 ?_
        refine lv_iload hx hb dX8_route_114 (lv_at hl 5 rfl) ?_
        refine lv_ldc (v := 1000000000) hx hb hown (kw_at hK.2.2.2.2.1 1751 (by decide +kernel) rfl) dX8_route_116 ?_
        refine q_iast hx hb hK hw (k := 169) (o := 0) (fun _ _ _ => rfl) (Nat.le_of_ble_eq_true rfl : 0 < cnt (gn Γ) 169) hf dX8_route_118 (fun σ10 H locs hf hw => ?_)
        refine lv_aload_n hx hb dX8_route_119 rfl (lv_at hl 0 rfl) ?_
        refine q_get (v := .ref (ga Γ 172 0)) hx hb hK hw hown in_X8 ins_X8 (rfl : vwCl[10]? = some (RX8, TX8, 32)) rfl (Nat.le_of_ble_eq_true rfl : 0 < cnt (gn Γ) 8) 31 (by decide) 1385 fl_X8_94 rfl rfl dX8_route_120 ?_
        refine lv_iload hx hb dX8_route_123 (lv_at hl 5 rfl) ?_
        refine lv_iconst (v := 0) hx hb dX8_route_125 (by decide) ?_
        refine q_zast hx hb hK hw (k := 172) (o := 0) (fun _ _ _ => rfl) (Nat.le_of_ble_eq_true rfl : 0 < cnt (gn Γ) 172) hf dX8_route_126 (fun σ11 H locs hf hw => ?_)
        refine q_iinc (lv1 := [(0, .ref (ga Γ 8 0)), (2, .int v2), (3, .int v3), (4, .int v4), (5, .int v5)]) (d := 1) hx hb hf dX8_route_127 hl (k := 5) rfl (by decide) (by decide) rfl (fun v12 ls hf hl => ?_)
        refine lv_goto (tgt := 100) hx hb dX8_route_130 (by decide) ?_
        exact ih _ _ _ _ _ hf hw (lv_sub hl [1, 2, 3, 4, 5, 0] rfl)
    refine L100 _ (fun _ σ13 H locs ls hf hw hl => ?_) N (0 : Int32) σ1 _ _ _ hf hw (lv_sub hl [5, 4, 3, 2, 1, 0] rfl)
    refine lv_iconst (v := 0) hx hb dX8_route_133 (by decide) ?_
    refine lv_istore (lv' := [(6, .int (0 : Int32)), (0, .ref (ga Γ 8 0)), (2, .int v2), (3, .int v3), (4, .int v4), (5, .int v5)]) hx hb dX8_route_134 hl (by decide) rfl (fun ls hl => ?_)
    refine lv_iconst (v := 0) hx hb dX8_route_136 (by decide) ?_
    refine lv_istore (lv' := [(7, .int (0 : Int32)), (6, .int (0 : Int32)), (0, .ref (ga Γ 8 0)), (2, .int v2), (3, .int v3), (4, .int v4), (5, .int v5)]) hx hb dX8_route_137 hl (by decide) rfl (fun ls hl => ?_)
    refine lv_iconst (v := 0) hx hb dX8_route_139 (by decide) ?_
    refine lv_istore (lv' := [(8, .int (0 : Int32)), (7, .int (0 : Int32)), (6, .int (0 : Int32)), (0, .ref (ga Γ 8 0)), (2, .int v2), (3, .int v3), (4, .int v4), (5, .int v5)]) hx hb dX8_route_140 hl (by decide) rfl (fun ls hl => ?_)
    have L142 : ∀ (K : Int32 → Int32 → St → Option ((Int32 × St))) (hkk : ∀ (y7 : Int32) (y8 : Int32) (σq : St) (H : Heap) (locs : List Loc) (ls : Array Slot), K y7 y8 σq = some (r, τ) → Sit Γ σq s H locs → lv_has ls 16 [(0, .ref (ga Γ 8 0)), (4, .int v4), (5, .int v5), (6, .int (0 : Int32)), (7, .int y7)] → W p l e { frames := 3, cells := 0, slots := 0, locals := 68 } s m [.ref (ga Γ 8 0), .int x1].toArray below meth c H locs 0 0 (MQ below (Qg Γ (some (.int r)) τ (AA Γ s.heap.size)) [.ref (ga Γ 8 0), .int x1].toArray s 0 0 (AA Γ s.heap.size)) (F0 m 195 ls [])) (n : Nat) (v14 : Int32) (v15 : Int32) (σ16 : St) (H : Heap) (locs : List Loc) (ls : Array Slot), fX8_route_L142 K N v2 v3 n v14 v15 σ16 = some (r, τ) → Sit Γ σ16 s H locs → lv_has ls 16 [(0, .ref (ga Γ 8 0)), (2, .int v2), (3, .int v3), (4, .int v4), (5, .int v5), (6, .int (0 : Int32)), (7, .int v14), (8, .int v15)] → W p l e { frames := 3, cells := 0, slots := 0, locals := 68 } s m [.ref (ga Γ 8 0), .int x1].toArray below meth c H locs 0 0 (MQ below (Qg Γ (some (.int r)) τ (AA Γ s.heap.size)) [.ref (ga Γ 8 0), .int x1].toArray s 0 0 (AA Γ s.heap.size)) (F0 m 142 ls []) := by
      intro K hkk n
      induction n with
      | zero =>
        intro _ _ _ _ _ _ hf
        exact nomatch hf
      | succ n ih =>
        intro v14 v15 σ16 H locs ls hf hw hl
        refine lv_iload hx hb dX8_route_142 (lv_at hl 7 rfl) ?_
        refine lv_iconst (v := 4) hx hb dX8_route_144 (by decide) ?_
        refine q_ic_ge (tgt := 195) hx hb hf dX8_route_145 (by decide) (fun hf => ?_) (fun hf => ?_)
        · exact hkk _ _ _ _ _ _ hf hw (lv_sub hl [0, 3, 4, 5, 6] rfl)
        refine lv_iconst (v := 4) hx hb dX8_route_148 (by decide) ?_
        refine lv_bipush (v := 24) hx hb dX8_route_149 (by decide) ?_
        refine lv_iload_n hx hb dX8_route_151 rfl (lv_at hl 2 rfl) ?_
        refine lv_imul hx hb dX8_route_152 ?_
        refine lv_iload_n hx hb dX8_route_153 rfl (lv_at hl 1 rfl) ?_
        refine lv_iadd hx hb dX8_route_154 ?_
        refine lv_imul hx hb dX8_route_155 ?_
        refine lv_iload hx hb dX8_route_156 (lv_at hl 7 rfl) ?_
        refine lv_iadd hx hb dX8_route_158 ?_
        refine q_istore (lv1 := [(0, .ref (ga Γ 8 0)), (2, .int v2), (3, .int v3), (4, .int v4), (5, .int v5), (6, .int (0 : Int32)), (7, .int v14), (8, .int v15)]) hx hb hf dX8_route_159 hl (by decide) rfl (fun v17 ls hf hl => ?_)
        refine lv_aload_n hx hb dX8_route_161 rfl (lv_at hl 1 rfl) ?_
        refine q_get (v := .ref (ga Γ 169 0)) hx hb hK hw hown in_X8 ins_X8 (rfl : vwCl[10]? = some (RX8, TX8, 32)) rfl (Nat.le_of_ble_eq_true rfl : 0 < cnt (gn Γ) 8) 28 (by decide) 1382 fl_X8_85 rfl rfl dX8_route_162 ?_
        refine lv_iload hx hb dX8_route_165 (lv_at hl 0 rfl) ?_
        refine lv_iconst (v := 1) hx hb dX8_route_167 (by decide) ?_
        refine q_iast hx hb hK hw (k := 169) (o := 0) (fun _ _ _ => rfl) (Nat.le_of_ble_eq_true rfl : 0 < cnt (gn Γ) 169) hf dX8_route_168 (fun σ18 H locs hf hw => ?_)
        refine lv_aload_n hx hb dX8_route_169 rfl (lv_at hl 1 rfl) ?_
        refine q_get (v := .ref (ga Γ 170 0)) hx hb hK hw hown in_X8 ins_X8 (rfl : vwCl[10]? = some (RX8, TX8, 32)) rfl (Nat.le_of_ble_eq_true rfl : 0 < cnt (gn Γ) 8) 29 (by decide) 1383 fl_X8_88 rfl rfl dX8_route_170 ?_
        refine lv_iload hx hb dX8_route_173 (lv_at hl 7 rfl) ?_
        refine lv_iload hx hb dX8_route_175 (lv_at hl 0 rfl) ?_
        refine q_iast hx hb hK hw (k := 170) (o := 0) (fun _ _ _ => rfl) (Nat.le_of_ble_eq_true rfl : 0 < cnt (gn Γ) 170) hf dX8_route_177 (fun σ19 H locs hf hw => ?_)
        refine lv_aload_n hx hb dX8_route_178 rfl (lv_at hl 1 rfl) ?_
        refine q_get (v := .ref (ga Γ 172 0)) hx hb hK hw hown in_X8 ins_X8 (rfl : vwCl[10]? = some (RX8, TX8, 32)) rfl (Nat.le_of_ble_eq_true rfl : 0 < cnt (gn Γ) 8) 31 (by decide) 1385 fl_X8_94 rfl rfl dX8_route_179 ?_
        refine lv_iload hx hb dX8_route_182 (lv_at hl 0 rfl) ?_
        refine lv_iconst (v := 1) hx hb dX8_route_184 (by decide) ?_
        refine q_zast hx hb hK hw (k := 172) (o := 0) (fun _ _ _ => rfl) (Nat.le_of_ble_eq_true rfl : 0 < cnt (gn Γ) 172) hf dX8_route_185 (fun σ20 H locs hf hw => ?_)
        refine q_iinc (lv1 := [(9, .int v17), (0, .ref (ga Γ 8 0)), (2, .int v2), (3, .int v3), (4, .int v4), (5, .int v5), (6, .int (0 : Int32)), (8, .int v15)]) (d := 1) hx hb hf dX8_route_186 hl (k := 7) rfl (by decide) (by decide) rfl (fun v21 ls hf hl => ?_)
        refine q_iinc (lv1 := [(7, .int v21), (9, .int v17), (0, .ref (ga Γ 8 0)), (2, .int v2), (3, .int v3), (4, .int v4), (5, .int v5), (6, .int (0 : Int32))]) (d := 1) hx hb hf dX8_route_189 hl (k := 8) rfl (by decide) (by decide) rfl (fun v22 ls hf hl => ?_)
        refine lv_goto (tgt := 142) hx hb dX8_route_192 (by decide) ?_
        exact ih _ _ _ _ _ _ hf hw (lv_sub hl [3, 4, 5, 6, 7, 8, 1, 0] rfl)
    refine L142 _ (fun v23 _ σ24 H locs ls hf hw hl => ?_) N (0 : Int32) (0 : Int32) σ13 _ _ _ hf hw (lv_sub hl [3, 4, 5, 6, 7, 2, 1, 0] rfl)
    have L195 : ∀ (K : Int32 → Int32 → St → Option ((Int32 × St))) (hkk : ∀ (y6 : Int32) (y7 : Int32) (σq : St) (H : Heap) (locs : List Loc) (ls : Array Slot), K y6 y7 σq = some (r, τ) → Sit Γ σq s H locs → lv_has ls 16 [(0, .ref (ga Γ 8 0)), (4, .int v4), (5, .int v5)] → W p l e { frames := 3, cells := 0, slots := 0, locals := 68 } s m [.ref (ga Γ 8 0), .int x1].toArray below meth c H locs 0 0 (MQ below (Qg Γ (some (.int r)) τ (AA Γ s.heap.size)) [.ref (ga Γ 8 0), .int x1].toArray s 0 0 (AA Γ s.heap.size)) (F0 m 411 ls [])) (n : Nat) (v25 : Int32) (v26 : Int32) (σ27 : St) (H : Heap) (locs : List Loc) (ls : Array Slot), fX8_route_L195 K N n v25 v26 σ27 = some (r, τ) → Sit Γ σ27 s H locs → lv_has ls 16 [(0, .ref (ga Γ 8 0)), (4, .int v4), (5, .int v5), (6, .int v25), (7, .int v26)] → W p l e { frames := 3, cells := 0, slots := 0, locals := 68 } s m [.ref (ga Γ 8 0), .int x1].toArray below meth c H locs 0 0 (MQ below (Qg Γ (some (.int r)) τ (AA Γ s.heap.size)) [.ref (ga Γ 8 0), .int x1].toArray s 0 0 (AA Γ s.heap.size)) (F0 m 195 ls []) := by
      intro K hkk n
      induction n with
      | zero =>
        intro _ _ _ _ _ _ hf
        exact nomatch hf
      | succ n ih =>
        intro v25 v26 σ27 H locs ls hf hw hl
        refine lv_iload hx hb dX8_route_195 (lv_at hl 4 rfl) ?_
        refine q_if_le (tgt := 411) hx hb hf dX8_route_197 (by decide) (fun hf => ?_) (fun hf => ?_)
        · exact hkk _ _ _ _ _ _ hf hw (lv_sub hl [0, 1, 2] rfl)
        refine lv_aload_n hx hb dX8_route_200 rfl (lv_at hl 0 rfl) ?_
        refine q_get (v := .ref (ga Γ 170 0)) hx hb hK hw hown in_X8 ins_X8 (rfl : vwCl[10]? = some (RX8, TX8, 32)) rfl (Nat.le_of_ble_eq_true rfl : 0 < cnt (gn Γ) 8) 29 (by decide) 1383 fl_X8_88 rfl rfl dX8_route_201 ?_
        refine lv_iload hx hb dX8_route_204 (lv_at hl 3 rfl) ?_
        refine q_iald hx hb hK hw (k := 170) (o := 0) (fun _ _ _ => rfl) (Nat.le_of_ble_eq_true rfl : 0 < cnt (gn Γ) 170) hf dX8_route_206 (fun hf => ?_)
        refine q_istore (lv1 := [(0, .ref (ga Γ 8 0)), (4, .int v4), (5, .int v5), (6, .int v25), (7, .int v26)]) hx hb hf dX8_route_207 hl (by decide) rfl (fun v28 ls hf hl => ?_)
        refine lv_iload hx hb dX8_route_209 (lv_at hl 4 rfl) ?_
        refine lv_iconst (v := 1) hx hb dX8_route_211 (by decide) ?_
        refine lv_iadd hx hb dX8_route_212 ?_
        refine lv_aload_n hx hb dX8_route_213 rfl (lv_at hl 1 rfl) ?_
        refine q_get (v := .ref (ga Γ 170 0)) hx hb hK hw hown in_X8 ins_X8 (rfl : vwCl[10]? = some (RX8, TX8, 32)) rfl (Nat.le_of_ble_eq_true rfl : 0 < cnt (gn Γ) 8) 29 (by decide) 1383 fl_X8_88 rfl rfl dX8_route_214 ?_
        refine q_alenI (v := (1536 : Int32)) hx hb hK hw (k := 170) (o := 0) (fun _ _ _ => rfl) (Nat.le_of_ble_eq_true rfl : 0 < cnt (gn Γ) 170) rfl dX8_route_217 ?_
        refine lv_irem hx hb dX8_route_218 (by decide) ?_
        refine q_istore (lv1 := [(8, .int v28), (0, .ref (ga Γ 8 0)), (4, .int v4), (5, .int v5), (7, .int v26)]) hx hb hf dX8_route_219 hl (by decide) rfl (fun v29 ls hf hl => ?_)
        refine q_iinc (lv1 := [(6, .int v29), (8, .int v28), (0, .ref (ga Γ 8 0)), (4, .int v4), (5, .int v5)]) (d := (-1)) hx hb hf dX8_route_221 hl (k := 5) rfl (by decide) (by decide) rfl (fun v30 ls hf hl => ?_)
        refine lv_aload_n hx hb dX8_route_224 rfl (lv_at hl 3 rfl) ?_
        refine q_get (v := .ref (ga Γ 172 0)) hx hb hK hw hown in_X8 ins_X8 (rfl : vwCl[10]? = some (RX8, TX8, 32)) rfl (Nat.le_of_ble_eq_true rfl : 0 < cnt (gn Γ) 8) 31 (by decide) 1385 fl_X8_94 rfl rfl dX8_route_225 ?_
        refine lv_iload hx hb dX8_route_228 (lv_at hl 2 rfl) ?_
        refine lv_iconst (v := 0) hx hb dX8_route_230 (by decide) ?_
        refine q_zast hx hb hK hw (k := 172) (o := 0) (fun _ _ _ => rfl) (Nat.le_of_ble_eq_true rfl : 0 < cnt (gn Γ) 172) hf dX8_route_231 (fun σ31 H locs hf hw => ?_)
        refine lv_iload hx hb dX8_route_232 (lv_at hl 2 rfl) ?_
        refine lv_iconst (v := 4) hx hb dX8_route_234 (by decide) ?_
        refine lv_idiv hx hb dX8_route_235 (by decide) ?_
        refine lv_bipush (v := 24) hx hb dX8_route_236 (by decide) ?_
        refine lv_irem hx hb dX8_route_238 (by decide) ?_
        refine q_istore (lv1 := [(7, .int v30), (6, .int v29), (8, .int v28), (0, .ref (ga Γ 8 0)), (4, .int v4), (5, .int v5)]) hx hb hf dX8_route_239 hl (by decide) rfl (fun v32 ls hf hl => ?_)
        refine lv_iload hx hb dX8_route_241 (lv_at hl 3 rfl) ?_
        refine lv_iconst (v := 4) hx hb dX8_route_243 (by decide) ?_
        refine lv_idiv hx hb dX8_route_244 (by decide) ?_
        refine lv_bipush (v := 24) hx hb dX8_route_245 (by decide) ?_
        refine lv_idiv hx hb dX8_route_247 (by decide) ?_
        refine q_istore (lv1 := [(9, .int v32), (7, .int v30), (6, .int v29), (8, .int v28), (0, .ref (ga Γ 8 0)), (4, .int v4), (5, .int v5)]) hx hb hf dX8_route_248 hl (by decide) rfl (fun v33 ls hf hl => ?_)
        refine lv_iconst (v := 0) hx hb dX8_route_250 (by decide) ?_
        refine lv_istore (lv' := [(11, .int (0 : Int32)), (10, .int v33), (9, .int v32), (7, .int v30), (6, .int v29), (8, .int v28), (0, .ref (ga Γ 8 0)), (4, .int v4), (5, .int v5)]) hx hb dX8_route_251 hl (by decide) rfl (fun ls hl => ?_)
        have L253 : ∀ (K : Int32 → Int32 → St → Option ((Int32 × St))) (hkk : ∀ (y7 : Int32) (y11 : Int32) (σq : St) (H : Heap) (locs : List Loc) (ls : Array Slot), K y7 y11 σq = some (r, τ) → Sit Γ σq s H locs → lv_has ls 16 [(0, .ref (ga Γ 8 0)), (4, .int v4), (5, .int v5), (6, .int v29), (7, .int y7)] → W p l e { frames := 3, cells := 0, slots := 0, locals := 68 } s m [.ref (ga Γ 8 0), .int x1].toArray below meth c H locs 0 0 (MQ below (Qg Γ (some (.int r)) τ (AA Γ s.heap.size)) [.ref (ga Γ 8 0), .int x1].toArray s 0 0 (AA Γ s.heap.size)) (F0 m 408 ls [])) (n : Nat) (v34 : Int32) (v35 : Int32) (σ36 : St) (H : Heap) (locs : List Loc) (ls : Array Slot), fX8_route_L253 K N v28 v29 v32 v33 n v34 v35 σ36 = some (r, τ) → Sit Γ σ36 s H locs → lv_has ls 16 [(0, .ref (ga Γ 8 0)), (4, .int v4), (5, .int v5), (6, .int v29), (7, .int v34), (8, .int v28), (9, .int v32), (10, .int v33), (11, .int v35)] → W p l e { frames := 3, cells := 0, slots := 0, locals := 68 } s m [.ref (ga Γ 8 0), .int x1].toArray below meth c H locs 0 0 (MQ below (Qg Γ (some (.int r)) τ (AA Γ s.heap.size)) [.ref (ga Γ 8 0), .int x1].toArray s 0 0 (AA Γ s.heap.size)) (F0 m 253 ls []) := by
          intro K hkk n
          induction n with
          | zero =>
            intro _ _ _ _ _ _ hf
            exact nomatch hf
          | succ n ih =>
            intro v34 v35 σ36 H locs ls hf hw hl
            refine lv_iload hx hb dX8_route_253 (lv_at hl 8 rfl) ?_
            refine lv_iconst (v := 4) hx hb dX8_route_255 (by decide) ?_
            refine q_ic_ge (tgt := 408) hx hb hf dX8_route_256 (by decide) (fun hf => ?_) (fun hf => ?_)
            · exact hkk _ _ _ _ _ _ hf hw (lv_sub hl [0, 1, 2, 3, 4] rfl)
            refine lv_iload hx hb dX8_route_259 (lv_at hl 6 rfl) ?_
            refine lv_iload hx hb dX8_route_261 (lv_at hl 8 rfl) ?_
            refine q_pI hf hw (fun v h => q_rS (As := [.int v35]) (rest := [.int v32]) X hK hw (kX8_stepOver h) msX8_stepOver lk_X8_252 ⟨Nat.le_of_ble_eq_true rfl, Nat.le_of_ble_eq_true rfl⟩ rfl hl.1 rfl (Nat.le_of_ble_eq_true rfl) dX8_route_263 ⟨Nat.le_of_ble_eq_true rfl, Nat.le_of_ble_eq_true rfl⟩) (fun v37 H locs hf hw => ?_)
            refine lv_iadd hx hb dX8_route_266 ?_
            refine q_istore (lv1 := [(0, .ref (ga Γ 8 0)), (4, .int v4), (5, .int v5), (6, .int v29), (7, .int v34), (8, .int v28), (9, .int v32), (10, .int v33), (11, .int v35)]) hx hb hf dX8_route_267 hl (by decide) rfl (fun v38 ls hf hl => ?_)
            refine lv_iload hx hb dX8_route_269 (lv_at hl 8 rfl) ?_
            refine lv_iload hx hb dX8_route_271 (lv_at hl 9 rfl) ?_
            refine q_pI hf hw (fun v h => q_rS (As := [.int v35]) (rest := [.int v33]) X hK hw (kX8_stepDown h) msX8_stepDown lk_X8_255 ⟨Nat.le_of_ble_eq_true rfl, Nat.le_of_ble_eq_true rfl⟩ rfl hl.1 rfl (Nat.le_of_ble_eq_true rfl) dX8_route_273 ⟨Nat.le_of_ble_eq_true rfl, Nat.le_of_ble_eq_true rfl⟩) (fun v39 H locs hf hw => ?_)
            refine lv_iadd hx hb dX8_route_276 ?_
            refine q_istore (lv1 := [(12, .int v38), (0, .ref (ga Γ 8 0)), (4, .int v4), (5, .int v5), (6, .int v29), (7, .int v34), (8, .int v28), (9, .int v32), (10, .int v33), (11, .int v35)]) hx hb hf dX8_route_277 hl (by decide) rfl (fun v40 ls hf hl => ?_)
            refine lv_aload_n hx hb dX8_route_279 rfl (lv_at hl 2 rfl) ?_
            refine lv_iload hx hb dX8_route_280 (lv_at hl 1 rfl) ?_
            refine lv_iload hx hb dX8_route_282 (lv_at hl 0 rfl) ?_
            refine q_pI hf hw (fun v h => q_rV (As := [.int v38, .int v40]) (rest := []) (q := (RX8, TX8, 32)) X hK hw rfl (Nat.le_of_ble_eq_true rfl : 0 < cnt (gn Γ) 8) (rfl : vwCl[10]? = _) (kX8_isOpen h) mvX8_isOpen lk_X8_248 ⟨Nat.le_of_ble_eq_true rfl, Nat.le_of_ble_eq_true rfl⟩ rfl hl.1 rfl (Nat.le_of_ble_eq_true rfl) dX8_route_284 ⟨Nat.le_of_ble_eq_true rfl, Nat.le_of_ble_eq_true rfl⟩) (fun v41 H locs hf hw => ?_)
            refine q_if_ne (tgt := 293) hx hb hf dX8_route_287 (by decide) (fun hf => ?_) (fun hf => ?_)
            · refine lv_iconst (v := 4) hx hb dX8_route_293 (by decide) ?_
              refine lv_bipush (v := 24) hx hb dX8_route_294 (by decide) ?_
              refine lv_iload hx hb dX8_route_296 (lv_at hl 0 rfl) ?_
              refine lv_imul hx hb dX8_route_298 ?_
              refine lv_iload hx hb dX8_route_299 (lv_at hl 1 rfl) ?_
              refine lv_iadd hx hb dX8_route_301 ?_
              refine lv_imul hx hb dX8_route_302 ?_
              refine lv_iload hx hb dX8_route_303 (lv_at hl 10 rfl) ?_
              refine lv_iadd hx hb dX8_route_305 ?_
              refine q_istore (lv1 := [(13, .int v40), (12, .int v38), (0, .ref (ga Γ 8 0)), (4, .int v4), (5, .int v5), (6, .int v29), (7, .int v34), (8, .int v28), (9, .int v32), (10, .int v33), (11, .int v35)]) hx hb hf dX8_route_306 hl (by decide) rfl (fun v42 ls hf hl => ?_)
              refine lv_aload_n hx hb dX8_route_308 rfl (lv_at hl 3 rfl) ?_
              refine q_get (v := .ref (ga Γ 169 0)) hx hb hK hw hown in_X8 ins_X8 (rfl : vwCl[10]? = some (RX8, TX8, 32)) rfl (Nat.le_of_ble_eq_true rfl : 0 < cnt (gn Γ) 8) 28 (by decide) 1382 fl_X8_85 rfl rfl dX8_route_309 ?_
              refine lv_iload hx hb dX8_route_312 (lv_at hl 8 rfl) ?_
              refine q_iald hx hb hK hw (k := 169) (o := 0) (fun _ _ _ => rfl) (Nat.le_of_ble_eq_true rfl : 0 < cnt (gn Γ) 169) hf dX8_route_314 (fun hf => ?_)
              refine lv_iconst (v := 1) hx hb dX8_route_315 (by decide) ?_
              refine lv_iadd hx hb dX8_route_316 ?_
              refine lv_iload hx hb dX8_route_317 (lv_at hl 11 rfl) ?_
              refine lv_iload hx hb dX8_route_319 (lv_at hl 8 rfl) ?_
              refine lv_iconst (v := 4) hx hb dX8_route_321 (by decide) ?_
              refine lv_irem hx hb dX8_route_322 (by decide) ?_
              refine q_ic_ne (tgt := 330) hx hb hf dX8_route_323 (by decide) (fun hf => ?_) (fun hf => ?_)
              · refine lv_sipush (v := 1000) hx hb dX8_route_330 (by decide) ?_
                refine lv_iadd hx hb dX8_route_333 ?_
                refine q_istore (lv1 := [(14, .int v42), (13, .int v40), (12, .int v38), (0, .ref (ga Γ 8 0)), (4, .int v4), (5, .int v5), (6, .int v29), (7, .int v34), (8, .int v28), (9, .int v32), (10, .int v33), (11, .int v35)]) hx hb hf dX8_route_334 hl (by decide) rfl (fun v43 ls hf hl => ?_)
                refine lv_iload hx hb dX8_route_336 (lv_at hl 0 rfl) ?_
                refine lv_aload_n hx hb dX8_route_338 rfl (lv_at hl 4 rfl) ?_
                refine q_get (v := .ref (ga Γ 169 0)) hx hb hK hw hown in_X8 ins_X8 (rfl : vwCl[10]? = some (RX8, TX8, 32)) rfl (Nat.le_of_ble_eq_true rfl : 0 < cnt (gn Γ) 8) 28 (by decide) 1382 fl_X8_85 rfl rfl dX8_route_339 ?_
                refine lv_iload hx hb dX8_route_342 (lv_at hl 1 rfl) ?_
                refine q_iald hx hb hK hw (k := 169) (o := 0) (fun _ _ _ => rfl) (Nat.le_of_ble_eq_true rfl : 0 < cnt (gn Γ) 169) hf dX8_route_344 (fun hf => ?_)
                refine q_ic_lt (tgt := 351) hx hb hf dX8_route_345 (by decide) (fun hf => ?_) (fun hf => ?_)
                · refine lv_aload_n hx hb dX8_route_351 rfl (lv_at hl 4 rfl) ?_
                  refine q_get (v := .ref (ga Γ 169 0)) hx hb hK hw hown in_X8 ins_X8 (rfl : vwCl[10]? = some (RX8, TX8, 32)) rfl (Nat.le_of_ble_eq_true rfl : 0 < cnt (gn Γ) 8) 28 (by decide) 1382 fl_X8_85 rfl rfl dX8_route_352 ?_
                  refine lv_iload hx hb dX8_route_355 (lv_at hl 1 rfl) ?_
                  refine lv_iload hx hb dX8_route_357 (lv_at hl 0 rfl) ?_
                  refine q_iast hx hb hK hw (k := 169) (o := 0) (fun _ _ _ => rfl) (Nat.le_of_ble_eq_true rfl : 0 < cnt (gn Γ) 169) hf dX8_route_359 (fun σ44 H locs hf hw => ?_)
                  refine lv_aload_n hx hb dX8_route_360 rfl (lv_at hl 4 rfl) ?_
                  refine q_get (v := .ref (ga Γ 172 0)) hx hb hK hw hown in_X8 ins_X8 (rfl : vwCl[10]? = some (RX8, TX8, 32)) rfl (Nat.le_of_ble_eq_true rfl : 0 < cnt (gn Γ) 8) 31 (by decide) 1385 fl_X8_94 rfl rfl dX8_route_361 ?_
                  refine lv_iload hx hb dX8_route_364 (lv_at hl 1 rfl) ?_
                  refine q_zald hx hb hK hw (k := 172) (o := 0) (fun _ _ _ => rfl) (Nat.le_of_ble_eq_true rfl : 0 < cnt (gn Γ) 172) hf dX8_route_366 (fun hf => ?_)
                  refine q_if_eq (tgt := 373) hx hb hf dX8_route_367 (by decide) (fun hf => ?_) (fun hf => ?_)
                  · refine lv_aload_n hx hb dX8_route_373 rfl (lv_at hl 4 rfl) ?_
                    refine q_get (v := .ref (ga Γ 170 0)) hx hb hK hw hown in_X8 ins_X8 (rfl : vwCl[10]? = some (RX8, TX8, 32)) rfl (Nat.le_of_ble_eq_true rfl : 0 < cnt (gn Γ) 8) 29 (by decide) 1383 fl_X8_88 rfl rfl dX8_route_374 ?_
                    refine lv_iload hx hb dX8_route_377 (lv_at hl 7 rfl) ?_
                    refine lv_iload hx hb dX8_route_379 (lv_at hl 8 rfl) ?_
                    refine lv_iadd hx hb dX8_route_381 ?_
                    refine lv_aload_n hx hb dX8_route_382 rfl (lv_at hl 4 rfl) ?_
                    refine q_get (v := .ref (ga Γ 170 0)) hx hb hK hw hown in_X8 ins_X8 (rfl : vwCl[10]? = some (RX8, TX8, 32)) rfl (Nat.le_of_ble_eq_true rfl : 0 < cnt (gn Γ) 8) 29 (by decide) 1383 fl_X8_88 rfl rfl dX8_route_383 ?_
                    refine q_alenI (v := (1536 : Int32)) hx hb hK hw (k := 170) (o := 0) (fun _ _ _ => rfl) (Nat.le_of_ble_eq_true rfl : 0 < cnt (gn Γ) 170) rfl dX8_route_386 ?_
                    refine lv_irem hx hb dX8_route_387 (by decide) ?_
                    refine lv_iload hx hb dX8_route_388 (lv_at hl 1 rfl) ?_
                    refine q_iast hx hb hK hw (k := 170) (o := 0) (fun _ _ _ => rfl) (Nat.le_of_ble_eq_true rfl : 0 < cnt (gn Γ) 170) hf dX8_route_390 (fun σ45 H locs hf hw => ?_)
                    refine lv_aload_n hx hb dX8_route_391 rfl (lv_at hl 4 rfl) ?_
                    refine q_get (v := .ref (ga Γ 172 0)) hx hb hK hw hown in_X8 ins_X8 (rfl : vwCl[10]? = some (RX8, TX8, 32)) rfl (Nat.le_of_ble_eq_true rfl : 0 < cnt (gn Γ) 8) 31 (by decide) 1385 fl_X8_94 rfl rfl dX8_route_392 ?_
                    refine lv_iload hx hb dX8_route_395 (lv_at hl 1 rfl) ?_
                    refine lv_iconst (v := 1) hx hb dX8_route_397 (by decide) ?_
                    refine q_zast hx hb hK hw (k := 172) (o := 0) (fun _ _ _ => rfl) (Nat.le_of_ble_eq_true rfl : 0 < cnt (gn Γ) 172) hf dX8_route_398 (fun σ46 H locs hf hw => ?_)
                    refine q_iinc (lv1 := [(15, .int v43), (14, .int v42), (13, .int v40), (12, .int v38), (0, .ref (ga Γ 8 0)), (4, .int v4), (5, .int v5), (6, .int v29), (8, .int v28), (9, .int v32), (10, .int v33), (11, .int v35)]) (d := 1) hx hb hf dX8_route_399 hl (k := 8) rfl (by decide) (by decide) rfl (fun v47 ls hf hl => ?_)
                    refine q_iinc (lv1 := [(7, .int v47), (15, .int v43), (14, .int v42), (13, .int v40), (12, .int v38), (0, .ref (ga Γ 8 0)), (4, .int v4), (5, .int v5), (6, .int v29), (8, .int v28), (9, .int v32), (10, .int v33)]) (d := 1) hx hb hf dX8_route_402 hl (k := 12) rfl (by decide) (by decide) rfl (fun v48 ls hf hl => ?_)
                    refine lv_goto (tgt := 253) hx hb dX8_route_405 (by decide) ?_
                    exact ih _ _ _ _ _ _ hf hw (lv_sub hl [6, 7, 8, 9, 1, 10, 11, 12, 0] rfl)
                  refine lv_goto (tgt := 402) hx hb dX8_route_370 (by decide) ?_
                  refine q_iinc (lv1 := [(15, .int v43), (14, .int v42), (13, .int v40), (12, .int v38), (0, .ref (ga Γ 8 0)), (4, .int v4), (5, .int v5), (6, .int v29), (7, .int v34), (8, .int v28), (9, .int v32), (10, .int v33)]) (d := 1) hx hb hf dX8_route_402 hl (k := 12) rfl (by decide) (by decide) rfl (fun v49 ls hf hl => ?_)
                  refine lv_goto (tgt := 253) hx hb dX8_route_405 (by decide) ?_
                  exact ih _ _ _ _ _ _ hf hw (lv_sub hl [5, 6, 7, 8, 9, 10, 11, 12, 0] rfl)
                refine lv_goto (tgt := 402) hx hb dX8_route_348 (by decide) ?_
                refine q_iinc (lv1 := [(15, .int v43), (14, .int v42), (13, .int v40), (12, .int v38), (0, .ref (ga Γ 8 0)), (4, .int v4), (5, .int v5), (6, .int v29), (7, .int v34), (8, .int v28), (9, .int v32), (10, .int v33)]) (d := 1) hx hb hf dX8_route_402 hl (k := 12) rfl (by decide) (by decide) rfl (fun v50 ls hf hl => ?_)
                refine lv_goto (tgt := 253) hx hb dX8_route_405 (by decide) ?_
                exact ih _ _ _ _ _ _ hf hw (lv_sub hl [5, 6, 7, 8, 9, 10, 11, 12, 0] rfl)
              refine lv_iconst (v := 0) hx hb dX8_route_326 (by decide) ?_
              refine lv_goto (tgt := 333) hx hb dX8_route_327 (by decide) ?_
              refine lv_iadd hx hb dX8_route_333 ?_
              refine q_istore (lv1 := [(14, .int v42), (13, .int v40), (12, .int v38), (0, .ref (ga Γ 8 0)), (4, .int v4), (5, .int v5), (6, .int v29), (7, .int v34), (8, .int v28), (9, .int v32), (10, .int v33), (11, .int v35)]) hx hb hf dX8_route_334 hl (by decide) rfl (fun v51 ls hf hl => ?_)
              refine lv_iload hx hb dX8_route_336 (lv_at hl 0 rfl) ?_
              refine lv_aload_n hx hb dX8_route_338 rfl (lv_at hl 4 rfl) ?_
              refine q_get (v := .ref (ga Γ 169 0)) hx hb hK hw hown in_X8 ins_X8 (rfl : vwCl[10]? = some (RX8, TX8, 32)) rfl (Nat.le_of_ble_eq_true rfl : 0 < cnt (gn Γ) 8) 28 (by decide) 1382 fl_X8_85 rfl rfl dX8_route_339 ?_
              refine lv_iload hx hb dX8_route_342 (lv_at hl 1 rfl) ?_
              refine q_iald hx hb hK hw (k := 169) (o := 0) (fun _ _ _ => rfl) (Nat.le_of_ble_eq_true rfl : 0 < cnt (gn Γ) 169) hf dX8_route_344 (fun hf => ?_)
              refine q_ic_lt (tgt := 351) hx hb hf dX8_route_345 (by decide) (fun hf => ?_) (fun hf => ?_)
              · refine lv_aload_n hx hb dX8_route_351 rfl (lv_at hl 4 rfl) ?_
                refine q_get (v := .ref (ga Γ 169 0)) hx hb hK hw hown in_X8 ins_X8 (rfl : vwCl[10]? = some (RX8, TX8, 32)) rfl (Nat.le_of_ble_eq_true rfl : 0 < cnt (gn Γ) 8) 28 (by decide) 1382 fl_X8_85 rfl rfl dX8_route_352 ?_
                refine lv_iload hx hb dX8_route_355 (lv_at hl 1 rfl) ?_
                refine lv_iload hx hb dX8_route_357 (lv_at hl 0 rfl) ?_
                refine q_iast hx hb hK hw (k := 169) (o := 0) (fun _ _ _ => rfl) (Nat.le_of_ble_eq_true rfl : 0 < cnt (gn Γ) 169) hf dX8_route_359 (fun σ52 H locs hf hw => ?_)
                refine lv_aload_n hx hb dX8_route_360 rfl (lv_at hl 4 rfl) ?_
                refine q_get (v := .ref (ga Γ 172 0)) hx hb hK hw hown in_X8 ins_X8 (rfl : vwCl[10]? = some (RX8, TX8, 32)) rfl (Nat.le_of_ble_eq_true rfl : 0 < cnt (gn Γ) 8) 31 (by decide) 1385 fl_X8_94 rfl rfl dX8_route_361 ?_
                refine lv_iload hx hb dX8_route_364 (lv_at hl 1 rfl) ?_
                refine q_zald hx hb hK hw (k := 172) (o := 0) (fun _ _ _ => rfl) (Nat.le_of_ble_eq_true rfl : 0 < cnt (gn Γ) 172) hf dX8_route_366 (fun hf => ?_)
                refine q_if_eq (tgt := 373) hx hb hf dX8_route_367 (by decide) (fun hf => ?_) (fun hf => ?_)
                · refine lv_aload_n hx hb dX8_route_373 rfl (lv_at hl 4 rfl) ?_
                  refine q_get (v := .ref (ga Γ 170 0)) hx hb hK hw hown in_X8 ins_X8 (rfl : vwCl[10]? = some (RX8, TX8, 32)) rfl (Nat.le_of_ble_eq_true rfl : 0 < cnt (gn Γ) 8) 29 (by decide) 1383 fl_X8_88 rfl rfl dX8_route_374 ?_
                  refine lv_iload hx hb dX8_route_377 (lv_at hl 7 rfl) ?_
                  refine lv_iload hx hb dX8_route_379 (lv_at hl 8 rfl) ?_
                  refine lv_iadd hx hb dX8_route_381 ?_
                  refine lv_aload_n hx hb dX8_route_382 rfl (lv_at hl 4 rfl) ?_
                  refine q_get (v := .ref (ga Γ 170 0)) hx hb hK hw hown in_X8 ins_X8 (rfl : vwCl[10]? = some (RX8, TX8, 32)) rfl (Nat.le_of_ble_eq_true rfl : 0 < cnt (gn Γ) 8) 29 (by decide) 1383 fl_X8_88 rfl rfl dX8_route_383 ?_
                  refine q_alenI (v := (1536 : Int32)) hx hb hK hw (k := 170) (o := 0) (fun _ _ _ => rfl) (Nat.le_of_ble_eq_true rfl : 0 < cnt (gn Γ) 170) rfl dX8_route_386 ?_
                  refine lv_irem hx hb dX8_route_387 (by decide) ?_
                  refine lv_iload hx hb dX8_route_388 (lv_at hl 1 rfl) ?_
                  refine q_iast hx hb hK hw (k := 170) (o := 0) (fun _ _ _ => rfl) (Nat.le_of_ble_eq_true rfl : 0 < cnt (gn Γ) 170) hf dX8_route_390 (fun σ53 H locs hf hw => ?_)
                  refine lv_aload_n hx hb dX8_route_391 rfl (lv_at hl 4 rfl) ?_
                  refine q_get (v := .ref (ga Γ 172 0)) hx hb hK hw hown in_X8 ins_X8 (rfl : vwCl[10]? = some (RX8, TX8, 32)) rfl (Nat.le_of_ble_eq_true rfl : 0 < cnt (gn Γ) 8) 31 (by decide) 1385 fl_X8_94 rfl rfl dX8_route_392 ?_
                  refine lv_iload hx hb dX8_route_395 (lv_at hl 1 rfl) ?_
                  refine lv_iconst (v := 1) hx hb dX8_route_397 (by decide) ?_
                  refine q_zast hx hb hK hw (k := 172) (o := 0) (fun _ _ _ => rfl) (Nat.le_of_ble_eq_true rfl : 0 < cnt (gn Γ) 172) hf dX8_route_398 (fun σ54 H locs hf hw => ?_)
                  refine q_iinc (lv1 := [(15, .int v51), (14, .int v42), (13, .int v40), (12, .int v38), (0, .ref (ga Γ 8 0)), (4, .int v4), (5, .int v5), (6, .int v29), (8, .int v28), (9, .int v32), (10, .int v33), (11, .int v35)]) (d := 1) hx hb hf dX8_route_399 hl (k := 8) rfl (by decide) (by decide) rfl (fun v55 ls hf hl => ?_)
                  refine q_iinc (lv1 := [(7, .int v55), (15, .int v51), (14, .int v42), (13, .int v40), (12, .int v38), (0, .ref (ga Γ 8 0)), (4, .int v4), (5, .int v5), (6, .int v29), (8, .int v28), (9, .int v32), (10, .int v33)]) (d := 1) hx hb hf dX8_route_402 hl (k := 12) rfl (by decide) (by decide) rfl (fun v56 ls hf hl => ?_)
                  refine lv_goto (tgt := 253) hx hb dX8_route_405 (by decide) ?_
                  exact ih _ _ _ _ _ _ hf hw (lv_sub hl [6, 7, 8, 9, 1, 10, 11, 12, 0] rfl)
                refine lv_goto (tgt := 402) hx hb dX8_route_370 (by decide) ?_
                refine q_iinc (lv1 := [(15, .int v51), (14, .int v42), (13, .int v40), (12, .int v38), (0, .ref (ga Γ 8 0)), (4, .int v4), (5, .int v5), (6, .int v29), (7, .int v34), (8, .int v28), (9, .int v32), (10, .int v33)]) (d := 1) hx hb hf dX8_route_402 hl (k := 12) rfl (by decide) (by decide) rfl (fun v57 ls hf hl => ?_)
                refine lv_goto (tgt := 253) hx hb dX8_route_405 (by decide) ?_
                exact ih _ _ _ _ _ _ hf hw (lv_sub hl [5, 6, 7, 8, 9, 10, 11, 12, 0] rfl)
              refine lv_goto (tgt := 402) hx hb dX8_route_348 (by decide) ?_
              refine q_iinc (lv1 := [(15, .int v51), (14, .int v42), (13, .int v40), (12, .int v38), (0, .ref (ga Γ 8 0)), (4, .int v4), (5, .int v5), (6, .int v29), (7, .int v34), (8, .int v28), (9, .int v32), (10, .int v33)]) (d := 1) hx hb hf dX8_route_402 hl (k := 12) rfl (by decide) (by decide) rfl (fun v58 ls hf hl => ?_)
              refine lv_goto (tgt := 253) hx hb dX8_route_405 (by decide) ?_
              exact ih _ _ _ _ _ _ hf hw (lv_sub hl [5, 6, 7, 8, 9, 10, 11, 12, 0] rfl)
            refine lv_goto (tgt := 402) hx hb dX8_route_290 (by decide) ?_
            refine q_iinc (lv1 := [(13, .int v40), (12, .int v38), (0, .ref (ga Γ 8 0)), (4, .int v4), (5, .int v5), (6, .int v29), (7, .int v34), (8, .int v28), (9, .int v32), (10, .int v33)]) (d := 1) hx hb hf dX8_route_402 hl (k := 10) rfl (by decide) (by decide) rfl (fun v59 ls hf hl => ?_)
            refine lv_goto (tgt := 253) hx hb dX8_route_405 (by decide) ?_
            exact ih _ _ _ _ _ _ hf hw (lv_sub hl [3, 4, 5, 6, 7, 8, 9, 10, 0] rfl)
        refine L253 _ (fun v60 _ σ61 H locs ls hf hw hl => ?_) N v30 (0 : Int32) σ31 _ _ _ hf hw (lv_sub hl [6, 7, 8, 4, 3, 5, 2, 1, 0] rfl)
        refine lv_goto (tgt := 195) hx hb dX8_route_408 (by decide) ?_
        exact ih _ _ _ _ _ _ hf hw (lv_sub hl [0, 1, 2, 3, 4] rfl)
    refine L195 _ (fun _ _ σ62 H locs ls hf hw hl => ?_) N (0 : Int32) v23 σ24 _ _ _ hf hw (lv_sub hl [0, 1, 2, 3, 4] rfl)
    refine lv_ldc (v := 1000000000) hx hb hown (kw_at hK.2.2.2.2.1 1751 (by decide +kernel) rfl) dX8_route_411 ?_
    refine lv_istore (lv' := [(8, .int (1000000000 : Int32)), (0, .ref (ga Γ 8 0)), (4, .int v4), (5, .int v5)]) hx hb dX8_route_413 hl (by decide) rfl (fun ls hl => ?_)
    refine lv_iconst (v := 0) hx hb dX8_route_415 (by decide) ?_
    refine lv_istore (lv' := [(9, .int (0 : Int32)), (8, .int (1000000000 : Int32)), (0, .ref (ga Γ 8 0)), (4, .int v4), (5, .int v5)]) hx hb dX8_route_416 hl (by decide) rfl (fun ls hl => ?_)
    have L418 : ∀ (K : Int32 → Int32 → Option ((Int32 × St))) (hkk : ∀ (y8 : Int32) (y9 : Int32) (H : Heap) (locs : List Loc) (ls : Array Slot), K y8 y9 = some (r, τ) → Sit Γ σ62 s H locs → lv_has ls 16 [(8, .int y8)] → W p l e { frames := 3, cells := 0, slots := 0, locals := 68 } s m [.ref (ga Γ 8 0), .int x1].toArray below meth c H locs 0 0 (MQ below (Qg Γ (some (.int r)) τ (AA Γ s.heap.size)) [.ref (ga Γ 8 0), .int x1].toArray s 0 0 (AA Γ s.heap.size)) (F0 m 455 ls [])) (n : Nat) (v63 : Int32) (v64 : Int32) (H : Heap) (locs : List Loc) (ls : Array Slot), fX8_route_L418 K N v4 v5 σ62 n v63 v64 = some (r, τ) → Sit Γ σ62 s H locs → lv_has ls 16 [(0, .ref (ga Γ 8 0)), (4, .int v4), (5, .int v5), (8, .int v63), (9, .int v64)] → W p l e { frames := 3, cells := 0, slots := 0, locals := 68 } s m [.ref (ga Γ 8 0), .int x1].toArray below meth c H locs 0 0 (MQ below (Qg Γ (some (.int r)) τ (AA Γ s.heap.size)) [.ref (ga Γ 8 0), .int x1].toArray s 0 0 (AA Γ s.heap.size)) (F0 m 418 ls []) := by
      intro K hkk n
      induction n with
      | zero =>
        intro _ _ _ _ _ hf
        exact nomatch hf
      | succ n ih =>
        intro v63 v64 H locs ls hf hw hl
        refine lv_iload hx hb dX8_route_418 (lv_at hl 4 rfl) ?_
        refine lv_iconst (v := 4) hx hb dX8_route_420 (by decide) ?_
        refine q_ic_ge (tgt := 455) hx hb hf dX8_route_421 (by decide) (fun hf => ?_) (fun hf => ?_)
        · exact hkk _ _ _ _ _ hf hw (lv_sub hl [3] rfl)
        refine lv_iload hx hb dX8_route_424 (lv_at hl 3 rfl) ?_
        refine lv_aload_n hx hb dX8_route_426 rfl (lv_at hl 0 rfl) ?_
        refine q_get (v := .ref (ga Γ 169 0)) hx hb hK hw hown in_X8 ins_X8 (rfl : vwCl[10]? = some (RX8, TX8, 32)) rfl (Nat.le_of_ble_eq_true rfl : 0 < cnt (gn Γ) 8) 28 (by decide) 1382 fl_X8_85 rfl rfl dX8_route_427 ?_
        refine lv_iconst (v := 4) hx hb dX8_route_430 (by decide) ?_
        refine lv_bipush (v := 24) hx hb dX8_route_431 (by decide) ?_
        refine lv_iload hx hb dX8_route_433 (lv_at hl 2 rfl) ?_
        refine lv_imul hx hb dX8_route_435 ?_
        refine lv_iload hx hb dX8_route_436 (lv_at hl 1 rfl) ?_
        refine lv_iadd hx hb dX8_route_438 ?_
        refine lv_imul hx hb dX8_route_439 ?_
        refine lv_iload hx hb dX8_route_440 (lv_at hl 4 rfl) ?_
        refine lv_iadd hx hb dX8_route_442 ?_
        refine q_iald hx hb hK hw (k := 169) (o := 0) (fun _ _ _ => rfl) (Nat.le_of_ble_eq_true rfl : 0 < cnt (gn Γ) 169) hf dX8_route_443 (fun hf => ?_)
        refine q_mmin X hK hl.1 lk_X8_258 jm_min ⟨Nat.le_of_ble_eq_true rfl, Nat.le_of_ble_eq_true rfl⟩ ⟨Nat.le_of_ble_eq_true rfl, Nat.le_of_ble_eq_true rfl⟩ dX8_route_444 ?_
        refine q_istore (lv1 := [(0, .ref (ga Γ 8 0)), (4, .int v4), (5, .int v5), (9, .int v64)]) hx hb hf dX8_route_447 hl (by decide) rfl (fun v65 ls hf hl => ?_)
        refine q_iinc (lv1 := [(8, .int v65), (0, .ref (ga Γ 8 0)), (4, .int v4), (5, .int v5)]) (d := 1) hx hb hf dX8_route_449 hl (k := 4) rfl (by decide) (by decide) rfl (fun v66 ls hf hl => ?_)
        refine lv_goto (tgt := 418) hx hb dX8_route_452 (by decide) ?_
        exact ih _ _ _ _ _ hf hw (lv_sub hl [2, 3, 4, 1, 0] rfl)
    refine L418 _ (fun v67 _ H locs ls hf hw hl => ?_) N (1000000000 : Int32) (0 : Int32) _ _ _ hf hw (lv_sub hl [2, 3, 4, 1, 0] rfl)
    refine lv_iload hx hb dX8_route_455 (lv_at hl 0 rfl) ?_
    exact q_eiret hf hx hb hr rfl hk hw dX8_route_457 (Nat.le_of_ble_eq_true rfl) (Nat.le_of_ble_eq_true rfl)
  refine lv_ldc (v := 1000000000) hx hb hown (kw_at hK.2.2.2.2.1 1751 (by decide +kernel) rfl) dX8_route_94 ?_
  exact q_eiret hf hx hb hr rfl hk hw dX8_route_96 (Nat.le_of_ble_eq_true rfl) (Nat.le_of_ble_eq_true rfl)
set_option maxRecDepth 100000 in
theorem kX8_asked {Γ : Gm} {S : List (String × Nat × String)} {l : Launch} {N : Nat} {σ τ : St} {x1 : Int32} {x2 : Int32} {r : Int32}  (hf : fX8_asked N σ x1 x2 = some (r, τ)) : CT Γ S l yX8_asked cX8_asked 4 (some (.int)) 4 103 0 0 [.ref (ga Γ 8 0), .int x1, .int x2] (some (.int r)) σ τ := by
  unfold fX8_asked at hf
  refine ct_body (lv := [(0, .ref (ga Γ 8 0)), (1, .int x1), (2, .int x2)]) (by decide +kernel) rfl (Nat.le_of_ble_eq_true rfl) ?_
  intro p e s m below meth c ls X hr hk hK hw hl
  have hx := X.1
  have hb := X.2.1
  have hown := X.2.2.2
  refine lv_aload_n hx hb dX8_asked_0 rfl (lv_at hl 0 rfl) ?_
  refine lv_iload_n hx hb dX8_asked_1 rfl (lv_at hl 1 rfl) ?_
  refine q_eI hf hw (fun v τ h => q_rV (As := [.int x1]) (rest := []) (q := (RX8, TX8, 32)) X hK hw rfl (Nat.le_of_ble_eq_true rfl : 0 < cnt (gn Γ) 8) (rfl : vwCl[10]? = _) (kX8_isNobody h) mvX8_isNobody lk_X8_228 ⟨Nat.le_of_ble_eq_true rfl, Nat.le_of_ble_eq_true rfl⟩ rfl hl.1 rfl (Nat.le_of_ble_eq_true rfl) dX8_asked_2 ⟨Nat.le_of_ble_eq_true rfl, Nat.le_of_ble_eq_true rfl⟩) (fun v2 σ1 H locs hf hw => ?_)
  refine q_if_eq (tgt := 10) hx hb hf dX8_asked_5 (by decide) (fun hf => ?_) (fun hf => ?_)
  · refine lv_aload_n hx hb dX8_asked_10 rfl (lv_at hl 0 rfl) ?_
    refine lv_iload_n hx hb dX8_asked_11 rfl (lv_at hl 2 rfl) ?_
    refine q_pI hf hw (fun v h => q_rV (As := [.int x2]) (rest := []) (q := (RX8, TX8, 32)) X hK hw rfl (Nat.le_of_ble_eq_true rfl : 0 < cnt (gn Γ) 8) (rfl : vwCl[10]? = _) (kX8_isJoined h) mvX8_isJoined lk_X8_135 ⟨Nat.le_of_ble_eq_true rfl, Nat.le_of_ble_eq_true rfl⟩ rfl hl.1 rfl (Nat.le_of_ble_eq_true rfl) dX8_asked_12 ⟨Nat.le_of_ble_eq_true rfl, Nat.le_of_ble_eq_true rfl⟩) (fun v3 H locs hf hw => ?_)
    refine q_if_ne (tgt := 24) hx hb hf dX8_asked_15 (by decide) (fun hf => ?_) (fun hf => ?_)
    · refine lv_aload_n hx hb dX8_asked_24 rfl (lv_at hl 0 rfl) ?_
      refine lv_iload_n hx hb dX8_asked_25 rfl (lv_at hl 2 rfl) ?_
      refine q_eI hf hw (fun v τ h => q_rV (As := [.int x2]) (rest := []) (q := (RX8, TX8, 32)) X hK hw rfl (Nat.le_of_ble_eq_true rfl : 0 < cnt (gn Γ) 8) (rfl : vwCl[10]? = _) (kX8_route h) mvX8_route lk_X8_261 ⟨Nat.le_of_ble_eq_true rfl, Nat.le_of_ble_eq_true rfl⟩ rfl hl.1 rfl (Nat.le_of_ble_eq_true rfl) dX8_asked_26 ⟨Nat.le_of_ble_eq_true rfl, Nat.le_of_ble_eq_true rfl⟩) (fun v5 σ4 H locs hf hw => ?_)
      refine lv_istore_n (lv' := [(3, .int v5), (0, .ref (ga Γ 8 0)), (1, .int x1), (2, .int x2)]) hx hb dX8_asked_29 rfl hl (by decide) rfl (fun ls hl => ?_)
      refine lv_iload_n hx hb dX8_asked_30 rfl (lv_at hl 0 rfl) ?_
      refine lv_ldc (v := 1000000000) hx hb hown (kw_at hK.2.2.2.2.1 1751 (by decide +kernel) rfl) dX8_asked_31 ?_
      refine q_ic_ne (tgt := 44) hx hb hf dX8_asked_33 (by decide) (fun hf => ?_) (fun hf => ?_)
      · refine lv_iload_n hx hb dX8_asked_44 rfl (lv_at hl 0 rfl) ?_
        exact q_eiret hf hx hb hr rfl hk hw dX8_asked_45 (Nat.le_of_ble_eq_true rfl) (Nat.le_of_ble_eq_true rfl)
      refine lv_aload_n hx hb dX8_asked_36 rfl (lv_at hl 1 rfl) ?_
      refine lv_iconst (v := 3) hx hb dX8_asked_37 (by decide) ?_
      refine q_eI hf hw (fun v τ h => q_rV (As := [.int (3 : Int32)]) (rest := []) (q := (RX8, TX8, 32)) X hK hw rfl (Nat.le_of_ble_eq_true rfl : 0 < cnt (gn Γ) 8) (rfl : vwCl[10]? = _) (kX8_fails h) mvX8_fails lk_X8_172 ⟨Nat.le_of_ble_eq_true rfl, Nat.le_of_ble_eq_true rfl⟩ rfl hl.1 rfl (Nat.le_of_ble_eq_true rfl) dX8_asked_38 ⟨Nat.le_of_ble_eq_true rfl, Nat.le_of_ble_eq_true rfl⟩) (fun v7 σ6 H locs hf hw => ?_)
      refine lv_goto (tgt := 45) hx hb dX8_asked_41 (by decide) ?_
      exact q_eiret hf hx hb hr rfl hk hw dX8_asked_45 (Nat.le_of_ble_eq_true rfl) (Nat.le_of_ble_eq_true rfl)
    refine lv_aload_n hx hb dX8_asked_18 rfl (lv_at hl 0 rfl) ?_
    refine lv_iconst (v := 2) hx hb dX8_asked_19 (by decide) ?_
    refine q_eI hf hw (fun v τ h => q_rV (As := [.int (2 : Int32)]) (rest := []) (q := (RX8, TX8, 32)) X hK hw rfl (Nat.le_of_ble_eq_true rfl : 0 < cnt (gn Γ) 8) (rfl : vwCl[10]? = _) (kX8_fails h) mvX8_fails lk_X8_172 ⟨Nat.le_of_ble_eq_true rfl, Nat.le_of_ble_eq_true rfl⟩ rfl hl.1 rfl (Nat.le_of_ble_eq_true rfl) dX8_asked_20 ⟨Nat.le_of_ble_eq_true rfl, Nat.le_of_ble_eq_true rfl⟩) (fun v9 σ8 H locs hf hw => ?_)
    exact q_eiret hf hx hb hr rfl hk hw dX8_asked_23 (Nat.le_of_ble_eq_true rfl) (Nat.le_of_ble_eq_true rfl)
  refine lv_iconst (v := 0) hx hb dX8_asked_8 (by decide) ?_
  exact q_eiret hf hx hb hr rfl hk hw dX8_asked_9 (Nat.le_of_ble_eq_true rfl) (Nat.le_of_ble_eq_true rfl)
