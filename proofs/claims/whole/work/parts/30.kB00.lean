/-! Contracts, by program. -/
set_option maxRecDepth 100000 in
theorem kX7_needUser {Γ : Gm} {l : Launch} (hfl : l.stackTraces = false) {N : Nat} {σ : St} {x1 : Int32} {r : (Nat ⊕ String) × St}  (hf : fX7_needUser N σ x1 = some r) : CX Γ STR l yX7_needUser cX7_needUser 3 (some (.object "Plugboard$User")) 8 103 1 6 [.ref (ga Γ 0 0), .int x1] (rsRk Γ 4 r) σ := by
  unfold fX7_needUser at hf
  refine cx_body (lv := [(0, .ref (ga Γ 0 0)), (1, .int x1)]) (by decide +kernel) rfl (Nat.le_of_ble_eq_true rfl) ?_
  intro p e s m below meth c ls X hr hk hK hw hl htab
  have hx := X.1
  have hb := X.2.1
  have hown := X.2.2.2
  refine lv_iload_n hx hb dX7_needUser_0 rfl (lv_at hl 1 rfl) ?_
  refine q_if_lt (tgt := 22) hx hb hf dX7_needUser_1 (by decide) (fun hf => ?_) (fun hf => ?_)
  · refine lv_null hx hb dX7_needUser_22 ?_
    refine lv_astore_nN (lv' := [(2, .null), (0, .ref (ga Γ 0 0)), (1, .int x1)]) hx hb dX7_needUser_23 rfl hl (by decide) rfl (fun ls hl => ?_)
    refine lv_aload_nN hx hb dX7_needUser_24 rfl (lv_at hl 0 rfl) ?_
    refine lv_ifnonnullN hx hb dX7_needUser_25 ?_
    exact q_thrW (fun _ _ => rfl) hf hfl X hK hw hl.1 hk htab ax_IllegalArgumentException (List.mem_of_getElem? (i := 19) rfl) dX7_needUser_28 dX7_needUser_31 dX7_needUser_32 dX7_needUser_35 dX7_needUser_38 (Nat.le_of_ble_eq_true rfl) (Nat.le_of_ble_eq_true rfl) (Nat.le_of_ble_eq_true rfl) (Nat.le_of_ble_eq_true rfl) (Nat.le_of_ble_eq_true rfl) (Nat.le_of_ble_eq_true rfl)
  refine lv_iload_n hx hb dX7_needUser_4 rfl (lv_at hl 1 rfl) ?_
  refine lv_aload_n hx hb dX7_needUser_5 rfl (lv_at hl 0 rfl) ?_
  refine q_get (v := .ref (ga Γ 130 0)) hx hb hK hw hown in_X7 ins_X7 (rfl : vwCl[9]? = some (RX7, TX7, 5)) rfl (Nat.le_of_ble_eq_true rfl : 0 < cnt (gn Γ) 0) 2 (by decide) 326 fl_X7_25 rfl rfl dX7_needUser_6 ?_
  refine q_alenR (v := (3 : Int32)) hx hb hK hw (k := 130) (o := 0) (fun _ _ _ => rfl) (Nat.le_of_ble_eq_true rfl : 0 < cnt (gn Γ) 130) rfl dX7_needUser_9 ?_
  refine q_ic_ge (tgt := 22) hx hb hf dX7_needUser_10 (by decide) (fun hf => ?_) (fun hf => ?_)
  · refine lv_null hx hb dX7_needUser_22 ?_
    refine lv_astore_nN (lv' := [(2, .null), (0, .ref (ga Γ 0 0)), (1, .int x1)]) hx hb dX7_needUser_23 rfl hl (by decide) rfl (fun ls hl => ?_)
    refine lv_aload_nN hx hb dX7_needUser_24 rfl (lv_at hl 0 rfl) ?_
    refine lv_ifnonnullN hx hb dX7_needUser_25 ?_
    exact q_thrW (fun _ _ => rfl) hf hfl X hK hw hl.1 hk htab ax_IllegalArgumentException (List.mem_of_getElem? (i := 19) rfl) dX7_needUser_28 dX7_needUser_31 dX7_needUser_32 dX7_needUser_35 dX7_needUser_38 (Nat.le_of_ble_eq_true rfl) (Nat.le_of_ble_eq_true rfl) (Nat.le_of_ble_eq_true rfl) (Nat.le_of_ble_eq_true rfl) (Nat.le_of_ble_eq_true rfl) (Nat.le_of_ble_eq_true rfl)
  refine lv_aload_n hx hb dX7_needUser_13 rfl (lv_at hl 0 rfl) ?_
  refine q_get (v := .ref (ga Γ 130 0)) hx hb hK hw hown in_X7 ins_X7 (rfl : vwCl[9]? = some (RX7, TX7, 5)) rfl (Nat.le_of_ble_eq_true rfl : 0 < cnt (gn Γ) 0) 2 (by decide) 326 fl_X7_25 rfl rfl dX7_needUser_14 ?_
  refine lv_iload_n hx hb dX7_needUser_17 rfl (lv_at hl 1 rfl) ?_
  have ho_b1 := inb_lt (ck_t hf).1
  refine q_aald hx hb hK hw (k := 130) (o := 0) (fun _ _ _ => rfl) (Nat.le_of_ble_eq_true rfl : 0 < cnt (gn Γ) 130) hf dX7_needUser_18 (fun hf => ?_)
  refine lv_goto (tgt := 23) hx hb dX7_needUser_19 (by decide) ?_
  refine lv_astore_n (lv' := [(2, .ref (ga Γ 4 ((Int32.toNatClampNeg x1)))), (0, .ref (ga Γ 0 0)), (1, .int x1)]) hx hb dX7_needUser_23 rfl hl (by decide) rfl (fun ls hl => ?_)
  refine lv_aload_n hx hb dX7_needUser_24 rfl (lv_at hl 0 rfl) ?_
  refine lv_ifnonnull (tgt := 39) hx hb dX7_needUser_25 (by decide) ?_
  refine lv_aload_n hx hb dX7_needUser_39 rfl (lv_at hl 0 rfl) ?_
  exact q_xaret hf hx hb hr hk hw dX7_needUser_40 (Nat.le_of_ble_eq_true rfl) (Nat.le_of_ble_eq_true rfl)
set_option maxRecDepth 100000 in
theorem kX7_needRoom {Γ : Gm} {l : Launch} (hfl : l.stackTraces = false) {N : Nat} {σ : St} {r : (Unit ⊕ String) × St}  (hf : fX7_needRoom N σ = some r) : CX Γ STR l yX7_needRoom cX7_needRoom 1 none 8 103 1 6 [.ref (ga Γ 0 0)] (rsV r) σ := by
  unfold fX7_needRoom at hf
  refine cx_body (lv := [(0, .ref (ga Γ 0 0))]) (by decide +kernel) rfl (Nat.le_of_ble_eq_true rfl) ?_
  intro p e s m below meth c ls X hr hk hK hw hl htab
  have hx := X.1
  have hb := X.2.1
  have hown := X.2.2.2
  refine lv_aload_n hx hb dX7_needRoom_0 rfl (lv_at hl 0 rfl) ?_
  refine q_get (v := .ref (ga Γ 1 0)) hx hb hK hw hown in_X7 ins_X7 (rfl : vwCl[9]? = some (RX7, TX7, 5)) rfl (Nat.le_of_ble_eq_true rfl : 0 < cnt (gn Γ) 0) 0 (by decide) 324 fl_X7_12 rfl rfl dX7_needRoom_1 ?_
  refine q_pI hf hw (fun v h => q_rV (As := []) (rest := []) (q := (RX1, TX1, 13)) X hK hw rfl (Nat.le_of_ble_eq_true rfl : 0 < cnt (gn Γ) 1) (rfl : vwCl[3]? = _) (kX1_isFull h) mvX1_isFull lk_X7_354 ⟨Nat.le_of_ble_eq_true rfl, Nat.le_of_ble_eq_true rfl⟩ rfl hl.1 rfl (Nat.le_of_ble_eq_true rfl) dX7_needRoom_4 ⟨Nat.le_of_ble_eq_true rfl, Nat.le_of_ble_eq_true rfl⟩) (fun v1 H locs hf hw => ?_)
  refine q_if_eq (tgt := 21) hx hb hf dX7_needRoom_7 (by decide) (fun hf => ?_) (fun hf => ?_)
  · exact q_xvret hx hb hr hk hw dX7_needRoom_21 hf (Nat.le_of_ble_eq_true rfl) (Nat.le_of_ble_eq_true rfl)
  exact q_thrW (fun _ _ => rfl) hf hfl X hK hw hl.1 hk htab ax_IllegalStateException (List.mem_of_getElem? (i := 20) rfl) dX7_needRoom_10 dX7_needRoom_13 dX7_needRoom_14 dX7_needRoom_17 dX7_needRoom_20 (Nat.le_of_ble_eq_true rfl) (Nat.le_of_ble_eq_true rfl) (Nat.le_of_ble_eq_true rfl) (Nat.le_of_ble_eq_true rfl) (Nat.le_of_ble_eq_true rfl) (Nat.le_of_ble_eq_true rfl)
set_option maxRecDepth 100000 in
theorem kX7_addShape {Γ : Gm} {l : Launch} (hfl : l.stackTraces = false) {N : Nat} {σ : St} {x1 : Int32} {x2 : Int32} {x3 : Int32} {x4 : Int32} {x5 : Int32} {x6 : Int32} {r : (Int32 ⊕ String) × St}  (hf : fX7_addShape N σ x1 x2 x3 x4 x5 x6 = some r) : CX Γ STR l yX7_addShape cX7_addShape 10 (some (.int)) 9 132 4 24 [.ref (ga Γ 0 0), .int x1, .int x2, .int x3, .int x4, .int x5, .int x6] (rsI r) σ := by
  unfold fX7_addShape at hf
  refine cx_body (lv := [(0, .ref (ga Γ 0 0)), (1, .int x1), (2, .int x2), (3, .int x3), (4, .int x4), (5, .int x5), (6, .int x6)]) (by decide +kernel) rfl (Nat.le_of_ble_eq_true rfl) ?_
  intro p e s m below meth c ls X hr hk hK hw hl htab
  have hx := X.1
  have hb := X.2.1
  have hown := X.2.2.2
  refine lv_aload_n hx hb dX7_addShape_0 rfl (lv_at hl 0 rfl) ?_
  refine lv_iload_n hx hb dX7_addShape_1 rfl (lv_at hl 1 rfl) ?_
  refine q_xR (k := 4) (fun _ _ => rfl) hf hw (fun u h => q_rxV (As := [.int x1]) (rest := []) (q := (RX7, TX7, 5)) X hK hw rfl (Nat.le_of_ble_eq_true rfl : 0 < cnt (gn Γ) 0) (rfl : vwCl[9]? = _) (kX7_needUser hfl h) mvX7_needUser lk_X7_48 ⟨Nat.le_of_ble_eq_true rfl, Nat.le_of_ble_eq_true rfl⟩ rfl hl.1 rfl (Nat.le_of_ble_eq_true rfl) dX7_addShape_2 ⟨Nat.le_of_ble_eq_true rfl, Nat.le_of_ble_eq_true rfl⟩) hk htab (Nat.le_of_ble_eq_true rfl) (Nat.le_of_ble_eq_true rfl) (fun u1 σ2 H locs hf hw hq => ?_)
  have ho_u1 : u1 < 3 := ltX7_needUser hq
  refine lv_astore (lv' := [(7, .ref (ga Γ 4 u1)), (0, .ref (ga Γ 0 0)), (1, .int x1), (2, .int x2), (3, .int x3), (4, .int x4), (5, .int x5), (6, .int x6)]) hx hb dX7_addShape_5 hl (by decide) rfl (fun ls hl => ?_)
  refine lv_iload hx hb dX7_addShape_7 (lv_at hl 5 rfl) ?_
  refine q_pI hf hw (fun v h => q_rS (As := [.int x4]) (rest := []) X hK hw (kX7_isSide h) msX7_isSide lk_X7_52 ⟨Nat.le_of_ble_eq_true rfl, Nat.le_of_ble_eq_true rfl⟩ rfl hl.1 rfl (Nat.le_of_ble_eq_true rfl) dX7_addShape_9 ⟨Nat.le_of_ble_eq_true rfl, Nat.le_of_ble_eq_true rfl⟩) (fun v3 H locs hf hw => ?_)
  refine q_if_eq (tgt := 35) hx hb hf dX7_addShape_12 (by decide) (fun hf => ?_) (fun hf => ?_)
  · exact q_thr (fun _ _ => rfl) hf hfl X hK hw hl.1 hk htab ax_IllegalArgumentException (List.mem_of_getElem? (i := 0) rfl) dX7_addShape_35 dX7_addShape_38 dX7_addShape_39 dX7_addShape_41 dX7_addShape_44 (Nat.le_of_ble_eq_true rfl) (Nat.le_of_ble_eq_true rfl) (Nat.le_of_ble_eq_true rfl) (Nat.le_of_ble_eq_true rfl) (Nat.le_of_ble_eq_true rfl) (Nat.le_of_ble_eq_true rfl)
  refine lv_iload hx hb dX7_addShape_15 (lv_at hl 6 rfl) ?_
  refine q_pI hf hw (fun v h => q_rS (As := [.int x5]) (rest := []) X hK hw (kX7_isSide h) msX7_isSide lk_X7_52 ⟨Nat.le_of_ble_eq_true rfl, Nat.le_of_ble_eq_true rfl⟩ rfl hl.1 rfl (Nat.le_of_ble_eq_true rfl) dX7_addShape_17 ⟨Nat.le_of_ble_eq_true rfl, Nat.le_of_ble_eq_true rfl⟩) (fun v4 H locs hf hw => ?_)
  refine q_if_eq (tgt := 35) hx hb hf dX7_addShape_20 (by decide) (fun hf => ?_) (fun hf => ?_)
  · exact q_thr (fun _ _ => rfl) hf hfl X hK hw hl.1 hk htab ax_IllegalArgumentException (List.mem_of_getElem? (i := 0) rfl) dX7_addShape_35 dX7_addShape_38 dX7_addShape_39 dX7_addShape_41 dX7_addShape_44 (Nat.le_of_ble_eq_true rfl) (Nat.le_of_ble_eq_true rfl) (Nat.le_of_ble_eq_true rfl) (Nat.le_of_ble_eq_true rfl) (Nat.le_of_ble_eq_true rfl) (Nat.le_of_ble_eq_true rfl)
  refine lv_iload_n hx hb dX7_addShape_23 rfl (lv_at hl 3 rfl) ?_
  refine lv_iload_n hx hb dX7_addShape_24 rfl (lv_at hl 4 rfl) ?_
  refine lv_iload hx hb dX7_addShape_25 (lv_at hl 5 rfl) ?_
  refine lv_iload hx hb dX7_addShape_27 (lv_at hl 6 rfl) ?_
  refine q_pI hf hw (fun v h => q_rS (As := [.int x2, .int x3, .int x4, .int x5]) (rest := []) X hK hw (kX7_fits h) msX7_fits lk_X7_56 ⟨Nat.le_of_ble_eq_true rfl, Nat.le_of_ble_eq_true rfl⟩ rfl hl.1 rfl (Nat.le_of_ble_eq_true rfl) dX7_addShape_29 ⟨Nat.le_of_ble_eq_true rfl, Nat.le_of_ble_eq_true rfl⟩) (fun v5 H locs hf hw => ?_)
  refine q_if_ne (tgt := 45) hx hb hf dX7_addShape_32 (by decide) (fun hf => ?_) (fun hf => ?_)
  · refine lv_aload_n hx hb dX7_addShape_45 rfl (lv_at hl 1 rfl) ?_
    refine q_get (v := .ref (ga Γ 2 0)) hx hb hK hw hown in_X7 ins_X7 (rfl : vwCl[9]? = some (RX7, TX7, 5)) rfl (Nat.le_of_ble_eq_true rfl : 0 < cnt (gn Γ) 0) 1 (by decide) 325 fl_X7_19 rfl rfl dX7_addShape_46 ?_
    refine q_get (v := .int (gI σ2 2 0 7)) hx hb hK hw hown in_X2 ins_X2 (rfl : vwCl[4]? = some (RX2, TX2, 9)) rfl (Nat.le_of_ble_eq_true rfl : 0 < cnt (gn Γ) 2) 7 (by decide) 163 fl_X7_67 rfl rfl dX7_addShape_49 ?_
    refine lv_bipush (v := 12) hx hb dX7_addShape_52 (by decide) ?_
    refine q_ic_lt (tgt := 67) hx hb hf dX7_addShape_54 (by decide) (fun hf => ?_) (fun hf => ?_)
    · refine lv_aload_n hx hb dX7_addShape_67 rfl (lv_at hl 1 rfl) ?_
      refine q_xV (fun _ _ => rfl) hf hw (fun u h => q_rxV (As := []) (rest := []) (q := (RX7, TX7, 5)) X hK hw rfl (Nat.le_of_ble_eq_true rfl : 0 < cnt (gn Γ) 0) (rfl : vwCl[9]? = _) (kX7_needRoom hfl h) mvX7_needRoom lk_X7_76 ⟨Nat.le_of_ble_eq_true rfl, Nat.le_of_ble_eq_true rfl⟩ rfl hl.1 rfl (Nat.le_of_ble_eq_true rfl) dX7_addShape_68 ⟨Nat.le_of_ble_eq_true rfl, Nat.le_of_ble_eq_true rfl⟩) hk htab (Nat.le_of_ble_eq_true rfl) (Nat.le_of_ble_eq_true rfl) (fun _ σ6 H locs hf hw hq => ?_)
      refine lv_aload hx hb dX7_addShape_71 (lv_at hl 0 rfl) ?_
      refine q_get (v := .ref (ga Γ 7 u1)) hx hb hK hw hown in_X5 ins_X5 (rfl : vwCl[7]? = some (RX5, TX5, 8)) rfl ho_u1 3 (by decide) 301 fl_X7_79 rfl rfl dX7_addShape_73 ?_
      refine q_pI hf hw (fun v h => q_rV (As := []) (rest := []) (q := (RX6, TX6, 2)) X hK hw rfl (Nat.lt_of_lt_of_le ho_u1 (Nat.le_of_ble_eq_true rfl : 3 ≤ cnt (gn Γ) 7)) (rfl : vwCl[8]? = _) (kX6_countShapes (Nat.lt_of_lt_of_le ho_u1 (Nat.le_of_ble_eq_true rfl : 3 ≤ cnt (gn Γ) 7)) h) mvX6_countShapes lk_X7_83 ⟨Nat.le_of_ble_eq_true rfl, Nat.le_of_ble_eq_true rfl⟩ rfl hl.1 rfl (Nat.le_of_ble_eq_true rfl) dX7_addShape_76 ⟨Nat.le_of_ble_eq_true rfl, Nat.le_of_ble_eq_true rfl⟩) (fun v7 H locs hf hw => ?_)
      refine q_if_ne (tgt := 86) hx hb hf dX7_addShape_79 (by decide) (fun hf => ?_) (fun hf => ?_)
      · refine lv_aload hx hb dX7_addShape_86 (lv_at hl 0 rfl) ?_
        refine q_get (v := .ref (ga Γ 7 u1)) hx hb hK hw hown in_X5 ins_X5 (rfl : vwCl[7]? = some (RX5, TX5, 8)) rfl ho_u1 3 (by decide) 301 fl_X7_79 rfl rfl dX7_addShape_88 ?_
        refine q_pF hf hw (fun v h => q_rV (As := []) (rest := []) (q := (RX6, TX6, 2)) X hK hw rfl (Nat.lt_of_lt_of_le ho_u1 (Nat.le_of_ble_eq_true rfl : 3 ≤ cnt (gn Γ) 7)) (rfl : vwCl[8]? = _) (kX6_greatestKey (Nat.lt_of_lt_of_le ho_u1 (Nat.le_of_ble_eq_true rfl : 3 ≤ cnt (gn Γ) 7)) h) mvX6_greatestKey lk_X7_89 ⟨Nat.le_of_ble_eq_true rfl, Nat.le_of_ble_eq_true rfl⟩ rfl hl.1 rfl (Nat.le_of_ble_eq_true rfl) dX7_addShape_91 ⟨Nat.le_of_ble_eq_true rfl, Nat.le_of_ble_eq_true rfl⟩) (fun v8 H locs hf hw => ?_)
        refine lv_fconst1 hx hb dX7_addShape_94 ?_
        refine q_fadd hx hb hf dX7_addShape_95 (fun hf => ?_)
        refine q_fstore (lv1 := [(7, .ref (ga Γ 4 u1)), (0, .ref (ga Γ 0 0)), (1, .int x1), (2, .int x2), (3, .int x3), (4, .int x4), (5, .int x5), (6, .int x6)]) hx hb hf dX7_addShape_96 hl (by decide) rfl (fun v9 ls hf hl => ?_)
        refine lv_aload_n hx hb dX7_addShape_98 rfl (lv_at hl 2 rfl) ?_
        refine q_get (v := .ref (ga Γ 2 0)) hx hb hK hw hown in_X7 ins_X7 (rfl : vwCl[9]? = some (RX7, TX7, 5)) rfl (Nat.le_of_ble_eq_true rfl : 0 < cnt (gn Γ) 0) 1 (by decide) 325 fl_X7_19 rfl rfl dX7_addShape_99 ?_
        refine lv_iload hx hb dX7_addShape_102 (lv_at hl 6 rfl) ?_
        refine lv_iload hx hb dX7_addShape_104 (lv_at hl 7 rfl) ?_
        refine lv_iload hx hb dX7_addShape_106 (lv_at hl 8 rfl) ?_
        refine q_eI hf hw (fun v τ h => q_rV (As := [.int x4, .int x5, .int x6]) (rest := []) (q := (RX2, TX2, 9)) X hK hw rfl (Nat.le_of_ble_eq_true rfl : 0 < cnt (gn Γ) 2) (rfl : vwCl[4]? = _) (kX2_makeShape h) mvX2_makeShape lk_X7_93 ⟨Nat.le_of_ble_eq_true rfl, Nat.le_of_ble_eq_true rfl⟩ rfl hl.1 rfl (Nat.le_of_ble_eq_true rfl) dX7_addShape_108 ⟨Nat.le_of_ble_eq_true rfl, Nat.le_of_ble_eq_true rfl⟩) (fun v11 σ10 H locs hf hw => ?_)
        refine lv_istore (lv' := [(9, .int v11), (8, .float v9), (7, .ref (ga Γ 4 u1)), (0, .ref (ga Γ 0 0)), (1, .int x1), (2, .int x2), (3, .int x3), (4, .int x4), (5, .int x5), (6, .int x6)]) hx hb dX7_addShape_111 hl (by decide) rfl (fun ls hl => ?_)
        refine lv_aload hx hb dX7_addShape_113 (lv_at hl 2 rfl) ?_
        refine lv_iconst (v := 1) hx hb dX7_addShape_115 (by decide) ?_
        refine q_eV hf hw (fun τ h => q_rV (As := [.int (1 : Int32)]) (rest := []) (q := (RX5, TX5, 8)) X hK hw rfl ho_u1 (rfl : vwCl[7]? = _) (kX5_begin ho_u1 h) mvX5_begin lk_X7_97 ⟨Nat.le_of_ble_eq_true rfl, Nat.le_of_ble_eq_true rfl⟩ rfl hl.1 rfl (Nat.le_of_ble_eq_true rfl) dX7_addShape_116 ⟨Nat.le_of_ble_eq_true rfl, Nat.le_of_ble_eq_true rfl⟩) (fun σ12 H locs hf hw => ?_)
        refine lv_aload hx hb dX7_addShape_119 (lv_at hl 2 rfl) ?_
        refine lv_iconst (v := 0) hx hb dX7_addShape_121 (by decide) ?_
        refine lv_iload hx hb dX7_addShape_122 (lv_at hl 0 rfl) ?_
        refine lv_iadd hx hb dX7_addShape_124 ?_
        refine lv_fconst1 hx hb dX7_addShape_125 ?_
        refine q_eV hf hw (fun τ h => q_rV (As := [.int ((0 : Int32) + v11), .float (1065353216 : UInt32)]) (rest := []) (q := (RX5, TX5, 8)) X hK hw rfl ho_u1 (rfl : vwCl[7]? = _) (kX5_write ho_u1 h) mvX5_write lk_X7_101 ⟨Nat.le_of_ble_eq_true rfl, Nat.le_of_ble_eq_true rfl⟩ rfl hl.1 rfl (Nat.le_of_ble_eq_true rfl) dX7_addShape_126 ⟨Nat.le_of_ble_eq_true rfl, Nat.le_of_ble_eq_true rfl⟩) (fun σ13 H locs hf hw => ?_)
        refine lv_aload hx hb dX7_addShape_129 (lv_at hl 2 rfl) ?_
        refine lv_bipush (v := 12) hx hb dX7_addShape_131 (by decide) ?_
        refine lv_iload hx hb dX7_addShape_133 (lv_at hl 0 rfl) ?_
        refine lv_iadd hx hb dX7_addShape_135 ?_
        refine lv_iload_n hx hb dX7_addShape_136 rfl (lv_at hl 5 rfl) ?_
        refine lv_iload_n hx hb dX7_addShape_137 rfl (lv_at hl 6 rfl) ?_
        refine q_pI hf hw (fun v h => q_rS (As := [.int x2, .int x3]) (rest := [.int ((12 : Int32) + v11), .ref (ga Γ 4 u1)]) X hK hw (kX7_cellAt h) msX7_cellAt lk_X7_105 ⟨Nat.le_of_ble_eq_true rfl, Nat.le_of_ble_eq_true rfl⟩ rfl hl.1 rfl (Nat.le_of_ble_eq_true rfl) dX7_addShape_138 ⟨Nat.le_of_ble_eq_true rfl, Nat.le_of_ble_eq_true rfl⟩) (fun v14 H locs hf hw => ?_)
        refine lv_i2f hx hb dX7_addShape_141 ?_
        refine q_eV hf hw (fun τ h => q_rV (As := [.int ((12 : Int32) + v11), .float (FP.i2f v14)]) (rest := []) (q := (RX5, TX5, 8)) X hK hw rfl ho_u1 (rfl : vwCl[7]? = _) (kX5_write ho_u1 h) mvX5_write lk_X7_101 ⟨Nat.le_of_ble_eq_true rfl, Nat.le_of_ble_eq_true rfl⟩ rfl hl.1 rfl (Nat.le_of_ble_eq_true rfl) dX7_addShape_142 ⟨Nat.le_of_ble_eq_true rfl, Nat.le_of_ble_eq_true rfl⟩) (fun σ15 H locs hf hw => ?_)
        refine lv_aload hx hb dX7_addShape_145 (lv_at hl 2 rfl) ?_
        refine lv_bipush (v := 24) hx hb dX7_addShape_147 (by decide) ?_
        refine lv_iload hx hb dX7_addShape_149 (lv_at hl 0 rfl) ?_
        refine lv_iadd hx hb dX7_addShape_151 ?_
        refine lv_fload hx hb dX7_addShape_152 (lv_at hl 1 rfl) ?_
        refine q_eV hf hw (fun τ h => q_rV (As := [.int ((24 : Int32) + v11), .float v9]) (rest := []) (q := (RX5, TX5, 8)) X hK hw rfl ho_u1 (rfl : vwCl[7]? = _) (kX5_write ho_u1 h) mvX5_write lk_X7_101 ⟨Nat.le_of_ble_eq_true rfl, Nat.le_of_ble_eq_true rfl⟩ rfl hl.1 rfl (Nat.le_of_ble_eq_true rfl) dX7_addShape_154 ⟨Nat.le_of_ble_eq_true rfl, Nat.le_of_ble_eq_true rfl⟩) (fun σ16 H locs hf hw => ?_)
        refine lv_aload hx hb dX7_addShape_157 (lv_at hl 2 rfl) ?_
        refine q_eV hf hw (fun τ h => q_rV (As := []) (rest := []) (q := (RX5, TX5, 8)) X hK hw rfl ho_u1 (rfl : vwCl[7]? = _) (kX5_end ho_u1 h) mvX5_end lk_X7_109 ⟨Nat.le_of_ble_eq_true rfl, Nat.le_of_ble_eq_true rfl⟩ rfl hl.1 rfl (Nat.le_of_ble_eq_true rfl) dX7_addShape_159 ⟨Nat.le_of_ble_eq_true rfl, Nat.le_of_ble_eq_true rfl⟩) (fun σ17 H locs hf hw => ?_)
        refine lv_iload hx hb dX7_addShape_162 (lv_at hl 0 rfl) ?_
        exact q_xiret hf hx hb hr rfl hk hw dX7_addShape_164 (Nat.le_of_ble_eq_true rfl) (Nat.le_of_ble_eq_true rfl)
      refine lv_fconst0 hx hb dX7_addShape_82 ?_
      refine lv_goto (tgt := 96) hx hb dX7_addShape_83 (by decide) ?_
      refine lv_fstore (lv' := [(8, .float (0 : UInt32)), (7, .ref (ga Γ 4 u1)), (0, .ref (ga Γ 0 0)), (1, .int x1), (2, .int x2), (3, .int x3), (4, .int x4), (5, .int x5), (6, .int x6)]) hx hb dX7_addShape_96 hl (by decide) rfl (fun ls hl => ?_)
      refine lv_aload_n hx hb dX7_addShape_98 rfl (lv_at hl 2 rfl) ?_
      refine q_get (v := .ref (ga Γ 2 0)) hx hb hK hw hown in_X7 ins_X7 (rfl : vwCl[9]? = some (RX7, TX7, 5)) rfl (Nat.le_of_ble_eq_true rfl : 0 < cnt (gn Γ) 0) 1 (by decide) 325 fl_X7_19 rfl rfl dX7_addShape_99 ?_
      refine lv_iload hx hb dX7_addShape_102 (lv_at hl 6 rfl) ?_
      refine lv_iload hx hb dX7_addShape_104 (lv_at hl 7 rfl) ?_
      refine lv_iload hx hb dX7_addShape_106 (lv_at hl 8 rfl) ?_
      refine q_eI hf hw (fun v τ h => q_rV (As := [.int x4, .int x5, .int x6]) (rest := []) (q := (RX2, TX2, 9)) X hK hw rfl (Nat.le_of_ble_eq_true rfl : 0 < cnt (gn Γ) 2) (rfl : vwCl[4]? = _) (kX2_makeShape h) mvX2_makeShape lk_X7_93 ⟨Nat.le_of_ble_eq_true rfl, Nat.le_of_ble_eq_true rfl⟩ rfl hl.1 rfl (Nat.le_of_ble_eq_true rfl) dX7_addShape_108 ⟨Nat.le_of_ble_eq_true rfl, Nat.le_of_ble_eq_true rfl⟩) (fun v19 σ18 H locs hf hw => ?_)
      refine lv_istore (lv' := [(9, .int v19), (8, .float (0 : UInt32)), (7, .ref (ga Γ 4 u1)), (0, .ref (ga Γ 0 0)), (1, .int x1), (2, .int x2), (3, .int x3), (4, .int x4), (5, .int x5), (6, .int x6)]) hx hb dX7_addShape_111 hl (by decide) rfl (fun ls hl => ?_)
      refine lv_aload hx hb dX7_addShape_113 (lv_at hl 2 rfl) ?_
      refine lv_iconst (v := 1) hx hb dX7_addShape_115 (by decide) ?_
      refine q_eV hf hw (fun τ h => q_rV (As := [.int (1 : Int32)]) (rest := []) (q := (RX5, TX5, 8)) X hK hw rfl ho_u1 (rfl : vwCl[7]? = _) (kX5_begin ho_u1 h) mvX5_begin lk_X7_97 ⟨Nat.le_of_ble_eq_true rfl, Nat.le_of_ble_eq_true rfl⟩ rfl hl.1 rfl (Nat.le_of_ble_eq_true rfl) dX7_addShape_116 ⟨Nat.le_of_ble_eq_true rfl, Nat.le_of_ble_eq_true rfl⟩) (fun σ20 H locs hf hw => ?_)
      refine lv_aload hx hb dX7_addShape_119 (lv_at hl 2 rfl) ?_
      refine lv_iconst (v := 0) hx hb dX7_addShape_121 (by decide) ?_
      refine lv_iload hx hb dX7_addShape_122 (lv_at hl 0 rfl) ?_
      refine lv_iadd hx hb dX7_addShape_124 ?_
      refine lv_fconst1 hx hb dX7_addShape_125 ?_
      refine q_eV hf hw (fun τ h => q_rV (As := [.int ((0 : Int32) + v19), .float (1065353216 : UInt32)]) (rest := []) (q := (RX5, TX5, 8)) X hK hw rfl ho_u1 (rfl : vwCl[7]? = _) (kX5_write ho_u1 h) mvX5_write lk_X7_101 ⟨Nat.le_of_ble_eq_true rfl, Nat.le_of_ble_eq_true rfl⟩ rfl hl.1 rfl (Nat.le_of_ble_eq_true rfl) dX7_addShape_126 ⟨Nat.le_of_ble_eq_true rfl, Nat.le_of_ble_eq_true rfl⟩) (fun σ21 H locs hf hw => ?_)
      refine lv_aload hx hb dX7_addShape_129 (lv_at hl 2 rfl) ?_
      refine lv_bipush (v := 12) hx hb dX7_addShape_131 (by decide) ?_
      refine lv_iload hx hb dX7_addShape_133 (lv_at hl 0 rfl) ?_
      refine lv_iadd hx hb dX7_addShape_135 ?_
      refine lv_iload_n hx hb dX7_addShape_136 rfl (lv_at hl 5 rfl) ?_
      refine lv_iload_n hx hb dX7_addShape_137 rfl (lv_at hl 6 rfl) ?_
      refine q_pI hf hw (fun v h => q_rS (As := [.int x2, .int x3]) (rest := [.int ((12 : Int32) + v19), .ref (ga Γ 4 u1)]) X hK hw (kX7_cellAt h) msX7_cellAt lk_X7_105 ⟨Nat.le_of_ble_eq_true rfl, Nat.le_of_ble_eq_true rfl⟩ rfl hl.1 rfl (Nat.le_of_ble_eq_true rfl) dX7_addShape_138 ⟨Nat.le_of_ble_eq_true rfl, Nat.le_of_ble_eq_true rfl⟩) (fun v22 H locs hf hw => ?_)
      refine lv_i2f hx hb dX7_addShape_141 ?_
      refine q_eV hf hw (fun τ h => q_rV (As := [.int ((12 : Int32) + v19), .float (FP.i2f v22)]) (rest := []) (q := (RX5, TX5, 8)) X hK hw rfl ho_u1 (rfl : vwCl[7]? = _) (kX5_write ho_u1 h) mvX5_write lk_X7_101 ⟨Nat.le_of_ble_eq_true rfl, Nat.le_of_ble_eq_true rfl⟩ rfl hl.1 rfl (Nat.le_of_ble_eq_true rfl) dX7_addShape_142 ⟨Nat.le_of_ble_eq_true rfl, Nat.le_of_ble_eq_true rfl⟩) (fun σ23 H locs hf hw => ?_)
      refine lv_aload hx hb dX7_addShape_145 (lv_at hl 2 rfl) ?_
      refine lv_bipush (v := 24) hx hb dX7_addShape_147 (by decide) ?_
      refine lv_iload hx hb dX7_addShape_149 (lv_at hl 0 rfl) ?_
      refine lv_iadd hx hb dX7_addShape_151 ?_
      refine lv_fload hx hb dX7_addShape_152 (lv_at hl 1 rfl) ?_
      refine q_eV hf hw (fun τ h => q_rV (As := [.int ((24 : Int32) + v19), .float (0 : UInt32)]) (rest := []) (q := (RX5, TX5, 8)) X hK hw rfl ho_u1 (rfl : vwCl[7]? = _) (kX5_write ho_u1 h) mvX5_write lk_X7_101 ⟨Nat.le_of_ble_eq_true rfl, Nat.le_of_ble_eq_true rfl⟩ rfl hl.1 rfl (Nat.le_of_ble_eq_true rfl) dX7_addShape_154 ⟨Nat.le_of_ble_eq_true rfl, Nat.le_of_ble_eq_true rfl⟩) (fun σ24 H locs hf hw => ?_)
      refine lv_aload hx hb dX7_addShape_157 (lv_at hl 2 rfl) ?_
      refine q_eV hf hw (fun τ h => q_rV (As := []) (rest := []) (q := (RX5, TX5, 8)) X hK hw rfl ho_u1 (rfl : vwCl[7]? = _) (kX5_end ho_u1 h) mvX5_end lk_X7_109 ⟨Nat.le_of_ble_eq_true rfl, Nat.le_of_ble_eq_true rfl⟩ rfl hl.1 rfl (Nat.le_of_ble_eq_true rfl) dX7_addShape_159 ⟨Nat.le_of_ble_eq_true rfl, Nat.le_of_ble_eq_true rfl⟩) (fun σ25 H locs hf hw => ?_)
      refine lv_iload hx hb dX7_addShape_162 (lv_at hl 0 rfl) ?_
      exact q_xiret hf hx hb hr rfl hk hw dX7_addShape_164 (Nat.le_of_ble_eq_true rfl) (Nat.le_of_ble_eq_true rfl)
    exact q_thr (fun _ _ => rfl) hf hfl X hK hw hl.1 hk htab ax_IllegalStateException (List.mem_of_getElem? (i := 1) rfl) dX7_addShape_57 dX7_addShape_60 dX7_addShape_61 dX7_addShape_63 dX7_addShape_66 (Nat.le_of_ble_eq_true rfl) (Nat.le_of_ble_eq_true rfl) (Nat.le_of_ble_eq_true rfl) (Nat.le_of_ble_eq_true rfl) (Nat.le_of_ble_eq_true rfl) (Nat.le_of_ble_eq_true rfl)
  exact q_thr (fun _ _ => rfl) hf hfl X hK hw hl.1 hk htab ax_IllegalArgumentException (List.mem_of_getElem? (i := 0) rfl) dX7_addShape_35 dX7_addShape_38 dX7_addShape_39 dX7_addShape_41 dX7_addShape_44 (Nat.le_of_ble_eq_true rfl) (Nat.le_of_ble_eq_true rfl) (Nat.le_of_ble_eq_true rfl) (Nat.le_of_ble_eq_true rfl) (Nat.le_of_ble_eq_true rfl) (Nat.le_of_ble_eq_true rfl)
set_option maxRecDepth 100000 in
theorem kX7_needSeen {Γ : Gm} {l : Launch} (hfl : l.stackTraces = false) {N : Nat} {σ : St} {o1 : Nat} {x2 : Int32} {r : (Unit ⊕ String) × St} (ho1 : o1 < 3) (hf : fX7_needSeen N σ o1 x2 = some r) : CX Γ STR l yX7_needSeen cX7_needSeen 2 none 8 103 1 6 [.ref (ga Γ 4 o1), .int x2] (rsV r) σ := by
  unfold fX7_needSeen at hf
  refine cx_body (lv := [(0, .ref (ga Γ 4 o1)), (1, .int x2)]) (by decide +kernel) rfl (Nat.le_of_ble_eq_true rfl) ?_
  intro p e s m below meth c ls X hr hk hK hw hl htab
  have hx := X.1
  have hb := X.2.1
  have hown := X.2.2.2
  refine lv_aload_n hx hb dX7_needSeen_0 rfl (lv_at hl 0 rfl) ?_
  refine q_get (v := .ref (ga Γ 7 o1)) hx hb hK hw hown in_X5 ins_X5 (rfl : vwCl[7]? = some (RX5, TX5, 8)) rfl ho1 3 (by decide) 301 fl_X7_79 rfl rfl dX7_needSeen_1 ?_
  refine lv_iload_n hx hb dX7_needSeen_4 rfl (lv_at hl 1 rfl) ?_
  refine q_pI hf hw (fun v h => q_rV (As := [.int x2]) (rest := []) (q := (RX6, TX6, 2)) X hK hw rfl (Nat.lt_of_lt_of_le ho1 (Nat.le_of_ble_eq_true rfl : 3 ≤ cnt (gn Γ) 7)) (rfl : vwCl[8]? = _) (kX6_isSeen (Nat.lt_of_lt_of_le ho1 (Nat.le_of_ble_eq_true rfl : 3 ≤ cnt (gn Γ) 7)) h) mvX6_isSeen lk_X7_237 ⟨Nat.le_of_ble_eq_true rfl, Nat.le_of_ble_eq_true rfl⟩ rfl hl.1 rfl (Nat.le_of_ble_eq_true rfl) dX7_needSeen_5 ⟨Nat.le_of_ble_eq_true rfl, Nat.le_of_ble_eq_true rfl⟩) (fun v1 H locs hf hw => ?_)
  refine q_if_ne (tgt := 22) hx hb hf dX7_needSeen_8 (by decide) (fun hf => ?_) (fun hf => ?_)
  · exact q_xvret hx hb hr hk hw dX7_needSeen_22 hf (Nat.le_of_ble_eq_true rfl) (Nat.le_of_ble_eq_true rfl)
  exact q_thrNW (fun _ _ => rfl) hf hfl X hK hw hl.1 hk htab ax_NoSuchElementException (List.mem_of_getElem? (i := 22) rfl) dX7_needSeen_11 dX7_needSeen_14 dX7_needSeen_15 dX7_needSeen_18 dX7_needSeen_21 (Nat.le_of_ble_eq_true rfl) (Nat.le_of_ble_eq_true rfl) (Nat.le_of_ble_eq_true rfl) (Nat.le_of_ble_eq_true rfl) (Nat.le_of_ble_eq_true rfl) (Nat.le_of_ble_eq_true rfl)
set_option maxRecDepth 100000 in
theorem kX7_needChangeable {Γ : Gm} {l : Launch} (hfl : l.stackTraces = false) {N : Nat} {σ : St} {o1 : Nat} {x2 : Int32} {r : (Unit ⊕ String) × St} (ho1 : o1 < 3) (hf : fX7_needChangeable N σ o1 x2 = some r) : CX Γ STR l yX7_needChangeable cX7_needChangeable 2 none 9 124 2 12 [.ref (ga Γ 4 o1), .int x2] (rsV r) σ := by
  unfold fX7_needChangeable at hf
  refine cx_body (lv := [(0, .ref (ga Γ 4 o1)), (1, .int x2)]) (by decide +kernel) rfl (Nat.le_of_ble_eq_true rfl) ?_
  intro p e s m below meth c ls X hr hk hK hw hl htab
  have hx := X.1
  have hb := X.2.1
  have hown := X.2.2.2
  refine lv_aload_n hx hb dX7_needChangeable_0 rfl (lv_at hl 0 rfl) ?_
  refine lv_iload_n hx hb dX7_needChangeable_1 rfl (lv_at hl 1 rfl) ?_
  refine q_xV (fun _ _ => rfl) hf hw (fun u h => q_rxS (As := [.ref (ga Γ 4 o1), .int x2]) (rest := []) X hK hw (kX7_needSeen hfl ho1 h) msX7_needSeen lk_X7_141 ⟨Nat.le_of_ble_eq_true rfl, Nat.le_of_ble_eq_true rfl⟩ rfl hl.1 rfl (Nat.le_of_ble_eq_true rfl) dX7_needChangeable_2 ⟨Nat.le_of_ble_eq_true rfl, Nat.le_of_ble_eq_true rfl⟩) hk htab (Nat.le_of_ble_eq_true rfl) (Nat.le_of_ble_eq_true rfl) (fun _ σ1 H locs hf hw hq => ?_)
  refine lv_aload_n hx hb dX7_needChangeable_5 rfl (lv_at hl 0 rfl) ?_
  refine q_get (v := .ref (ga Γ 7 o1)) hx hb hK hw hown in_X5 ins_X5 (rfl : vwCl[7]? = some (RX5, TX5, 8)) rfl ho1 3 (by decide) 301 fl_X7_79 rfl rfl dX7_needChangeable_6 ?_
  refine lv_aload_n hx hb dX7_needChangeable_9 rfl (lv_at hl 0 rfl) ?_
  refine q_get (v := .int (nI o1)) hx hb hK hw hown in_X5 ins_X5 (rfl : vwCl[7]? = some (RX5, TX5, 8)) rfl ho1 0 (by decide) 296 fl_X7_363 rfl rfl dX7_needChangeable_10 ?_
  refine lv_iload_n hx hb dX7_needChangeable_13 rfl (lv_at hl 1 rfl) ?_
  refine q_pI hf hw (fun v h => q_rV (As := [.int (nI o1), .int x2]) (rest := []) (q := (RX6, TX6, 2)) X hK hw rfl (Nat.lt_of_lt_of_le ho1 (Nat.le_of_ble_eq_true rfl : 3 ≤ cnt (gn Γ) 7)) (rfl : vwCl[8]? = _) (kX6_isLockedByOther (Nat.lt_of_lt_of_le ho1 (Nat.le_of_ble_eq_true rfl : 3 ≤ cnt (gn Γ) 7)) h) mvX6_isLockedByOther lk_X7_366 ⟨Nat.le_of_ble_eq_true rfl, Nat.le_of_ble_eq_true rfl⟩ rfl hl.1 rfl (Nat.le_of_ble_eq_true rfl) dX7_needChangeable_14 ⟨Nat.le_of_ble_eq_true rfl, Nat.le_of_ble_eq_true rfl⟩) (fun v2 H locs hf hw => ?_)
  refine q_if_eq (tgt := 31) hx hb hf dX7_needChangeable_17 (by decide) (fun hf => ?_) (fun hf => ?_)
  · exact q_xvret hx hb hr hk hw dX7_needChangeable_31 hf (Nat.le_of_ble_eq_true rfl) (Nat.le_of_ble_eq_true rfl)
  exact q_thrW (fun _ _ => rfl) hf hfl X hK hw hl.1 hk htab ax_UnsupportedOperationException (List.mem_of_getElem? (i := 23) rfl) dX7_needChangeable_20 dX7_needChangeable_23 dX7_needChangeable_24 dX7_needChangeable_27 dX7_needChangeable_30 (Nat.le_of_ble_eq_true rfl) (Nat.le_of_ble_eq_true rfl) (Nat.le_of_ble_eq_true rfl) (Nat.le_of_ble_eq_true rfl) (Nat.le_of_ble_eq_true rfl) (Nat.le_of_ble_eq_true rfl)
set_option maxRecDepth 100000 in
theorem kX7_move {Γ : Gm} {l : Launch} (hfl : l.stackTraces = false) {N : Nat} {σ : St} {x1 : Int32} {x2 : Int32} {x3 : Int32} {x4 : Int32} {r : (Int32 ⊕ String) × St}  (hf : fX7_move N σ x1 x2 x3 x4 = some r) : CX Γ STR l yX7_move cX7_move 6 (some (.int)) 10 145 5 30 [.ref (ga Γ 0 0), .int x1, .int x2, .int x3, .int x4] (rsI r) σ := by
  unfold fX7_move at hf
  refine cx_body (lv := [(0, .ref (ga Γ 0 0)), (1, .int x1), (2, .int x2), (3, .int x3), (4, .int x4)]) (by decide +kernel) rfl (Nat.le_of_ble_eq_true rfl) ?_
  intro p e s m below meth c ls X hr hk hK hw hl htab
  have hx := X.1
  have hb := X.2.1
  have hown := X.2.2.2
  refine lv_aload_n hx hb dX7_move_0 rfl (lv_at hl 0 rfl) ?_
  refine lv_iload_n hx hb dX7_move_1 rfl (lv_at hl 1 rfl) ?_
  refine q_xR (k := 4) (fun _ _ => rfl) hf hw (fun u h => q_rxV (As := [.int x1]) (rest := []) (q := (RX7, TX7, 5)) X hK hw rfl (Nat.le_of_ble_eq_true rfl : 0 < cnt (gn Γ) 0) (rfl : vwCl[9]? = _) (kX7_needUser hfl h) mvX7_needUser lk_X7_48 ⟨Nat.le_of_ble_eq_true rfl, Nat.le_of_ble_eq_true rfl⟩ rfl hl.1 rfl (Nat.le_of_ble_eq_true rfl) dX7_move_2 ⟨Nat.le_of_ble_eq_true rfl, Nat.le_of_ble_eq_true rfl⟩) hk htab (Nat.le_of_ble_eq_true rfl) (Nat.le_of_ble_eq_true rfl) (fun u1 σ2 H locs hf hw hq => ?_)
  have ho_u1 : u1 < 3 := ltX7_needUser hq
  refine lv_astore (lv' := [(5, .ref (ga Γ 4 u1)), (0, .ref (ga Γ 0 0)), (1, .int x1), (2, .int x2), (3, .int x3), (4, .int x4)]) hx hb dX7_move_5 hl (by decide) rfl (fun ls hl => ?_)
  refine lv_aload_n hx hb dX7_move_7 rfl (lv_at hl 1 rfl) ?_
  refine q_get (v := .ref (ga Γ 2 0)) hx hb hK hw hown in_X7 ins_X7 (rfl : vwCl[9]? = some (RX7, TX7, 5)) rfl (Nat.le_of_ble_eq_true rfl : 0 < cnt (gn Γ) 0) 1 (by decide) 325 fl_X7_19 rfl rfl dX7_move_8 ?_
  refine lv_iload_n hx hb dX7_move_11 rfl (lv_at hl 3 rfl) ?_
  refine q_pI hf hw (fun v h => q_rV (As := [.int x2]) (rest := []) (q := (RX2, TX2, 9)) X hK hw rfl (Nat.le_of_ble_eq_true rfl : 0 < cnt (gn Γ) 2) (rfl : vwCl[4]? = _) (kX2_hasShape h) mvX2_hasShape lk_X7_112 ⟨Nat.le_of_ble_eq_true rfl, Nat.le_of_ble_eq_true rfl⟩ rfl hl.1 rfl (Nat.le_of_ble_eq_true rfl) dX7_move_12 ⟨Nat.le_of_ble_eq_true rfl, Nat.le_of_ble_eq_true rfl⟩) (fun v3 H locs hf hw => ?_)
  refine q_if_eq (tgt := 53) hx hb hf dX7_move_15 (by decide) (fun hf => ?_) (fun hf => ?_)
  · refine lv_aload hx hb dX7_move_53 (lv_at hl 0 rfl) ?_
    refine lv_iload_n hx hb dX7_move_55 rfl (lv_at hl 3 rfl) ?_
    refine q_xV (fun _ _ => rfl) hf hw (fun u h => q_rxS (As := [.ref (ga Γ 4 u1), .int x2]) (rest := []) X hK hw (kX7_needChangeable hfl ho_u1 h) msX7_needChangeable lk_X7_124 ⟨Nat.le_of_ble_eq_true rfl, Nat.le_of_ble_eq_true rfl⟩ rfl hl.1 rfl (Nat.le_of_ble_eq_true rfl) dX7_move_56 ⟨Nat.le_of_ble_eq_true rfl, Nat.le_of_ble_eq_true rfl⟩) hk htab (Nat.le_of_ble_eq_true rfl) (Nat.le_of_ble_eq_true rfl) (fun _ σ4 H locs hf hw hq => ?_)
    refine lv_aload_n hx hb dX7_move_59 rfl (lv_at hl 1 rfl) ?_
    refine q_xV (fun _ _ => rfl) hf hw (fun u h => q_rxV (As := []) (rest := []) (q := (RX7, TX7, 5)) X hK hw rfl (Nat.le_of_ble_eq_true rfl : 0 < cnt (gn Γ) 0) (rfl : vwCl[9]? = _) (kX7_needRoom hfl h) mvX7_needRoom lk_X7_76 ⟨Nat.le_of_ble_eq_true rfl, Nat.le_of_ble_eq_true rfl⟩ rfl hl.1 rfl (Nat.le_of_ble_eq_true rfl) dX7_move_60 ⟨Nat.le_of_ble_eq_true rfl, Nat.le_of_ble_eq_true rfl⟩) hk htab (Nat.le_of_ble_eq_true rfl) (Nat.le_of_ble_eq_true rfl) (fun _ σ5 H locs hf hw hq => ?_)
    refine lv_aload_n hx hb dX7_move_63 rfl (lv_at hl 1 rfl) ?_
    refine lv_aload hx hb dX7_move_64 (lv_at hl 0 rfl) ?_
    refine lv_iload_n hx hb dX7_move_66 rfl (lv_at hl 3 rfl) ?_
    refine lv_iload_n hx hb dX7_move_67 rfl (lv_at hl 4 rfl) ?_
    refine lv_iload hx hb dX7_move_68 (lv_at hl 5 rfl) ?_
    refine q_pI hf hw (fun v h => q_rS (As := [.int x3, .int x4]) (rest := [.int x2, .ref (ga Γ 4 u1), .ref (ga Γ 0 0)]) X hK hw (kX7_cellAt h) msX7_cellAt lk_X7_105 ⟨Nat.le_of_ble_eq_true rfl, Nat.le_of_ble_eq_true rfl⟩ rfl hl.1 rfl (Nat.le_of_ble_eq_true rfl) dX7_move_70 ⟨Nat.le_of_ble_eq_true rfl, Nat.le_of_ble_eq_true rfl⟩) (fun v6 H locs hf hw => ?_)
    refine q_eI hf hw (fun v τ h => q_rV (As := [.ref (ga Γ 4 u1), .int x2, .int v6]) (rest := []) (q := (RX7, TX7, 5)) X hK hw rfl (Nat.le_of_ble_eq_true rfl : 0 < cnt (gn Γ) 0) (rfl : vwCl[9]? = _) (kX7_carry ho_u1 h) mvX7_carry lk_X7_128 ⟨Nat.le_of_ble_eq_true rfl, Nat.le_of_ble_eq_true rfl⟩ rfl hl.1 rfl (Nat.le_of_ble_eq_true rfl) dX7_move_73 ⟨Nat.le_of_ble_eq_true rfl, Nat.le_of_ble_eq_true rfl⟩) (fun v8 σ7 H locs hf hw => ?_)
    exact q_xiret hf hx hb hr rfl hk hw dX7_move_76 (Nat.le_of_ble_eq_true rfl) (Nat.le_of_ble_eq_true rfl)
  refine lv_iload_n hx hb dX7_move_18 rfl (lv_at hl 4 rfl) ?_
  refine lv_iload hx hb dX7_move_19 (lv_at hl 5 rfl) ?_
  refine lv_aload_n hx hb dX7_move_21 rfl (lv_at hl 1 rfl) ?_
  refine q_get (v := .ref (ga Γ 2 0)) hx hb hK hw hown in_X7 ins_X7 (rfl : vwCl[9]? = some (RX7, TX7, 5)) rfl (Nat.le_of_ble_eq_true rfl : 0 < cnt (gn Γ) 0) 1 (by decide) 325 fl_X7_19 rfl rfl dX7_move_22 ?_
  refine lv_iload_n hx hb dX7_move_25 rfl (lv_at hl 3 rfl) ?_
  refine q_pI hf hw (fun v h => q_rV (As := [.int x2]) (rest := [.int x4, .int x3]) (q := (RX2, TX2, 9)) X hK hw rfl (Nat.le_of_ble_eq_true rfl : 0 < cnt (gn Γ) 2) (rfl : vwCl[4]? = _) (kX2_widthAt h) mvX2_widthAt lk_X7_115 ⟨Nat.le_of_ble_eq_true rfl, Nat.le_of_ble_eq_true rfl⟩ rfl hl.1 rfl (Nat.le_of_ble_eq_true rfl) dX7_move_26 ⟨Nat.le_of_ble_eq_true rfl, Nat.le_of_ble_eq_true rfl⟩) (fun v9 H locs hf hw => ?_)
  refine lv_aload_n hx hb dX7_move_29 rfl (lv_at hl 1 rfl) ?_
  refine q_get (v := .ref (ga Γ 2 0)) hx hb hK hw hown in_X7 ins_X7 (rfl : vwCl[9]? = some (RX7, TX7, 5)) rfl (Nat.le_of_ble_eq_true rfl : 0 < cnt (gn Γ) 0) 1 (by decide) 325 fl_X7_19 rfl rfl dX7_move_30 ?_
  refine lv_iload_n hx hb dX7_move_33 rfl (lv_at hl 3 rfl) ?_
  refine q_pI hf hw (fun v h => q_rV (As := [.int x2]) (rest := [.int v9, .int x4, .int x3]) (q := (RX2, TX2, 9)) X hK hw rfl (Nat.le_of_ble_eq_true rfl : 0 < cnt (gn Γ) 2) (rfl : vwCl[4]? = _) (kX2_heightAt h) mvX2_heightAt lk_X7_119 ⟨Nat.le_of_ble_eq_true rfl, Nat.le_of_ble_eq_true rfl⟩ rfl hl.1 rfl (Nat.le_of_ble_eq_true rfl) dX7_move_34 ⟨Nat.le_of_ble_eq_true rfl, Nat.le_of_ble_eq_true rfl⟩) (fun v10 H locs hf hw => ?_)
  refine q_pI hf hw (fun v h => q_rS (As := [.int x3, .int x4, .int v9, .int v10]) (rest := []) X hK hw (kX7_fits h) msX7_fits lk_X7_56 ⟨Nat.le_of_ble_eq_true rfl, Nat.le_of_ble_eq_true rfl⟩ rfl hl.1 rfl (Nat.le_of_ble_eq_true rfl) dX7_move_37 ⟨Nat.le_of_ble_eq_true rfl, Nat.le_of_ble_eq_true rfl⟩) (fun v11 H locs hf hw => ?_)
  refine q_if_ne (tgt := 53) hx hb hf dX7_move_40 (by decide) (fun hf => ?_) (fun hf => ?_)
  · refine lv_aload hx hb dX7_move_53 (lv_at hl 0 rfl) ?_
    refine lv_iload_n hx hb dX7_move_55 rfl (lv_at hl 3 rfl) ?_
    refine q_xV (fun _ _ => rfl) hf hw (fun u h => q_rxS (As := [.ref (ga Γ 4 u1), .int x2]) (rest := []) X hK hw (kX7_needChangeable hfl ho_u1 h) msX7_needChangeable lk_X7_124 ⟨Nat.le_of_ble_eq_true rfl, Nat.le_of_ble_eq_true rfl⟩ rfl hl.1 rfl (Nat.le_of_ble_eq_true rfl) dX7_move_56 ⟨Nat.le_of_ble_eq_true rfl, Nat.le_of_ble_eq_true rfl⟩) hk htab (Nat.le_of_ble_eq_true rfl) (Nat.le_of_ble_eq_true rfl) (fun _ σ12 H locs hf hw hq => ?_)
    refine lv_aload_n hx hb dX7_move_59 rfl (lv_at hl 1 rfl) ?_
    refine q_xV (fun _ _ => rfl) hf hw (fun u h => q_rxV (As := []) (rest := []) (q := (RX7, TX7, 5)) X hK hw rfl (Nat.le_of_ble_eq_true rfl : 0 < cnt (gn Γ) 0) (rfl : vwCl[9]? = _) (kX7_needRoom hfl h) mvX7_needRoom lk_X7_76 ⟨Nat.le_of_ble_eq_true rfl, Nat.le_of_ble_eq_true rfl⟩ rfl hl.1 rfl (Nat.le_of_ble_eq_true rfl) dX7_move_60 ⟨Nat.le_of_ble_eq_true rfl, Nat.le_of_ble_eq_true rfl⟩) hk htab (Nat.le_of_ble_eq_true rfl) (Nat.le_of_ble_eq_true rfl) (fun _ σ13 H locs hf hw hq => ?_)
    refine lv_aload_n hx hb dX7_move_63 rfl (lv_at hl 1 rfl) ?_
    refine lv_aload hx hb dX7_move_64 (lv_at hl 0 rfl) ?_
    refine lv_iload_n hx hb dX7_move_66 rfl (lv_at hl 3 rfl) ?_
    refine lv_iload_n hx hb dX7_move_67 rfl (lv_at hl 4 rfl) ?_
    refine lv_iload hx hb dX7_move_68 (lv_at hl 5 rfl) ?_
    refine q_pI hf hw (fun v h => q_rS (As := [.int x3, .int x4]) (rest := [.int x2, .ref (ga Γ 4 u1), .ref (ga Γ 0 0)]) X hK hw (kX7_cellAt h) msX7_cellAt lk_X7_105 ⟨Nat.le_of_ble_eq_true rfl, Nat.le_of_ble_eq_true rfl⟩ rfl hl.1 rfl (Nat.le_of_ble_eq_true rfl) dX7_move_70 ⟨Nat.le_of_ble_eq_true rfl, Nat.le_of_ble_eq_true rfl⟩) (fun v14 H locs hf hw => ?_)
    refine q_eI hf hw (fun v τ h => q_rV (As := [.ref (ga Γ 4 u1), .int x2, .int v14]) (rest := []) (q := (RX7, TX7, 5)) X hK hw rfl (Nat.le_of_ble_eq_true rfl : 0 < cnt (gn Γ) 0) (rfl : vwCl[9]? = _) (kX7_carry ho_u1 h) mvX7_carry lk_X7_128 ⟨Nat.le_of_ble_eq_true rfl, Nat.le_of_ble_eq_true rfl⟩ rfl hl.1 rfl (Nat.le_of_ble_eq_true rfl) dX7_move_73 ⟨Nat.le_of_ble_eq_true rfl, Nat.le_of_ble_eq_true rfl⟩) (fun v16 σ15 H locs hf hw => ?_)
    exact q_xiret hf hx hb hr rfl hk hw dX7_move_76 (Nat.le_of_ble_eq_true rfl) (Nat.le_of_ble_eq_true rfl)
  exact q_thr (fun _ _ => rfl) hf hfl X hK hw hl.1 hk htab ax_IllegalArgumentException (List.mem_of_getElem? (i := 2) rfl) dX7_move_43 dX7_move_46 dX7_move_47 dX7_move_49 dX7_move_52 (Nat.le_of_ble_eq_true rfl) (Nat.le_of_ble_eq_true rfl) (Nat.le_of_ble_eq_true rfl) (Nat.le_of_ble_eq_true rfl) (Nat.le_of_ble_eq_true rfl) (Nat.le_of_ble_eq_true rfl)
set_option maxRecDepth 100000 in
theorem kX7_raise {Γ : Gm} {l : Launch} (hfl : l.stackTraces = false) {N : Nat} {σ : St} {x1 : Int32} {x2 : Int32} {r : (Int32 ⊕ String) × St}  (hf : fX7_raise N σ x1 x2 = some r) : CX Γ STR l yX7_raise cX7_raise 4 (some (.int)) 10 145 4 24 [.ref (ga Γ 0 0), .int x1, .int x2] (rsI r) σ := by
  unfold fX7_raise at hf
  refine cx_body (lv := [(0, .ref (ga Γ 0 0)), (1, .int x1), (2, .int x2)]) (by decide +kernel) rfl (Nat.le_of_ble_eq_true rfl) ?_
  intro p e s m below meth c ls X hr hk hK hw hl htab
  have hx := X.1
  have hb := X.2.1
  have hown := X.2.2.2
  refine lv_aload_n hx hb dX7_raise_0 rfl (lv_at hl 0 rfl) ?_
  refine lv_iload_n hx hb dX7_raise_1 rfl (lv_at hl 1 rfl) ?_
  refine q_xR (k := 4) (fun _ _ => rfl) hf hw (fun u h => q_rxV (As := [.int x1]) (rest := []) (q := (RX7, TX7, 5)) X hK hw rfl (Nat.le_of_ble_eq_true rfl : 0 < cnt (gn Γ) 0) (rfl : vwCl[9]? = _) (kX7_needUser hfl h) mvX7_needUser lk_X7_48 ⟨Nat.le_of_ble_eq_true rfl, Nat.le_of_ble_eq_true rfl⟩ rfl hl.1 rfl (Nat.le_of_ble_eq_true rfl) dX7_raise_2 ⟨Nat.le_of_ble_eq_true rfl, Nat.le_of_ble_eq_true rfl⟩) hk htab (Nat.le_of_ble_eq_true rfl) (Nat.le_of_ble_eq_true rfl) (fun u1 σ2 H locs hf hw hq => ?_)
  have ho_u1 : u1 < 3 := ltX7_needUser hq
  refine lv_astore_n (lv' := [(3, .ref (ga Γ 4 u1)), (0, .ref (ga Γ 0 0)), (1, .int x1), (2, .int x2)]) hx hb dX7_raise_5 rfl hl (by decide) rfl (fun ls hl => ?_)
  refine lv_aload_n hx hb dX7_raise_6 rfl (lv_at hl 0 rfl) ?_
  refine lv_iload_n hx hb dX7_raise_7 rfl (lv_at hl 3 rfl) ?_
  refine q_xV (fun _ _ => rfl) hf hw (fun u h => q_rxS (As := [.ref (ga Γ 4 u1), .int x2]) (rest := []) X hK hw (kX7_needChangeable hfl ho_u1 h) msX7_needChangeable lk_X7_124 ⟨Nat.le_of_ble_eq_true rfl, Nat.le_of_ble_eq_true rfl⟩ rfl hl.1 rfl (Nat.le_of_ble_eq_true rfl) dX7_raise_8 ⟨Nat.le_of_ble_eq_true rfl, Nat.le_of_ble_eq_true rfl⟩) hk htab (Nat.le_of_ble_eq_true rfl) (Nat.le_of_ble_eq_true rfl) (fun _ σ3 H locs hf hw hq => ?_)
  refine lv_aload_n hx hb dX7_raise_11 rfl (lv_at hl 1 rfl) ?_
  refine q_xV (fun _ _ => rfl) hf hw (fun u h => q_rxV (As := []) (rest := []) (q := (RX7, TX7, 5)) X hK hw rfl (Nat.le_of_ble_eq_true rfl : 0 < cnt (gn Γ) 0) (rfl : vwCl[9]? = _) (kX7_needRoom hfl h) mvX7_needRoom lk_X7_76 ⟨Nat.le_of_ble_eq_true rfl, Nat.le_of_ble_eq_true rfl⟩ rfl hl.1 rfl (Nat.le_of_ble_eq_true rfl) dX7_raise_12 ⟨Nat.le_of_ble_eq_true rfl, Nat.le_of_ble_eq_true rfl⟩) hk htab (Nat.le_of_ble_eq_true rfl) (Nat.le_of_ble_eq_true rfl) (fun _ σ4 H locs hf hw hq => ?_)
  refine lv_aload_n hx hb dX7_raise_15 rfl (lv_at hl 0 rfl) ?_
  refine lv_iload_n hx hb dX7_raise_16 rfl (lv_at hl 3 rfl) ?_
  refine lv_aload_n hx hb dX7_raise_17 rfl (lv_at hl 0 rfl) ?_
  refine q_get (v := .ref (ga Γ 7 u1)) hx hb hK hw hown in_X5 ins_X5 (rfl : vwCl[7]? = some (RX5, TX5, 8)) rfl ho_u1 3 (by decide) 301 fl_X7_79 rfl rfl dX7_raise_18 ?_
  refine q_pF hf hw (fun v h => q_rV (As := []) (rest := [.int x2, .ref (ga Γ 4 u1)]) (q := (RX6, TX6, 2)) X hK hw rfl (Nat.lt_of_lt_of_le ho_u1 (Nat.le_of_ble_eq_true rfl : 3 ≤ cnt (gn Γ) 7)) (rfl : vwCl[8]? = _) (kX6_greatestKey (Nat.lt_of_lt_of_le ho_u1 (Nat.le_of_ble_eq_true rfl : 3 ≤ cnt (gn Γ) 7)) h) mvX6_greatestKey lk_X7_89 ⟨Nat.le_of_ble_eq_true rfl, Nat.le_of_ble_eq_true rfl⟩ rfl hl.1 rfl (Nat.le_of_ble_eq_true rfl) dX7_raise_21 ⟨Nat.le_of_ble_eq_true rfl, Nat.le_of_ble_eq_true rfl⟩) (fun v5 H locs hf hw => ?_)
  refine lv_fconst1 hx hb dX7_raise_24 ?_
  refine q_fadd hx hb hf dX7_raise_25 (fun hf => ?_)
  refine q_eI hf hw (fun v τ h => q_rS (As := [.ref (ga Γ 4 u1), .int x2, .float (FP.fadd v5 (1065353216 : UInt32))]) (rest := []) X hK hw (kX7_giveKey ho_u1 h) msX7_giveKey lk_X7_132 ⟨Nat.le_of_ble_eq_true rfl, Nat.le_of_ble_eq_true rfl⟩ rfl hl.1 rfl (Nat.le_of_ble_eq_true rfl) dX7_raise_26 ⟨Nat.le_of_ble_eq_true rfl, Nat.le_of_ble_eq_true rfl⟩) (fun v7 σ6 H locs hf hw => ?_)
  exact q_xiret hf hx hb hr rfl hk hw dX7_raise_29 (Nat.le_of_ble_eq_true rfl) (Nat.le_of_ble_eq_true rfl)
set_option maxRecDepth 100000 in
theorem kX7_lower {Γ : Gm} {l : Launch} (hfl : l.stackTraces = false) {N : Nat} {σ : St} {x1 : Int32} {x2 : Int32} {r : (Int32 ⊕ String) × St}  (hf : fX7_lower N σ x1 x2 = some r) : CX Γ STR l yX7_lower cX7_lower 4 (some (.int)) 10 145 4 24 [.ref (ga Γ 0 0), .int x1, .int x2] (rsI r) σ := by
  unfold fX7_lower at hf
  refine cx_body (lv := [(0, .ref (ga Γ 0 0)), (1, .int x1), (2, .int x2)]) (by decide +kernel) rfl (Nat.le_of_ble_eq_true rfl) ?_
  intro p e s m below meth c ls X hr hk hK hw hl htab
  have hx := X.1
  have hb := X.2.1
  have hown := X.2.2.2
  refine lv_aload_n hx hb dX7_lower_0 rfl (lv_at hl 0 rfl) ?_
  refine lv_iload_n hx hb dX7_lower_1 rfl (lv_at hl 1 rfl) ?_
  refine q_xR (k := 4) (fun _ _ => rfl) hf hw (fun u h => q_rxV (As := [.int x1]) (rest := []) (q := (RX7, TX7, 5)) X hK hw rfl (Nat.le_of_ble_eq_true rfl : 0 < cnt (gn Γ) 0) (rfl : vwCl[9]? = _) (kX7_needUser hfl h) mvX7_needUser lk_X7_48 ⟨Nat.le_of_ble_eq_true rfl, Nat.le_of_ble_eq_true rfl⟩ rfl hl.1 rfl (Nat.le_of_ble_eq_true rfl) dX7_lower_2 ⟨Nat.le_of_ble_eq_true rfl, Nat.le_of_ble_eq_true rfl⟩) hk htab (Nat.le_of_ble_eq_true rfl) (Nat.le_of_ble_eq_true rfl) (fun u1 σ2 H locs hf hw hq => ?_)
  have ho_u1 : u1 < 3 := ltX7_needUser hq
  refine lv_astore_n (lv' := [(3, .ref (ga Γ 4 u1)), (0, .ref (ga Γ 0 0)), (1, .int x1), (2, .int x2)]) hx hb dX7_lower_5 rfl hl (by decide) rfl (fun ls hl => ?_)
  refine lv_aload_n hx hb dX7_lower_6 rfl (lv_at hl 0 rfl) ?_
  refine lv_iload_n hx hb dX7_lower_7 rfl (lv_at hl 3 rfl) ?_
  refine q_xV (fun _ _ => rfl) hf hw (fun u h => q_rxS (As := [.ref (ga Γ 4 u1), .int x2]) (rest := []) X hK hw (kX7_needChangeable hfl ho_u1 h) msX7_needChangeable lk_X7_124 ⟨Nat.le_of_ble_eq_true rfl, Nat.le_of_ble_eq_true rfl⟩ rfl hl.1 rfl (Nat.le_of_ble_eq_true rfl) dX7_lower_8 ⟨Nat.le_of_ble_eq_true rfl, Nat.le_of_ble_eq_true rfl⟩) hk htab (Nat.le_of_ble_eq_true rfl) (Nat.le_of_ble_eq_true rfl) (fun _ σ3 H locs hf hw hq => ?_)
  refine lv_aload_n hx hb dX7_lower_11 rfl (lv_at hl 1 rfl) ?_
  refine q_xV (fun _ _ => rfl) hf hw (fun u h => q_rxV (As := []) (rest := []) (q := (RX7, TX7, 5)) X hK hw rfl (Nat.le_of_ble_eq_true rfl : 0 < cnt (gn Γ) 0) (rfl : vwCl[9]? = _) (kX7_needRoom hfl h) mvX7_needRoom lk_X7_76 ⟨Nat.le_of_ble_eq_true rfl, Nat.le_of_ble_eq_true rfl⟩ rfl hl.1 rfl (Nat.le_of_ble_eq_true rfl) dX7_lower_12 ⟨Nat.le_of_ble_eq_true rfl, Nat.le_of_ble_eq_true rfl⟩) hk htab (Nat.le_of_ble_eq_true rfl) (Nat.le_of_ble_eq_true rfl) (fun _ σ4 H locs hf hw hq => ?_)
  refine lv_aload_n hx hb dX7_lower_15 rfl (lv_at hl 0 rfl) ?_
  refine lv_iload_n hx hb dX7_lower_16 rfl (lv_at hl 3 rfl) ?_
  refine lv_aload_n hx hb dX7_lower_17 rfl (lv_at hl 0 rfl) ?_
  refine q_get (v := .ref (ga Γ 7 u1)) hx hb hK hw hown in_X5 ins_X5 (rfl : vwCl[7]? = some (RX5, TX5, 8)) rfl ho_u1 3 (by decide) 301 fl_X7_79 rfl rfl dX7_lower_18 ?_
  refine q_pF hf hw (fun v h => q_rV (As := []) (rest := [.int x2, .ref (ga Γ 4 u1)]) (q := (RX6, TX6, 2)) X hK hw rfl (Nat.lt_of_lt_of_le ho_u1 (Nat.le_of_ble_eq_true rfl : 3 ≤ cnt (gn Γ) 7)) (rfl : vwCl[8]? = _) (kX6_lowestKey (Nat.lt_of_lt_of_le ho_u1 (Nat.le_of_ble_eq_true rfl : 3 ≤ cnt (gn Γ) 7)) h) mvX6_lowestKey lk_X7_136 ⟨Nat.le_of_ble_eq_true rfl, Nat.le_of_ble_eq_true rfl⟩ rfl hl.1 rfl (Nat.le_of_ble_eq_true rfl) dX7_lower_21 ⟨Nat.le_of_ble_eq_true rfl, Nat.le_of_ble_eq_true rfl⟩) (fun v5 H locs hf hw => ?_)
  refine lv_fconst1 hx hb dX7_lower_24 ?_
  refine q_fsub hx hb hf dX7_lower_25 (fun hf => ?_)
  refine q_eI hf hw (fun v τ h => q_rS (As := [.ref (ga Γ 4 u1), .int x2, .float (FP.fsub v5 (1065353216 : UInt32))]) (rest := []) X hK hw (kX7_giveKey ho_u1 h) msX7_giveKey lk_X7_132 ⟨Nat.le_of_ble_eq_true rfl, Nat.le_of_ble_eq_true rfl⟩ rfl hl.1 rfl (Nat.le_of_ble_eq_true rfl) dX7_lower_26 ⟨Nat.le_of_ble_eq_true rfl, Nat.le_of_ble_eq_true rfl⟩) (fun v7 σ6 H locs hf hw => ?_)
  exact q_xiret hf hx hb hr rfl hk hw dX7_lower_29 (Nat.le_of_ble_eq_true rfl) (Nat.le_of_ble_eq_true rfl)
set_option maxRecDepth 100000 in
theorem kX7_keyAbove {Γ : Gm} {l : Launch} (hfl : l.stackTraces = false) {N : Nat} {σ : St} {o1 : Nat} {x2 : Int32} {r : (UInt32 ⊕ String) × St} (ho1 : o1 < 4) (hf : fX7_keyAbove N σ o1 x2 = some r) : CX Γ STR l yX7_keyAbove cX7_keyAbove 6 (some (.float)) 8 103 1 6 [.ref (ga Γ 7 o1), .int x2] (rsF r) σ := by
  unfold fX7_keyAbove at hf
  refine cx_body (lv := [(0, .ref (ga Γ 7 o1)), (1, .int x2)]) (by decide +kernel) rfl (Nat.le_of_ble_eq_true rfl) ?_
  intro p e s m below meth c ls X hr hk hK hw hl htab
  have hx := X.1
  have hb := X.2.1
  have hown := X.2.2.2
  refine lv_aload_n hx hb dX7_keyAbove_0 rfl (lv_at hl 0 rfl) ?_
  refine lv_iload_n hx hb dX7_keyAbove_1 rfl (lv_at hl 1 rfl) ?_
  refine q_pF hf hw (fun v h => q_rV (As := [.int x2]) (rest := []) (q := (RX6, TX6, 2)) X hK hw rfl ho1 (rfl : vwCl[8]? = _) (kX6_keyAt ho1 h) mvX6_keyAt lk_X7_261 ⟨Nat.le_of_ble_eq_true rfl, Nat.le_of_ble_eq_true rfl⟩ rfl hl.1 rfl (Nat.le_of_ble_eq_true rfl) dX7_keyAbove_2 ⟨Nat.le_of_ble_eq_true rfl, Nat.le_of_ble_eq_true rfl⟩) (fun v1 H locs hf hw => ?_)
  refine lv_fstore_n (lv' := [(2, .float v1), (0, .ref (ga Γ 7 o1)), (1, .int x2)]) hx hb dX7_keyAbove_5 rfl hl (by decide) rfl (fun ls hl => ?_)
  refine lv_aload_n hx hb dX7_keyAbove_6 rfl (lv_at hl 1 rfl) ?_
  refine lv_fload_n hx hb dX7_keyAbove_7 rfl (lv_at hl 0 rfl) ?_
  refine q_pI hf hw (fun v h => q_rV (As := [.float v1]) (rest := []) (q := (RX6, TX6, 2)) X hK hw rfl ho1 (rfl : vwCl[8]? = _) (kX6_nextAbove ho1 h) mvX6_nextAbove lk_X7_378 ⟨Nat.le_of_ble_eq_true rfl, Nat.le_of_ble_eq_true rfl⟩ rfl hl.1 rfl (Nat.le_of_ble_eq_true rfl) dX7_keyAbove_8 ⟨Nat.le_of_ble_eq_true rfl, Nat.le_of_ble_eq_true rfl⟩) (fun v2 H locs hf hw => ?_)
  refine lv_istore_n (lv' := [(3, .int v2), (2, .float v1), (0, .ref (ga Γ 7 o1)), (1, .int x2)]) hx hb dX7_keyAbove_11 rfl hl (by decide) rfl (fun ls hl => ?_)
  refine lv_iload_n hx hb dX7_keyAbove_12 rfl (lv_at hl 0 rfl) ?_
  refine lv_iconst (v := (-1)) hx hb dX7_keyAbove_13 (by decide) ?_
  refine q_ic_ne (tgt := 21) hx hb hf dX7_keyAbove_14 (by decide) (fun hf => ?_) (fun hf => ?_)
  · refine lv_aload_n hx hb dX7_keyAbove_21 rfl (lv_at hl 2 rfl) ?_
    refine lv_iload_n hx hb dX7_keyAbove_22 rfl (lv_at hl 0 rfl) ?_
    refine q_pF hf hw (fun v h => q_rV (As := [.int v2]) (rest := []) (q := (RX6, TX6, 2)) X hK hw rfl ho1 (rfl : vwCl[8]? = _) (kX6_keyAt ho1 h) mvX6_keyAt lk_X7_261 ⟨Nat.le_of_ble_eq_true rfl, Nat.le_of_ble_eq_true rfl⟩ rfl hl.1 rfl (Nat.le_of_ble_eq_true rfl) dX7_keyAbove_23 ⟨Nat.le_of_ble_eq_true rfl, Nat.le_of_ble_eq_true rfl⟩) (fun v3 H locs hf hw => ?_)
    refine lv_fstore (lv' := [(4, .float v3), (3, .int v2), (2, .float v1), (0, .ref (ga Γ 7 o1)), (1, .int x2)]) hx hb dX7_keyAbove_26 hl (by decide) rfl (fun ls hl => ?_)
    refine lv_fload_n hx hb dX7_keyAbove_28 rfl (lv_at hl 2 rfl) ?_
    refine lv_fload hx hb dX7_keyAbove_29 (lv_at hl 0 rfl) ?_
    refine q_fadd hx hb hf dX7_keyAbove_31 (fun hf => ?_)
    refine lv_fconst2 hx hb dX7_keyAbove_32 ?_
    refine q_fdiv hx hb hf dX7_keyAbove_33 (fun hf => ?_)
    refine q_fstore (lv1 := [(4, .float v3), (3, .int v2), (2, .float v1), (0, .ref (ga Γ 7 o1)), (1, .int x2)]) hx hb hf dX7_keyAbove_34 hl (by decide) rfl (fun v4 ls hf hl => ?_)
    refine lv_fload hx hb dX7_keyAbove_36 (lv_at hl 0 rfl) ?_
    refine lv_fload_n hx hb dX7_keyAbove_38 rfl (lv_at hl 3 rfl) ?_
    refine lv_fcmp hx hb dX7_keyAbove_39 ?_
    refine q_if_eq (tgt := 51) hx hb hf dX7_keyAbove_40 (by decide) (fun hf => ?_) (fun hf => ?_)
    · exact q_thrW (fun _ _ => rfl) hf hfl X hK hw hl.1 hk htab ax_UnsupportedOperationException (List.mem_of_getElem? (i := 27) rfl) dX7_keyAbove_51 dX7_keyAbove_54 dX7_keyAbove_55 dX7_keyAbove_58 dX7_keyAbove_61 (Nat.le_of_ble_eq_true rfl) (Nat.le_of_ble_eq_true rfl) (Nat.le_of_ble_eq_true rfl) (Nat.le_of_ble_eq_true rfl) (Nat.le_of_ble_eq_true rfl) (Nat.le_of_ble_eq_true rfl)
    refine lv_fload hx hb dX7_keyAbove_43 (lv_at hl 0 rfl) ?_
    refine lv_fload hx hb dX7_keyAbove_45 (lv_at hl 1 rfl) ?_
    refine lv_fcmp hx hb dX7_keyAbove_47 ?_
    refine q_if_ne (tgt := 62) hx hb hf dX7_keyAbove_48 (by decide) (fun hf => ?_) (fun hf => ?_)
    · refine lv_fload hx hb dX7_keyAbove_62 (lv_at hl 0 rfl) ?_
      exact q_xfret hf hx hb hr hk hw dX7_keyAbove_64 (Nat.le_of_ble_eq_true rfl) (Nat.le_of_ble_eq_true rfl)
    exact q_thrW (fun _ _ => rfl) hf hfl X hK hw hl.1 hk htab ax_UnsupportedOperationException (List.mem_of_getElem? (i := 27) rfl) dX7_keyAbove_51 dX7_keyAbove_54 dX7_keyAbove_55 dX7_keyAbove_58 dX7_keyAbove_61 (Nat.le_of_ble_eq_true rfl) (Nat.le_of_ble_eq_true rfl) (Nat.le_of_ble_eq_true rfl) (Nat.le_of_ble_eq_true rfl) (Nat.le_of_ble_eq_true rfl) (Nat.le_of_ble_eq_true rfl)
  refine lv_fload_n hx hb dX7_keyAbove_17 rfl (lv_at hl 1 rfl) ?_
  refine lv_fconst1 hx hb dX7_keyAbove_18 ?_
  refine q_fadd hx hb hf dX7_keyAbove_19 (fun hf => ?_)
  exact q_xfret hf hx hb hr hk hw dX7_keyAbove_20 (Nat.le_of_ble_eq_true rfl) (Nat.le_of_ble_eq_true rfl)
set_option maxRecDepth 100000 in
theorem kX7_putAbove {Γ : Gm} {l : Launch} (hfl : l.stackTraces = false) {N : Nat} {σ : St} {x1 : Int32} {x2 : Int32} {x3 : Int32} {r : (Int32 ⊕ String) × St}  (hf : fX7_putAbove N σ x1 x2 x3 = some r) : CX Γ STR l yX7_putAbove cX7_putAbove 6 (some (.int)) 10 145 7 42 [.ref (ga Γ 0 0), .int x1, .int x2, .int x3] (rsI r) σ := by
  unfold fX7_putAbove at hf
  refine cx_body (lv := [(0, .ref (ga Γ 0 0)), (1, .int x1), (2, .int x2), (3, .int x3)]) (by decide +kernel) rfl (Nat.le_of_ble_eq_true rfl) ?_
  intro p e s m below meth c ls X hr hk hK hw hl htab
  have hx := X.1
  have hb := X.2.1
  have hown := X.2.2.2
  refine lv_aload_n hx hb dX7_putAbove_0 rfl (lv_at hl 0 rfl) ?_
  refine lv_iload_n hx hb dX7_putAbove_1 rfl (lv_at hl 1 rfl) ?_
  refine q_xR (k := 4) (fun _ _ => rfl) hf hw (fun u h => q_rxV (As := [.int x1]) (rest := []) (q := (RX7, TX7, 5)) X hK hw rfl (Nat.le_of_ble_eq_true rfl : 0 < cnt (gn Γ) 0) (rfl : vwCl[9]? = _) (kX7_needUser hfl h) mvX7_needUser lk_X7_48 ⟨Nat.le_of_ble_eq_true rfl, Nat.le_of_ble_eq_true rfl⟩ rfl hl.1 rfl (Nat.le_of_ble_eq_true rfl) dX7_putAbove_2 ⟨Nat.le_of_ble_eq_true rfl, Nat.le_of_ble_eq_true rfl⟩) hk htab (Nat.le_of_ble_eq_true rfl) (Nat.le_of_ble_eq_true rfl) (fun u1 σ2 H locs hf hw hq => ?_)
  have ho_u1 : u1 < 3 := ltX7_needUser hq
  refine lv_astore (lv' := [(4, .ref (ga Γ 4 u1)), (0, .ref (ga Γ 0 0)), (1, .int x1), (2, .int x2), (3, .int x3)]) hx hb dX7_putAbove_5 hl (by decide) rfl (fun ls hl => ?_)
  refine lv_iload_n hx hb dX7_putAbove_7 rfl (lv_at hl 3 rfl) ?_
  refine lv_iload_n hx hb dX7_putAbove_8 rfl (lv_at hl 4 rfl) ?_
  refine q_ic_ne (tgt := 22) hx hb hf dX7_putAbove_9 (by decide) (fun hf => ?_) (fun hf => ?_)
  · refine lv_aload hx hb dX7_putAbove_22 (lv_at hl 0 rfl) ?_
    refine lv_iload_n hx hb dX7_putAbove_24 rfl (lv_at hl 4 rfl) ?_
    refine q_xV (fun _ _ => rfl) hf hw (fun u h => q_rxS (As := [.ref (ga Γ 4 u1), .int x3]) (rest := []) X hK hw (kX7_needSeen hfl ho_u1 h) msX7_needSeen lk_X7_141 ⟨Nat.le_of_ble_eq_true rfl, Nat.le_of_ble_eq_true rfl⟩ rfl hl.1 rfl (Nat.le_of_ble_eq_true rfl) dX7_putAbove_25 ⟨Nat.le_of_ble_eq_true rfl, Nat.le_of_ble_eq_true rfl⟩) hk htab (Nat.le_of_ble_eq_true rfl) (Nat.le_of_ble_eq_true rfl) (fun _ σ3 H locs hf hw hq => ?_)
    refine lv_aload hx hb dX7_putAbove_28 (lv_at hl 0 rfl) ?_
    refine lv_iload_n hx hb dX7_putAbove_30 rfl (lv_at hl 3 rfl) ?_
    refine q_xV (fun _ _ => rfl) hf hw (fun u h => q_rxS (As := [.ref (ga Γ 4 u1), .int x2]) (rest := []) X hK hw (kX7_needChangeable hfl ho_u1 h) msX7_needChangeable lk_X7_124 ⟨Nat.le_of_ble_eq_true rfl, Nat.le_of_ble_eq_true rfl⟩ rfl hl.1 rfl (Nat.le_of_ble_eq_true rfl) dX7_putAbove_31 ⟨Nat.le_of_ble_eq_true rfl, Nat.le_of_ble_eq_true rfl⟩) hk htab (Nat.le_of_ble_eq_true rfl) (Nat.le_of_ble_eq_true rfl) (fun _ σ4 H locs hf hw hq => ?_)
    refine lv_aload hx hb dX7_putAbove_34 (lv_at hl 0 rfl) ?_
    refine q_get (v := .ref (ga Γ 7 u1)) hx hb hK hw hown in_X5 ins_X5 (rfl : vwCl[7]? = some (RX5, TX5, 8)) rfl ho_u1 3 (by decide) 301 fl_X7_79 rfl rfl dX7_putAbove_36 ?_
    refine lv_iload_n hx hb dX7_putAbove_39 rfl (lv_at hl 4 rfl) ?_
    refine q_xF (fun _ _ => rfl) hf hw (fun u h => q_rxS (As := [.ref (ga Γ 7 u1), .int x3]) (rest := []) X hK hw (kX7_keyAbove hfl (Nat.lt_of_lt_of_le ho_u1 (Nat.le_of_ble_eq_true rfl : 3 ≤ cnt (gn Γ) 7)) h) msX7_keyAbove lk_X7_144 ⟨Nat.le_of_ble_eq_true rfl, Nat.le_of_ble_eq_true rfl⟩ rfl hl.1 rfl (Nat.le_of_ble_eq_true rfl) dX7_putAbove_40 ⟨Nat.le_of_ble_eq_true rfl, Nat.le_of_ble_eq_true rfl⟩) hk htab (Nat.le_of_ble_eq_true rfl) (Nat.le_of_ble_eq_true rfl) (fun v5 σ6 H locs hf hw hq => ?_)
    refine lv_fstore (lv' := [(5, .float v5), (4, .ref (ga Γ 4 u1)), (0, .ref (ga Γ 0 0)), (1, .int x1), (2, .int x2), (3, .int x3)]) hx hb dX7_putAbove_43 hl (by decide) rfl (fun ls hl => ?_)
    refine lv_aload_n hx hb dX7_putAbove_45 rfl (lv_at hl 2 rfl) ?_
    refine q_xV (fun _ _ => rfl) hf hw (fun u h => q_rxV (As := []) (rest := []) (q := (RX7, TX7, 5)) X hK hw rfl (Nat.le_of_ble_eq_true rfl : 0 < cnt (gn Γ) 0) (rfl : vwCl[9]? = _) (kX7_needRoom hfl h) mvX7_needRoom lk_X7_76 ⟨Nat.le_of_ble_eq_true rfl, Nat.le_of_ble_eq_true rfl⟩ rfl hl.1 rfl (Nat.le_of_ble_eq_true rfl) dX7_putAbove_46 ⟨Nat.le_of_ble_eq_true rfl, Nat.le_of_ble_eq_true rfl⟩) hk htab (Nat.le_of_ble_eq_true rfl) (Nat.le_of_ble_eq_true rfl) (fun _ σ7 H locs hf hw hq => ?_)
    refine lv_aload hx hb dX7_putAbove_49 (lv_at hl 1 rfl) ?_
    refine lv_iload_n hx hb dX7_putAbove_51 rfl (lv_at hl 4 rfl) ?_
    refine lv_fload hx hb dX7_putAbove_52 (lv_at hl 0 rfl) ?_
    refine q_eI hf hw (fun v τ h => q_rS (As := [.ref (ga Γ 4 u1), .int x2, .float v5]) (rest := []) X hK hw (kX7_giveKey ho_u1 h) msX7_giveKey lk_X7_132 ⟨Nat.le_of_ble_eq_true rfl, Nat.le_of_ble_eq_true rfl⟩ rfl hl.1 rfl (Nat.le_of_ble_eq_true rfl) dX7_putAbove_54 ⟨Nat.le_of_ble_eq_true rfl, Nat.le_of_ble_eq_true rfl⟩) (fun v9 σ8 H locs hf hw => ?_)
    exact q_xiret hf hx hb hr rfl hk hw dX7_putAbove_57 (Nat.le_of_ble_eq_true rfl) (Nat.le_of_ble_eq_true rfl)
  exact q_thr (fun _ _ => rfl) hf hfl X hK hw hl.1 hk htab ax_IllegalArgumentException (List.mem_of_getElem? (i := 3) rfl) dX7_putAbove_12 dX7_putAbove_15 dX7_putAbove_16 dX7_putAbove_18 dX7_putAbove_21 (Nat.le_of_ble_eq_true rfl) (Nat.le_of_ble_eq_true rfl) (Nat.le_of_ble_eq_true rfl) (Nat.le_of_ble_eq_true rfl) (Nat.le_of_ble_eq_true rfl) (Nat.le_of_ble_eq_true rfl)
set_option maxRecDepth 100000 in
theorem kX7_remove {Γ : Gm} {l : Launch} (hfl : l.stackTraces = false) {N : Nat} {σ : St} {x1 : Int32} {x2 : Int32} {r : (Int32 ⊕ String) × St}  (hf : fX7_remove N σ x1 x2 = some r) : CX Γ STR l yX7_remove cX7_remove 4 (some (.int)) 10 145 4 24 [.ref (ga Γ 0 0), .int x1, .int x2] (rsI r) σ := by
  unfold fX7_remove at hf
  refine cx_body (lv := [(0, .ref (ga Γ 0 0)), (1, .int x1), (2, .int x2)]) (by decide +kernel) rfl (Nat.le_of_ble_eq_true rfl) ?_
  intro p e s m below meth c ls X hr hk hK hw hl htab
  have hx := X.1
  have hb := X.2.1
  have hown := X.2.2.2
  refine lv_aload_n hx hb dX7_remove_0 rfl (lv_at hl 0 rfl) ?_
  refine lv_iload_n hx hb dX7_remove_1 rfl (lv_at hl 1 rfl) ?_
  refine q_xR (k := 4) (fun _ _ => rfl) hf hw (fun u h => q_rxV (As := [.int x1]) (rest := []) (q := (RX7, TX7, 5)) X hK hw rfl (Nat.le_of_ble_eq_true rfl : 0 < cnt (gn Γ) 0) (rfl : vwCl[9]? = _) (kX7_needUser hfl h) mvX7_needUser lk_X7_48 ⟨Nat.le_of_ble_eq_true rfl, Nat.le_of_ble_eq_true rfl⟩ rfl hl.1 rfl (Nat.le_of_ble_eq_true rfl) dX7_remove_2 ⟨Nat.le_of_ble_eq_true rfl, Nat.le_of_ble_eq_true rfl⟩) hk htab (Nat.le_of_ble_eq_true rfl) (Nat.le_of_ble_eq_true rfl) (fun u1 σ2 H locs hf hw hq => ?_)
  have ho_u1 : u1 < 3 := ltX7_needUser hq
  refine lv_astore_n (lv' := [(3, .ref (ga Γ 4 u1)), (0, .ref (ga Γ 0 0)), (1, .int x1), (2, .int x2)]) hx hb dX7_remove_5 rfl hl (by decide) rfl (fun ls hl => ?_)
  refine lv_aload_n hx hb dX7_remove_6 rfl (lv_at hl 0 rfl) ?_
  refine lv_iload_n hx hb dX7_remove_7 rfl (lv_at hl 3 rfl) ?_
  refine q_xV (fun _ _ => rfl) hf hw (fun u h => q_rxS (As := [.ref (ga Γ 4 u1), .int x2]) (rest := []) X hK hw (kX7_needChangeable hfl ho_u1 h) msX7_needChangeable lk_X7_124 ⟨Nat.le_of_ble_eq_true rfl, Nat.le_of_ble_eq_true rfl⟩ rfl hl.1 rfl (Nat.le_of_ble_eq_true rfl) dX7_remove_8 ⟨Nat.le_of_ble_eq_true rfl, Nat.le_of_ble_eq_true rfl⟩) hk htab (Nat.le_of_ble_eq_true rfl) (Nat.le_of_ble_eq_true rfl) (fun _ σ3 H locs hf hw hq => ?_)
  refine lv_aload_n hx hb dX7_remove_11 rfl (lv_at hl 1 rfl) ?_
  refine q_xV (fun _ _ => rfl) hf hw (fun u h => q_rxV (As := []) (rest := []) (q := (RX7, TX7, 5)) X hK hw rfl (Nat.le_of_ble_eq_true rfl : 0 < cnt (gn Γ) 0) (rfl : vwCl[9]? = _) (kX7_needRoom hfl h) mvX7_needRoom lk_X7_76 ⟨Nat.le_of_ble_eq_true rfl, Nat.le_of_ble_eq_true rfl⟩ rfl hl.1 rfl (Nat.le_of_ble_eq_true rfl) dX7_remove_12 ⟨Nat.le_of_ble_eq_true rfl, Nat.le_of_ble_eq_true rfl⟩) hk htab (Nat.le_of_ble_eq_true rfl) (Nat.le_of_ble_eq_true rfl) (fun _ σ4 H locs hf hw hq => ?_)
  refine lv_aload_n hx hb dX7_remove_15 rfl (lv_at hl 0 rfl) ?_
  refine lv_iconst (v := 0) hx hb dX7_remove_16 (by decide) ?_
  refine lv_iload_n hx hb dX7_remove_17 rfl (lv_at hl 3 rfl) ?_
  refine lv_iadd hx hb dX7_remove_18 ?_
  refine lv_fconst0 hx hb dX7_remove_19 ?_
  refine q_eV hf hw (fun τ h => q_rV (As := [.int ((0 : Int32) + x2), .float (0 : UInt32)]) (rest := []) (q := (RX5, TX5, 8)) X hK hw rfl ho_u1 (rfl : vwCl[7]? = _) (kX5_step ho_u1 h) mvX5_step lk_X7_148 ⟨Nat.le_of_ble_eq_true rfl, Nat.le_of_ble_eq_true rfl⟩ rfl hl.1 rfl (Nat.le_of_ble_eq_true rfl) dX7_remove_20 ⟨Nat.le_of_ble_eq_true rfl, Nat.le_of_ble_eq_true rfl⟩) (fun σ5 H locs hf hw => ?_)
  refine lv_aload_n hx hb dX7_remove_23 rfl (lv_at hl 0 rfl) ?_
  refine q_get (v := .ref (ga Γ 7 u1)) hx hb hK hw hown in_X5 ins_X5 (rfl : vwCl[7]? = some (RX5, TX5, 8)) rfl ho_u1 3 (by decide) 301 fl_X7_79 rfl rfl dX7_remove_24 ?_
  refine q_pI hf hw (fun v h => q_rV (As := []) (rest := []) (q := (RX6, TX6, 2)) X hK hw rfl (Nat.lt_of_lt_of_le ho_u1 (Nat.le_of_ble_eq_true rfl : 3 ≤ cnt (gn Γ) 7)) (rfl : vwCl[8]? = _) (kX6_countShapes (Nat.lt_of_lt_of_le ho_u1 (Nat.le_of_ble_eq_true rfl : 3 ≤ cnt (gn Γ) 7)) h) mvX6_countShapes lk_X7_83 ⟨Nat.le_of_ble_eq_true rfl, Nat.le_of_ble_eq_true rfl⟩ rfl hl.1 rfl (Nat.le_of_ble_eq_true rfl) dX7_remove_27 ⟨Nat.le_of_ble_eq_true rfl, Nat.le_of_ble_eq_true rfl⟩) (fun v6 H locs hf hw => ?_)
  exact q_xiret hf hx hb hr rfl hk hw dX7_remove_30 (Nat.le_of_ble_eq_true rfl) (Nat.le_of_ble_eq_true rfl)
set_option maxRecDepth 100000 in
theorem kX7_lock {Γ : Gm} {l : Launch} (hfl : l.stackTraces = false) {N : Nat} {σ : St} {x1 : Int32} {x2 : Int32} {r : (Int32 ⊕ String) × St}  (hf : fX7_lock N σ x1 x2 = some r) : CX Γ STR l yX7_lock cX7_lock 4 (some (.int)) 10 145 4 24 [.ref (ga Γ 0 0), .int x1, .int x2] (rsI r) σ := by
  unfold fX7_lock at hf
  refine cx_body (lv := [(0, .ref (ga Γ 0 0)), (1, .int x1), (2, .int x2)]) (by decide +kernel) rfl (Nat.le_of_ble_eq_true rfl) ?_
  intro p e s m below meth c ls X hr hk hK hw hl htab
  have hx := X.1
  have hb := X.2.1
  have hown := X.2.2.2
  refine lv_aload_n hx hb dX7_lock_0 rfl (lv_at hl 0 rfl) ?_
  refine lv_iload_n hx hb dX7_lock_1 rfl (lv_at hl 1 rfl) ?_
  refine q_xR (k := 4) (fun _ _ => rfl) hf hw (fun u h => q_rxV (As := [.int x1]) (rest := []) (q := (RX7, TX7, 5)) X hK hw rfl (Nat.le_of_ble_eq_true rfl : 0 < cnt (gn Γ) 0) (rfl : vwCl[9]? = _) (kX7_needUser hfl h) mvX7_needUser lk_X7_48 ⟨Nat.le_of_ble_eq_true rfl, Nat.le_of_ble_eq_true rfl⟩ rfl hl.1 rfl (Nat.le_of_ble_eq_true rfl) dX7_lock_2 ⟨Nat.le_of_ble_eq_true rfl, Nat.le_of_ble_eq_true rfl⟩) hk htab (Nat.le_of_ble_eq_true rfl) (Nat.le_of_ble_eq_true rfl) (fun u1 σ2 H locs hf hw hq => ?_)
  have ho_u1 : u1 < 3 := ltX7_needUser hq
  refine lv_astore_n (lv' := [(3, .ref (ga Γ 4 u1)), (0, .ref (ga Γ 0 0)), (1, .int x1), (2, .int x2)]) hx hb dX7_lock_5 rfl hl (by decide) rfl (fun ls hl => ?_)
  refine lv_aload_n hx hb dX7_lock_6 rfl (lv_at hl 0 rfl) ?_
  refine lv_iload_n hx hb dX7_lock_7 rfl (lv_at hl 3 rfl) ?_
  refine q_xV (fun _ _ => rfl) hf hw (fun u h => q_rxS (As := [.ref (ga Γ 4 u1), .int x2]) (rest := []) X hK hw (kX7_needChangeable hfl ho_u1 h) msX7_needChangeable lk_X7_124 ⟨Nat.le_of_ble_eq_true rfl, Nat.le_of_ble_eq_true rfl⟩ rfl hl.1 rfl (Nat.le_of_ble_eq_true rfl) dX7_lock_8 ⟨Nat.le_of_ble_eq_true rfl, Nat.le_of_ble_eq_true rfl⟩) hk htab (Nat.le_of_ble_eq_true rfl) (Nat.le_of_ble_eq_true rfl) (fun _ σ3 H locs hf hw hq => ?_)
  refine lv_aload_n hx hb dX7_lock_11 rfl (lv_at hl 1 rfl) ?_
  refine q_xV (fun _ _ => rfl) hf hw (fun u h => q_rxV (As := []) (rest := []) (q := (RX7, TX7, 5)) X hK hw rfl (Nat.le_of_ble_eq_true rfl : 0 < cnt (gn Γ) 0) (rfl : vwCl[9]? = _) (kX7_needRoom hfl h) mvX7_needRoom lk_X7_76 ⟨Nat.le_of_ble_eq_true rfl, Nat.le_of_ble_eq_true rfl⟩ rfl hl.1 rfl (Nat.le_of_ble_eq_true rfl) dX7_lock_12 ⟨Nat.le_of_ble_eq_true rfl, Nat.le_of_ble_eq_true rfl⟩) hk htab (Nat.le_of_ble_eq_true rfl) (Nat.le_of_ble_eq_true rfl) (fun _ σ4 H locs hf hw hq => ?_)
  refine lv_aload_n hx hb dX7_lock_15 rfl (lv_at hl 0 rfl) ?_
  refine lv_bipush (v := 36) hx hb dX7_lock_16 (by decide) ?_
  refine lv_iload_n hx hb dX7_lock_18 rfl (lv_at hl 3 rfl) ?_
  refine lv_iadd hx hb dX7_lock_19 ?_
  refine lv_iload_n hx hb dX7_lock_20 rfl (lv_at hl 2 rfl) ?_
  refine lv_iconst (v := 1) hx hb dX7_lock_21 (by decide) ?_
  refine lv_iadd hx hb dX7_lock_22 ?_
  refine lv_i2f hx hb dX7_lock_23 ?_
  refine q_eV hf hw (fun τ h => q_rV (As := [.int ((36 : Int32) + x2), .float (FP.i2f (x1 + (1 : Int32)))]) (rest := []) (q := (RX5, TX5, 8)) X hK hw rfl ho_u1 (rfl : vwCl[7]? = _) (kX5_step ho_u1 h) mvX5_step lk_X7_148 ⟨Nat.le_of_ble_eq_true rfl, Nat.le_of_ble_eq_true rfl⟩ rfl hl.1 rfl (Nat.le_of_ble_eq_true rfl) dX7_lock_24 ⟨Nat.le_of_ble_eq_true rfl, Nat.le_of_ble_eq_true rfl⟩) (fun σ5 H locs hf hw => ?_)
  refine lv_aload_n hx hb dX7_lock_27 rfl (lv_at hl 0 rfl) ?_
  refine q_get (v := .ref (ga Γ 7 u1)) hx hb hK hw hown in_X5 ins_X5 (rfl : vwCl[7]? = some (RX5, TX5, 8)) rfl ho_u1 3 (by decide) 301 fl_X7_79 rfl rfl dX7_lock_28 ?_
  refine lv_iload_n hx hb dX7_lock_31 rfl (lv_at hl 2 rfl) ?_
  refine q_pI hf hw (fun v h => q_rV (As := [.int x1]) (rest := []) (q := (RX6, TX6, 2)) X hK hw rfl (Nat.lt_of_lt_of_le ho_u1 (Nat.le_of_ble_eq_true rfl : 3 ≤ cnt (gn Γ) 7)) (rfl : vwCl[8]? = _) (kX6_countLockedBy (Nat.lt_of_lt_of_le ho_u1 (Nat.le_of_ble_eq_true rfl : 3 ≤ cnt (gn Γ) 7)) h) mvX6_countLockedBy lk_X7_151 ⟨Nat.le_of_ble_eq_true rfl, Nat.le_of_ble_eq_true rfl⟩ rfl hl.1 rfl (Nat.le_of_ble_eq_true rfl) dX7_lock_32 ⟨Nat.le_of_ble_eq_true rfl, Nat.le_of_ble_eq_true rfl⟩) (fun v6 H locs hf hw => ?_)
  exact q_xiret hf hx hb hr rfl hk hw dX7_lock_35 (Nat.le_of_ble_eq_true rfl) (Nat.le_of_ble_eq_true rfl)
set_option maxRecDepth 100000 in
theorem kX7_unlock {Γ : Gm} {l : Launch} (hfl : l.stackTraces = false) {N : Nat} {σ : St} {x1 : Int32} {x2 : Int32} {r : (Int32 ⊕ String) × St}  (hf : fX7_unlock N σ x1 x2 = some r) : CX Γ STR l yX7_unlock cX7_unlock 5 (some (.int)) 9 125 4 24 [.ref (ga Γ 0 0), .int x1, .int x2] (rsI r) σ := by
  unfold fX7_unlock at hf
  refine cx_body (lv := [(0, .ref (ga Γ 0 0)), (1, .int x1), (2, .int x2)]) (by decide +kernel) rfl (Nat.le_of_ble_eq_true rfl) ?_
  intro p e s m below meth c ls X hr hk hK hw hl htab
  have hx := X.1
  have hb := X.2.1
  have hown := X.2.2.2
  refine lv_aload_n hx hb dX7_unlock_0 rfl (lv_at hl 0 rfl) ?_
  refine lv_iload_n hx hb dX7_unlock_1 rfl (lv_at hl 1 rfl) ?_
  refine q_xR (k := 4) (fun _ _ => rfl) hf hw (fun u h => q_rxV (As := [.int x1]) (rest := []) (q := (RX7, TX7, 5)) X hK hw rfl (Nat.le_of_ble_eq_true rfl : 0 < cnt (gn Γ) 0) (rfl : vwCl[9]? = _) (kX7_needUser hfl h) mvX7_needUser lk_X7_48 ⟨Nat.le_of_ble_eq_true rfl, Nat.le_of_ble_eq_true rfl⟩ rfl hl.1 rfl (Nat.le_of_ble_eq_true rfl) dX7_unlock_2 ⟨Nat.le_of_ble_eq_true rfl, Nat.le_of_ble_eq_true rfl⟩) hk htab (Nat.le_of_ble_eq_true rfl) (Nat.le_of_ble_eq_true rfl) (fun u1 σ2 H locs hf hw hq => ?_)
  have ho_u1 : u1 < 3 := ltX7_needUser hq
  refine lv_astore_n (lv' := [(3, .ref (ga Γ 4 u1)), (0, .ref (ga Γ 0 0)), (1, .int x1), (2, .int x2)]) hx hb dX7_unlock_5 rfl hl (by decide) rfl (fun ls hl => ?_)
  refine lv_aload_n hx hb dX7_unlock_6 rfl (lv_at hl 0 rfl) ?_
  refine lv_iload_n hx hb dX7_unlock_7 rfl (lv_at hl 3 rfl) ?_
  refine q_xV (fun _ _ => rfl) hf hw (fun u h => q_rxS (As := [.ref (ga Γ 4 u1), .int x2]) (rest := []) X hK hw (kX7_needSeen hfl ho_u1 h) msX7_needSeen lk_X7_141 ⟨Nat.le_of_ble_eq_true rfl, Nat.le_of_ble_eq_true rfl⟩ rfl hl.1 rfl (Nat.le_of_ble_eq_true rfl) dX7_unlock_8 ⟨Nat.le_of_ble_eq_true rfl, Nat.le_of_ble_eq_true rfl⟩) hk htab (Nat.le_of_ble_eq_true rfl) (Nat.le_of_ble_eq_true rfl) (fun _ σ3 H locs hf hw hq => ?_)
  refine lv_aload_n hx hb dX7_unlock_11 rfl (lv_at hl 0 rfl) ?_
  refine q_get (v := .ref (ga Γ 7 u1)) hx hb hK hw hown in_X5 ins_X5 (rfl : vwCl[7]? = some (RX5, TX5, 8)) rfl ho_u1 3 (by decide) 301 fl_X7_79 rfl rfl dX7_unlock_12 ?_
  refine lv_iload_n hx hb dX7_unlock_15 rfl (lv_at hl 3 rfl) ?_
  refine q_pI hf hw (fun v h => q_rV (As := [.int x2]) (rest := []) (q := (RX6, TX6, 2)) X hK hw rfl (Nat.lt_of_lt_of_le ho_u1 (Nat.le_of_ble_eq_true rfl : 3 ≤ cnt (gn Γ) 7)) (rfl : vwCl[8]? = _) (kX6_lockerAt (Nat.lt_of_lt_of_le ho_u1 (Nat.le_of_ble_eq_true rfl : 3 ≤ cnt (gn Γ) 7)) h) mvX6_lockerAt lk_X7_154 ⟨Nat.le_of_ble_eq_true rfl, Nat.le_of_ble_eq_true rfl⟩ rfl hl.1 rfl (Nat.le_of_ble_eq_true rfl) dX7_unlock_16 ⟨Nat.le_of_ble_eq_true rfl, Nat.le_of_ble_eq_true rfl⟩) (fun v4 H locs hf hw => ?_)
  refine lv_istore (lv' := [(4, .int v4), (3, .ref (ga Γ 4 u1)), (0, .ref (ga Γ 0 0)), (1, .int x1), (2, .int x2)]) hx hb dX7_unlock_19 hl (by decide) rfl (fun ls hl => ?_)
  refine lv_iload hx hb dX7_unlock_21 (lv_at hl 0 rfl) ?_
  refine lv_iconst (v := (-1)) hx hb dX7_unlock_23 (by decide) ?_
  refine q_ic_ne (tgt := 37) hx hb hf dX7_unlock_24 (by decide) (fun hf => ?_) (fun hf => ?_)
  · refine lv_aload_n hx hb dX7_unlock_37 rfl (lv_at hl 2 rfl) ?_
    refine q_xV (fun _ _ => rfl) hf hw (fun u h => q_rxV (As := []) (rest := []) (q := (RX7, TX7, 5)) X hK hw rfl (Nat.le_of_ble_eq_true rfl : 0 < cnt (gn Γ) 0) (rfl : vwCl[9]? = _) (kX7_needRoom hfl h) mvX7_needRoom lk_X7_76 ⟨Nat.le_of_ble_eq_true rfl, Nat.le_of_ble_eq_true rfl⟩ rfl hl.1 rfl (Nat.le_of_ble_eq_true rfl) dX7_unlock_38 ⟨Nat.le_of_ble_eq_true rfl, Nat.le_of_ble_eq_true rfl⟩) hk htab (Nat.le_of_ble_eq_true rfl) (Nat.le_of_ble_eq_true rfl) (fun _ σ5 H locs hf hw hq => ?_)
    refine lv_aload_n hx hb dX7_unlock_41 rfl (lv_at hl 1 rfl) ?_
    refine lv_bipush (v := 36) hx hb dX7_unlock_42 (by decide) ?_
    refine lv_iload_n hx hb dX7_unlock_44 rfl (lv_at hl 4 rfl) ?_
    refine lv_iadd hx hb dX7_unlock_45 ?_
    refine lv_fconst0 hx hb dX7_unlock_46 ?_
    refine q_eV hf hw (fun τ h => q_rV (As := [.int ((36 : Int32) + x2), .float (0 : UInt32)]) (rest := []) (q := (RX5, TX5, 8)) X hK hw rfl ho_u1 (rfl : vwCl[7]? = _) (kX5_step ho_u1 h) mvX5_step lk_X7_148 ⟨Nat.le_of_ble_eq_true rfl, Nat.le_of_ble_eq_true rfl⟩ rfl hl.1 rfl (Nat.le_of_ble_eq_true rfl) dX7_unlock_47 ⟨Nat.le_of_ble_eq_true rfl, Nat.le_of_ble_eq_true rfl⟩) (fun σ6 H locs hf hw => ?_)
    refine lv_iload hx hb dX7_unlock_50 (lv_at hl 0 rfl) ?_
    exact q_xiret hf hx hb hr rfl hk hw dX7_unlock_52 (Nat.le_of_ble_eq_true rfl) (Nat.le_of_ble_eq_true rfl)
  exact q_thr (fun _ _ => rfl) hf hfl X hK hw hl.1 hk htab ax_UnsupportedOperationException (List.mem_of_getElem? (i := 4) rfl) dX7_unlock_27 dX7_unlock_30 dX7_unlock_31 dX7_unlock_33 dX7_unlock_36 (Nat.le_of_ble_eq_true rfl) (Nat.le_of_ble_eq_true rfl) (Nat.le_of_ble_eq_true rfl) (Nat.le_of_ble_eq_true rfl) (Nat.le_of_ble_eq_true rfl) (Nat.le_of_ble_eq_true rfl)
set_option maxRecDepth 100000 in
theorem kX7_connect {Γ : Gm} {l : Launch} (hfl : l.stackTraces = false) {N : Nat} {σ : St} {x1 : Int32} {x2 : Int32} {x3 : Int32} {x4 : Int32} {x5 : Int32} {r : (Int32 ⊕ String) × St}  (hf : fX7_connect N σ x1 x2 x3 x4 x5 = some r) : CX Γ STR l yX7_connect cX7_connect 8 (some (.int)) 9 125 6 36 [.ref (ga Γ 0 0), .int x1, .int x2, .int x3, .int x4, .int x5] (rsI r) σ := by
  unfold fX7_connect at hf
  refine cx_body (lv := [(0, .ref (ga Γ 0 0)), (1, .int x1), (2, .int x2), (3, .int x3), (4, .int x4), (5, .int x5)]) (by decide +kernel) rfl (Nat.le_of_ble_eq_true rfl) ?_
  intro p e s m below meth c ls X hr hk hK hw hl htab
  have hx := X.1
  have hb := X.2.1
  have hown := X.2.2.2
  refine lv_aload_n hx hb dX7_connect_0 rfl (lv_at hl 0 rfl) ?_
  refine lv_iload_n hx hb dX7_connect_1 rfl (lv_at hl 1 rfl) ?_
  refine q_xR (k := 4) (fun _ _ => rfl) hf hw (fun u h => q_rxV (As := [.int x1]) (rest := []) (q := (RX7, TX7, 5)) X hK hw rfl (Nat.le_of_ble_eq_true rfl : 0 < cnt (gn Γ) 0) (rfl : vwCl[9]? = _) (kX7_needUser hfl h) mvX7_needUser lk_X7_48 ⟨Nat.le_of_ble_eq_true rfl, Nat.le_of_ble_eq_true rfl⟩ rfl hl.1 rfl (Nat.le_of_ble_eq_true rfl) dX7_connect_2 ⟨Nat.le_of_ble_eq_true rfl, Nat.le_of_ble_eq_true rfl⟩) hk htab (Nat.le_of_ble_eq_true rfl) (Nat.le_of_ble_eq_true rfl) (fun u1 σ2 H locs hf hw hq => ?_)
  have ho_u1 : u1 < 3 := ltX7_needUser hq
  refine lv_astore (lv' := [(6, .ref (ga Γ 4 u1)), (0, .ref (ga Γ 0 0)), (1, .int x1), (2, .int x2), (3, .int x3), (4, .int x4), (5, .int x5)]) hx hb dX7_connect_5 hl (by decide) rfl (fun ls hl => ?_)
  refine lv_iload_n hx hb dX7_connect_7 rfl (lv_at hl 4 rfl) ?_
  refine q_pI hf hw (fun v h => q_rS (As := [.int x3]) (rest := []) X hK hw (kX7_isSideName h) msX7_isSideName lk_X7_162 ⟨Nat.le_of_ble_eq_true rfl, Nat.le_of_ble_eq_true rfl⟩ rfl hl.1 rfl (Nat.le_of_ble_eq_true rfl) dX7_connect_8 ⟨Nat.le_of_ble_eq_true rfl, Nat.le_of_ble_eq_true rfl⟩) (fun v3 H locs hf hw => ?_)
  refine q_if_eq (tgt := 28) hx hb hf dX7_connect_11 (by decide) (fun hf => ?_) (fun hf => ?_)
  · exact q_thr (fun _ _ => rfl) hf hfl X hK hw hl.1 hk htab ax_IllegalArgumentException (List.mem_of_getElem? (i := 5) rfl) dX7_connect_28 dX7_connect_31 dX7_connect_32 dX7_connect_34 dX7_connect_37 (Nat.le_of_ble_eq_true rfl) (Nat.le_of_ble_eq_true rfl) (Nat.le_of_ble_eq_true rfl) (Nat.le_of_ble_eq_true rfl) (Nat.le_of_ble_eq_true rfl) (Nat.le_of_ble_eq_true rfl)
  refine lv_iload hx hb dX7_connect_14 (lv_at hl 6 rfl) ?_
  refine q_pI hf hw (fun v h => q_rS (As := [.int x5]) (rest := []) X hK hw (kX7_isSideName h) msX7_isSideName lk_X7_162 ⟨Nat.le_of_ble_eq_true rfl, Nat.le_of_ble_eq_true rfl⟩ rfl hl.1 rfl (Nat.le_of_ble_eq_true rfl) dX7_connect_16 ⟨Nat.le_of_ble_eq_true rfl, Nat.le_of_ble_eq_true rfl⟩) (fun v4 H locs hf hw => ?_)
  refine q_if_eq (tgt := 28) hx hb hf dX7_connect_19 (by decide) (fun hf => ?_) (fun hf => ?_)
  · exact q_thr (fun _ _ => rfl) hf hfl X hK hw hl.1 hk htab ax_IllegalArgumentException (List.mem_of_getElem? (i := 5) rfl) dX7_connect_28 dX7_connect_31 dX7_connect_32 dX7_connect_34 dX7_connect_37 (Nat.le_of_ble_eq_true rfl) (Nat.le_of_ble_eq_true rfl) (Nat.le_of_ble_eq_true rfl) (Nat.le_of_ble_eq_true rfl) (Nat.le_of_ble_eq_true rfl) (Nat.le_of_ble_eq_true rfl)
  refine lv_iload_n hx hb dX7_connect_22 rfl (lv_at hl 3 rfl) ?_
  refine lv_iload hx hb dX7_connect_23 (lv_at hl 5 rfl) ?_
  refine q_ic_ne (tgt := 38) hx hb hf dX7_connect_25 (by decide) (fun hf => ?_) (fun hf => ?_)
  · refine lv_aload hx hb dX7_connect_38 (lv_at hl 0 rfl) ?_
    refine lv_iload_n hx hb dX7_connect_40 rfl (lv_at hl 3 rfl) ?_
    refine q_xV (fun _ _ => rfl) hf hw (fun u h => q_rxS (As := [.ref (ga Γ 4 u1), .int x2]) (rest := []) X hK hw (kX7_needSeen hfl ho_u1 h) msX7_needSeen lk_X7_141 ⟨Nat.le_of_ble_eq_true rfl, Nat.le_of_ble_eq_true rfl⟩ rfl hl.1 rfl (Nat.le_of_ble_eq_true rfl) dX7_connect_41 ⟨Nat.le_of_ble_eq_true rfl, Nat.le_of_ble_eq_true rfl⟩) hk htab (Nat.le_of_ble_eq_true rfl) (Nat.le_of_ble_eq_true rfl) (fun _ σ5 H locs hf hw hq => ?_)
    refine lv_aload hx hb dX7_connect_44 (lv_at hl 0 rfl) ?_
    refine lv_iload hx hb dX7_connect_46 (lv_at hl 5 rfl) ?_
    refine q_xV (fun _ _ => rfl) hf hw (fun u h => q_rxS (As := [.ref (ga Γ 4 u1), .int x4]) (rest := []) X hK hw (kX7_needSeen hfl ho_u1 h) msX7_needSeen lk_X7_141 ⟨Nat.le_of_ble_eq_true rfl, Nat.le_of_ble_eq_true rfl⟩ rfl hl.1 rfl (Nat.le_of_ble_eq_true rfl) dX7_connect_48 ⟨Nat.le_of_ble_eq_true rfl, Nat.le_of_ble_eq_true rfl⟩) hk htab (Nat.le_of_ble_eq_true rfl) (Nat.le_of_ble_eq_true rfl) (fun _ σ6 H locs hf hw hq => ?_)
    refine lv_aload_n hx hb dX7_connect_51 rfl (lv_at hl 1 rfl) ?_
    refine q_get (v := .ref (ga Γ 2 0)) hx hb hK hw hown in_X7 ins_X7 (rfl : vwCl[9]? = some (RX7, TX7, 5)) rfl (Nat.le_of_ble_eq_true rfl : 0 < cnt (gn Γ) 0) 1 (by decide) 325 fl_X7_19 rfl rfl dX7_connect_52 ?_
    refine q_get (v := .int (gI σ6 2 0 8)) hx hb hK hw hown in_X2 ins_X2 (rfl : vwCl[4]? = some (RX2, TX2, 9)) rfl (Nat.le_of_ble_eq_true rfl : 0 < cnt (gn Γ) 2) 8 (by decide) 165 fl_X7_168 rfl rfl dX7_connect_55 ?_
    refine lv_bipush (v := 8) hx hb dX7_connect_58 (by decide) ?_
    refine q_ic_lt (tgt := 73) hx hb hf dX7_connect_60 (by decide) (fun hf => ?_) (fun hf => ?_)
    · refine lv_aload_n hx hb dX7_connect_73 rfl (lv_at hl 1 rfl) ?_
      refine q_xV (fun _ _ => rfl) hf hw (fun u h => q_rxV (As := []) (rest := []) (q := (RX7, TX7, 5)) X hK hw rfl (Nat.le_of_ble_eq_true rfl : 0 < cnt (gn Γ) 0) (rfl : vwCl[9]? = _) (kX7_needRoom hfl h) mvX7_needRoom lk_X7_76 ⟨Nat.le_of_ble_eq_true rfl, Nat.le_of_ble_eq_true rfl⟩ rfl hl.1 rfl (Nat.le_of_ble_eq_true rfl) dX7_connect_74 ⟨Nat.le_of_ble_eq_true rfl, Nat.le_of_ble_eq_true rfl⟩) hk htab (Nat.le_of_ble_eq_true rfl) (Nat.le_of_ble_eq_true rfl) (fun _ σ7 H locs hf hw hq => ?_)
      refine lv_aload_n hx hb dX7_connect_77 rfl (lv_at hl 1 rfl) ?_
      refine q_get (v := .ref (ga Γ 2 0)) hx hb hK hw hown in_X7 ins_X7 (rfl : vwCl[9]? = some (RX7, TX7, 5)) rfl (Nat.le_of_ble_eq_true rfl : 0 < cnt (gn Γ) 0) 1 (by decide) 325 fl_X7_19 rfl rfl dX7_connect_78 ?_
      refine lv_iload_n hx hb dX7_connect_81 rfl (lv_at hl 3 rfl) ?_
      refine lv_iload_n hx hb dX7_connect_82 rfl (lv_at hl 4 rfl) ?_
      refine lv_iload hx hb dX7_connect_83 (lv_at hl 5 rfl) ?_
      refine lv_iload hx hb dX7_connect_85 (lv_at hl 6 rfl) ?_
      refine q_eI hf hw (fun v τ h => q_rV (As := [.int x2, .int x3, .int x4, .int x5]) (rest := []) (q := (RX2, TX2, 9)) X hK hw rfl (Nat.le_of_ble_eq_true rfl : 0 < cnt (gn Γ) 2) (rfl : vwCl[4]? = _) (kX2_makeConnector h) mvX2_makeConnector lk_X7_173 ⟨Nat.le_of_ble_eq_true rfl, Nat.le_of_ble_eq_true rfl⟩ rfl hl.1 rfl (Nat.le_of_ble_eq_true rfl) dX7_connect_87 ⟨Nat.le_of_ble_eq_true rfl, Nat.le_of_ble_eq_true rfl⟩) (fun v9 σ8 H locs hf hw => ?_)
      refine lv_istore (lv' := [(7, .int v9), (6, .ref (ga Γ 4 u1)), (0, .ref (ga Γ 0 0)), (1, .int x1), (2, .int x2), (3, .int x3), (4, .int x4), (5, .int x5)]) hx hb dX7_connect_90 hl (by decide) rfl (fun ls hl => ?_)
      refine lv_aload hx hb dX7_connect_92 (lv_at hl 1 rfl) ?_
      refine lv_bipush (v := 48) hx hb dX7_connect_94 (by decide) ?_
      refine lv_iload hx hb dX7_connect_96 (lv_at hl 0 rfl) ?_
      refine lv_iadd hx hb dX7_connect_98 ?_
      refine lv_fconst1 hx hb dX7_connect_99 ?_
      refine q_eV hf hw (fun τ h => q_rV (As := [.int ((48 : Int32) + v9), .float (1065353216 : UInt32)]) (rest := []) (q := (RX5, TX5, 8)) X hK hw rfl ho_u1 (rfl : vwCl[7]? = _) (kX5_step ho_u1 h) mvX5_step lk_X7_148 ⟨Nat.le_of_ble_eq_true rfl, Nat.le_of_ble_eq_true rfl⟩ rfl hl.1 rfl (Nat.le_of_ble_eq_true rfl) dX7_connect_100 ⟨Nat.le_of_ble_eq_true rfl, Nat.le_of_ble_eq_true rfl⟩) (fun σ10 H locs hf hw => ?_)
      refine lv_iload hx hb dX7_connect_103 (lv_at hl 0 rfl) ?_
      exact q_xiret hf hx hb hr rfl hk hw dX7_connect_105 (Nat.le_of_ble_eq_true rfl) (Nat.le_of_ble_eq_true rfl)
    exact q_thr (fun _ _ => rfl) hf hfl X hK hw hl.1 hk htab ax_IllegalStateException (List.mem_of_getElem? (i := 6) rfl) dX7_connect_63 dX7_connect_66 dX7_connect_67 dX7_connect_69 dX7_connect_72 (Nat.le_of_ble_eq_true rfl) (Nat.le_of_ble_eq_true rfl) (Nat.le_of_ble_eq_true rfl) (Nat.le_of_ble_eq_true rfl) (Nat.le_of_ble_eq_true rfl) (Nat.le_of_ble_eq_true rfl)
  exact q_thr (fun _ _ => rfl) hf hfl X hK hw hl.1 hk htab ax_IllegalArgumentException (List.mem_of_getElem? (i := 5) rfl) dX7_connect_28 dX7_connect_31 dX7_connect_32 dX7_connect_34 dX7_connect_37 (Nat.le_of_ble_eq_true rfl) (Nat.le_of_ble_eq_true rfl) (Nat.le_of_ble_eq_true rfl) (Nat.le_of_ble_eq_true rfl) (Nat.le_of_ble_eq_true rfl) (Nat.le_of_ble_eq_true rfl)
set_option maxRecDepth 100000 in
theorem kX7_needSeenConnector {Γ : Gm} {l : Launch} (hfl : l.stackTraces = false) {N : Nat} {σ : St} {o1 : Nat} {x2 : Int32} {r : (Unit ⊕ String) × St} (ho1 : o1 < 3) (hf : fX7_needSeenConnector N σ o1 x2 = some r) : CX Γ STR l yX7_needSeenConnector cX7_needSeenConnector 2 none 8 103 1 6 [.ref (ga Γ 4 o1), .int x2] (rsV r) σ := by
  unfold fX7_needSeenConnector at hf
  refine cx_body (lv := [(0, .ref (ga Γ 4 o1)), (1, .int x2)]) (by decide +kernel) rfl (Nat.le_of_ble_eq_true rfl) ?_
  intro p e s m below meth c ls X hr hk hK hw hl htab
  have hx := X.1
  have hb := X.2.1
  have hown := X.2.2.2
  refine lv_aload_n hx hb dX7_needSeenConnector_0 rfl (lv_at hl 0 rfl) ?_
  refine q_get (v := .ref (ga Γ 7 o1)) hx hb hK hw hown in_X5 ins_X5 (rfl : vwCl[7]? = some (RX5, TX5, 8)) rfl ho1 3 (by decide) 301 fl_X7_79 rfl rfl dX7_needSeenConnector_1 ?_
  refine lv_iload_n hx hb dX7_needSeenConnector_4 rfl (lv_at hl 1 rfl) ?_
  refine q_pI hf hw (fun v h => q_rV (As := [.int x2]) (rest := []) (q := (RX6, TX6, 2)) X hK hw rfl (Nat.lt_of_lt_of_le ho1 (Nat.le_of_ble_eq_true rfl : 3 ≤ cnt (gn Γ) 7)) (rfl : vwCl[8]? = _) (kX6_isSeenConnector (Nat.lt_of_lt_of_le ho1 (Nat.le_of_ble_eq_true rfl : 3 ≤ cnt (gn Γ) 7)) h) mvX6_isSeenConnector lk_X7_339 ⟨Nat.le_of_ble_eq_true rfl, Nat.le_of_ble_eq_true rfl⟩ rfl hl.1 rfl (Nat.le_of_ble_eq_true rfl) dX7_needSeenConnector_5 ⟨Nat.le_of_ble_eq_true rfl, Nat.le_of_ble_eq_true rfl⟩) (fun v1 H locs hf hw => ?_)
  refine q_if_ne (tgt := 22) hx hb hf dX7_needSeenConnector_8 (by decide) (fun hf => ?_) (fun hf => ?_)
  · exact q_xvret hx hb hr hk hw dX7_needSeenConnector_22 hf (Nat.le_of_ble_eq_true rfl) (Nat.le_of_ble_eq_true rfl)
  exact q_thrNW (fun _ _ => rfl) hf hfl X hK hw hl.1 hk htab ax_NoSuchElementException (List.mem_of_getElem? (i := 24) rfl) dX7_needSeenConnector_11 dX7_needSeenConnector_14 dX7_needSeenConnector_15 dX7_needSeenConnector_18 dX7_needSeenConnector_21 (Nat.le_of_ble_eq_true rfl) (Nat.le_of_ble_eq_true rfl) (Nat.le_of_ble_eq_true rfl) (Nat.le_of_ble_eq_true rfl) (Nat.le_of_ble_eq_true rfl) (Nat.le_of_ble_eq_true rfl)
set_option maxRecDepth 100000 in
theorem kX7_disconnect {Γ : Gm} {l : Launch} (hfl : l.stackTraces = false) {N : Nat} {σ : St} {x1 : Int32} {x2 : Int32} {r : (Int32 ⊕ String) × St}  (hf : fX7_disconnect N σ x1 x2 = some r) : CX Γ STR l yX7_disconnect cX7_disconnect 4 (some (.int)) 9 125 3 18 [.ref (ga Γ 0 0), .int x1, .int x2] (rsI r) σ := by
  unfold fX7_disconnect at hf
  refine cx_body (lv := [(0, .ref (ga Γ 0 0)), (1, .int x1), (2, .int x2)]) (by decide +kernel) rfl (Nat.le_of_ble_eq_true rfl) ?_
  intro p e s m below meth c ls X hr hk hK hw hl htab
  have hx := X.1
  have hb := X.2.1
  have hown := X.2.2.2
  refine lv_aload_n hx hb dX7_disconnect_0 rfl (lv_at hl 0 rfl) ?_
  refine lv_iload_n hx hb dX7_disconnect_1 rfl (lv_at hl 1 rfl) ?_
  refine q_xR (k := 4) (fun _ _ => rfl) hf hw (fun u h => q_rxV (As := [.int x1]) (rest := []) (q := (RX7, TX7, 5)) X hK hw rfl (Nat.le_of_ble_eq_true rfl : 0 < cnt (gn Γ) 0) (rfl : vwCl[9]? = _) (kX7_needUser hfl h) mvX7_needUser lk_X7_48 ⟨Nat.le_of_ble_eq_true rfl, Nat.le_of_ble_eq_true rfl⟩ rfl hl.1 rfl (Nat.le_of_ble_eq_true rfl) dX7_disconnect_2 ⟨Nat.le_of_ble_eq_true rfl, Nat.le_of_ble_eq_true rfl⟩) hk htab (Nat.le_of_ble_eq_true rfl) (Nat.le_of_ble_eq_true rfl) (fun u1 σ2 H locs hf hw hq => ?_)
  have ho_u1 : u1 < 3 := ltX7_needUser hq
  refine lv_astore_n (lv' := [(3, .ref (ga Γ 4 u1)), (0, .ref (ga Γ 0 0)), (1, .int x1), (2, .int x2)]) hx hb dX7_disconnect_5 rfl hl (by decide) rfl (fun ls hl => ?_)
  refine lv_aload_n hx hb dX7_disconnect_6 rfl (lv_at hl 0 rfl) ?_
  refine lv_iload_n hx hb dX7_disconnect_7 rfl (lv_at hl 3 rfl) ?_
  refine q_xV (fun _ _ => rfl) hf hw (fun u h => q_rxS (As := [.ref (ga Γ 4 u1), .int x2]) (rest := []) X hK hw (kX7_needSeenConnector hfl ho_u1 h) msX7_needSeenConnector lk_X7_177 ⟨Nat.le_of_ble_eq_true rfl, Nat.le_of_ble_eq_true rfl⟩ rfl hl.1 rfl (Nat.le_of_ble_eq_true rfl) dX7_disconnect_8 ⟨Nat.le_of_ble_eq_true rfl, Nat.le_of_ble_eq_true rfl⟩) hk htab (Nat.le_of_ble_eq_true rfl) (Nat.le_of_ble_eq_true rfl) (fun _ σ3 H locs hf hw hq => ?_)
  refine lv_aload_n hx hb dX7_disconnect_11 rfl (lv_at hl 1 rfl) ?_
  refine q_xV (fun _ _ => rfl) hf hw (fun u h => q_rxV (As := []) (rest := []) (q := (RX7, TX7, 5)) X hK hw rfl (Nat.le_of_ble_eq_true rfl : 0 < cnt (gn Γ) 0) (rfl : vwCl[9]? = _) (kX7_needRoom hfl h) mvX7_needRoom lk_X7_76 ⟨Nat.le_of_ble_eq_true rfl, Nat.le_of_ble_eq_true rfl⟩ rfl hl.1 rfl (Nat.le_of_ble_eq_true rfl) dX7_disconnect_12 ⟨Nat.le_of_ble_eq_true rfl, Nat.le_of_ble_eq_true rfl⟩) hk htab (Nat.le_of_ble_eq_true rfl) (Nat.le_of_ble_eq_true rfl) (fun _ σ4 H locs hf hw hq => ?_)
  refine lv_aload_n hx hb dX7_disconnect_15 rfl (lv_at hl 0 rfl) ?_
  refine lv_bipush (v := 48) hx hb dX7_disconnect_16 (by decide) ?_
  refine lv_iload_n hx hb dX7_disconnect_18 rfl (lv_at hl 3 rfl) ?_
  refine lv_iadd hx hb dX7_disconnect_19 ?_
  refine lv_fconst0 hx hb dX7_disconnect_20 ?_
  refine q_eV hf hw (fun τ h => q_rV (As := [.int ((48 : Int32) + x2), .float (0 : UInt32)]) (rest := []) (q := (RX5, TX5, 8)) X hK hw rfl ho_u1 (rfl : vwCl[7]? = _) (kX5_step ho_u1 h) mvX5_step lk_X7_148 ⟨Nat.le_of_ble_eq_true rfl, Nat.le_of_ble_eq_true rfl⟩ rfl hl.1 rfl (Nat.le_of_ble_eq_true rfl) dX7_disconnect_21 ⟨Nat.le_of_ble_eq_true rfl, Nat.le_of_ble_eq_true rfl⟩) (fun σ5 H locs hf hw => ?_)
  refine lv_aload_n hx hb dX7_disconnect_24 rfl (lv_at hl 0 rfl) ?_
  refine q_get (v := .ref (ga Γ 7 u1)) hx hb hK hw hown in_X5 ins_X5 (rfl : vwCl[7]? = some (RX5, TX5, 8)) rfl ho_u1 3 (by decide) 301 fl_X7_79 rfl rfl dX7_disconnect_25 ?_
  refine q_pI hf hw (fun v h => q_rV (As := []) (rest := []) (q := (RX6, TX6, 2)) X hK hw rfl (Nat.lt_of_lt_of_le ho_u1 (Nat.le_of_ble_eq_true rfl : 3 ≤ cnt (gn Γ) 7)) (rfl : vwCl[8]? = _) (kX6_countConnectors (Nat.lt_of_lt_of_le ho_u1 (Nat.le_of_ble_eq_true rfl : 3 ≤ cnt (gn Γ) 7)) h) mvX6_countConnectors lk_X7_180 ⟨Nat.le_of_ble_eq_true rfl, Nat.le_of_ble_eq_true rfl⟩ rfl hl.1 rfl (Nat.le_of_ble_eq_true rfl) dX7_disconnect_28 ⟨Nat.le_of_ble_eq_true rfl, Nat.le_of_ble_eq_true rfl⟩) (fun v6 H locs hf hw => ?_)
  exact q_xiret hf hx hb hr rfl hk hw dX7_disconnect_31 (Nat.le_of_ble_eq_true rfl) (Nat.le_of_ble_eq_true rfl)
set_option maxRecDepth 100000 in
theorem kX7_vote {Γ : Gm} {l : Launch} (hfl : l.stackTraces = false) {N : Nat} {σ : St} {x1 : Int32} {x2 : Int32} {x3 : Int32} {r : (Int32 ⊕ String) × St}  (hf : fX7_vote N σ x1 x2 x3 = some r) : CX Γ STR l yX7_vote cX7_vote 6 (some (.int)) 9 125 5 30 [.ref (ga Γ 0 0), .int x1, .int x2, .int x3] (rsI r) σ := by
  unfold fX7_vote at hf
  refine cx_body (lv := [(0, .ref (ga Γ 0 0)), (1, .int x1), (2, .int x2), (3, .int x3)]) (by decide +kernel) rfl (Nat.le_of_ble_eq_true rfl) ?_
  intro p e s m below meth c ls X hr hk hK hw hl htab
  have hx := X.1
  have hb := X.2.1
  have hown := X.2.2.2
  refine lv_aload_n hx hb dX7_vote_0 rfl (lv_at hl 0 rfl) ?_
  refine lv_iload_n hx hb dX7_vote_1 rfl (lv_at hl 1 rfl) ?_
  refine q_xR (k := 4) (fun _ _ => rfl) hf hw (fun u h => q_rxV (As := [.int x1]) (rest := []) (q := (RX7, TX7, 5)) X hK hw rfl (Nat.le_of_ble_eq_true rfl : 0 < cnt (gn Γ) 0) (rfl : vwCl[9]? = _) (kX7_needUser hfl h) mvX7_needUser lk_X7_48 ⟨Nat.le_of_ble_eq_true rfl, Nat.le_of_ble_eq_true rfl⟩ rfl hl.1 rfl (Nat.le_of_ble_eq_true rfl) dX7_vote_2 ⟨Nat.le_of_ble_eq_true rfl, Nat.le_of_ble_eq_true rfl⟩) hk htab (Nat.le_of_ble_eq_true rfl) (Nat.le_of_ble_eq_true rfl) (fun u1 σ2 H locs hf hw hq => ?_)
  have ho_u1 : u1 < 3 := ltX7_needUser hq
  refine lv_astore (lv' := [(4, .ref (ga Γ 4 u1)), (0, .ref (ga Γ 0 0)), (1, .int x1), (2, .int x2), (3, .int x3)]) hx hb dX7_vote_5 hl (by decide) rfl (fun ls hl => ?_)
  refine lv_iload_n hx hb dX7_vote_7 rfl (lv_at hl 4 rfl) ?_
  refine q_if_lt (tgt := 16) hx hb hf dX7_vote_8 (by decide) (fun hf => ?_) (fun hf => ?_)
  · exact q_thr (fun _ _ => rfl) hf hfl X hK hw hl.1 hk htab ax_IllegalArgumentException (List.mem_of_getElem? (i := 7) rfl) dX7_vote_16 dX7_vote_19 dX7_vote_20 dX7_vote_22 dX7_vote_25 (Nat.le_of_ble_eq_true rfl) (Nat.le_of_ble_eq_true rfl) (Nat.le_of_ble_eq_true rfl) (Nat.le_of_ble_eq_true rfl) (Nat.le_of_ble_eq_true rfl) (Nat.le_of_ble_eq_true rfl)
  refine lv_iload_n hx hb dX7_vote_11 rfl (lv_at hl 4 rfl) ?_
  refine lv_iconst (v := 3) hx hb dX7_vote_12 (by decide) ?_
  refine q_ic_le (tgt := 26) hx hb hf dX7_vote_13 (by decide) (fun hf => ?_) (fun hf => ?_)
  · refine lv_aload hx hb dX7_vote_26 (lv_at hl 0 rfl) ?_
    refine lv_iload_n hx hb dX7_vote_28 rfl (lv_at hl 3 rfl) ?_
    refine q_xV (fun _ _ => rfl) hf hw (fun u h => q_rxS (As := [.ref (ga Γ 4 u1), .int x2]) (rest := []) X hK hw (kX7_needSeen hfl ho_u1 h) msX7_needSeen lk_X7_141 ⟨Nat.le_of_ble_eq_true rfl, Nat.le_of_ble_eq_true rfl⟩ rfl hl.1 rfl (Nat.le_of_ble_eq_true rfl) dX7_vote_29 ⟨Nat.le_of_ble_eq_true rfl, Nat.le_of_ble_eq_true rfl⟩) hk htab (Nat.le_of_ble_eq_true rfl) (Nat.le_of_ble_eq_true rfl) (fun _ σ3 H locs hf hw hq => ?_)
    refine lv_aload hx hb dX7_vote_32 (lv_at hl 0 rfl) ?_
    refine q_get (v := .ref (ga Γ 7 u1)) hx hb hK hw hown in_X5 ins_X5 (rfl : vwCl[7]? = some (RX5, TX5, 8)) rfl ho_u1 3 (by decide) 301 fl_X7_79 rfl rfl dX7_vote_34 ?_
    refine lv_iload_n hx hb dX7_vote_37 rfl (lv_at hl 2 rfl) ?_
    refine lv_iload_n hx hb dX7_vote_38 rfl (lv_at hl 3 rfl) ?_
    refine q_pI hf hw (fun v h => q_rV (As := [.int x1, .int x2]) (rest := []) (q := (RX6, TX6, 2)) X hK hw rfl (Nat.lt_of_lt_of_le ho_u1 (Nat.le_of_ble_eq_true rfl : 3 ≤ cnt (gn Γ) 7)) (rfl : vwCl[8]? = _) (kX6_votesBy (Nat.lt_of_lt_of_le ho_u1 (Nat.le_of_ble_eq_true rfl : 3 ≤ cnt (gn Γ) 7)) h) mvX6_votesBy lk_X7_185 ⟨Nat.le_of_ble_eq_true rfl, Nat.le_of_ble_eq_true rfl⟩ rfl hl.1 rfl (Nat.le_of_ble_eq_true rfl) dX7_vote_39 ⟨Nat.le_of_ble_eq_true rfl, Nat.le_of_ble_eq_true rfl⟩) (fun v4 H locs hf hw => ?_)
    refine lv_istore (lv' := [(5, .int v4), (4, .ref (ga Γ 4 u1)), (0, .ref (ga Γ 0 0)), (1, .int x1), (2, .int x2), (3, .int x3)]) hx hb dX7_vote_42 hl (by decide) rfl (fun ls hl => ?_)
    refine lv_aload hx hb dX7_vote_44 (lv_at hl 1 rfl) ?_
    refine q_get (v := .ref (ga Γ 7 u1)) hx hb hK hw hown in_X5 ins_X5 (rfl : vwCl[7]? = some (RX5, TX5, 8)) rfl ho_u1 3 (by decide) 301 fl_X7_79 rfl rfl dX7_vote_46 ?_
    refine q_pI hf hw (fun v h => q_rV (As := []) (rest := []) (q := (RX6, TX6, 2)) X hK hw rfl (Nat.lt_of_lt_of_le ho_u1 (Nat.le_of_ble_eq_true rfl : 3 ≤ cnt (gn Γ) 7)) (rfl : vwCl[8]? = _) (kX6_areVotesShown (Nat.lt_of_lt_of_le ho_u1 (Nat.le_of_ble_eq_true rfl : 3 ≤ cnt (gn Γ) 7)) h) mvX6_areVotesShown lk_X7_188 ⟨Nat.le_of_ble_eq_true rfl, Nat.le_of_ble_eq_true rfl⟩ rfl hl.1 rfl (Nat.le_of_ble_eq_true rfl) dX7_vote_49 ⟨Nat.le_of_ble_eq_true rfl, Nat.le_of_ble_eq_true rfl⟩) (fun v5 H locs hf hw => ?_)
    refine q_if_ne (tgt := 73) hx hb hf dX7_vote_52 (by decide) (fun hf => ?_) (fun hf => ?_)
    · exact q_thr (fun _ _ => rfl) hf hfl X hK hw hl.1 hk htab ax_UnsupportedOperationException (List.mem_of_getElem? (i := 8) rfl) dX7_vote_73 dX7_vote_76 dX7_vote_77 dX7_vote_79 dX7_vote_82 (Nat.le_of_ble_eq_true rfl) (Nat.le_of_ble_eq_true rfl) (Nat.le_of_ble_eq_true rfl) (Nat.le_of_ble_eq_true rfl) (Nat.le_of_ble_eq_true rfl) (Nat.le_of_ble_eq_true rfl)
    refine lv_aload hx hb dX7_vote_55 (lv_at hl 1 rfl) ?_
    refine q_get (v := .ref (ga Γ 7 u1)) hx hb hK hw hown in_X5 ins_X5 (rfl : vwCl[7]? = some (RX5, TX5, 8)) rfl ho_u1 3 (by decide) 301 fl_X7_79 rfl rfl dX7_vote_57 ?_
    refine lv_iload_n hx hb dX7_vote_60 rfl (lv_at hl 3 rfl) ?_
    refine q_pI hf hw (fun v h => q_rV (As := [.int x1]) (rest := []) (q := (RX6, TX6, 2)) X hK hw rfl (Nat.lt_of_lt_of_le ho_u1 (Nat.le_of_ble_eq_true rfl : 3 ≤ cnt (gn Γ) 7)) (rfl : vwCl[8]? = _) (kX6_allVotesBy (Nat.lt_of_lt_of_le ho_u1 (Nat.le_of_ble_eq_true rfl : 3 ≤ cnt (gn Γ) 7)) h) mvX6_allVotesBy lk_X7_192 ⟨Nat.le_of_ble_eq_true rfl, Nat.le_of_ble_eq_true rfl⟩ rfl hl.1 rfl (Nat.le_of_ble_eq_true rfl) dX7_vote_61 ⟨Nat.le_of_ble_eq_true rfl, Nat.le_of_ble_eq_true rfl⟩) (fun v6 H locs hf hw => ?_)
    refine lv_iload hx hb dX7_vote_64 (lv_at hl 0 rfl) ?_
    refine lv_isub hx hb dX7_vote_66 ?_
    refine lv_iload_n hx hb dX7_vote_67 rfl (lv_at hl 5 rfl) ?_
    refine lv_iadd hx hb dX7_vote_68 ?_
    refine lv_iconst (v := 5) hx hb dX7_vote_69 (by decide) ?_
    refine q_ic_le (tgt := 83) hx hb hf dX7_vote_70 (by decide) (fun hf => ?_) (fun hf => ?_)
    · refine lv_aload_n hx hb dX7_vote_83 rfl (lv_at hl 2 rfl) ?_
      refine q_xV (fun _ _ => rfl) hf hw (fun u h => q_rxV (As := []) (rest := []) (q := (RX7, TX7, 5)) X hK hw rfl (Nat.le_of_ble_eq_true rfl : 0 < cnt (gn Γ) 0) (rfl : vwCl[9]? = _) (kX7_needRoom hfl h) mvX7_needRoom lk_X7_76 ⟨Nat.le_of_ble_eq_true rfl, Nat.le_of_ble_eq_true rfl⟩ rfl hl.1 rfl (Nat.le_of_ble_eq_true rfl) dX7_vote_84 ⟨Nat.le_of_ble_eq_true rfl, Nat.le_of_ble_eq_true rfl⟩) hk htab (Nat.le_of_ble_eq_true rfl) (Nat.le_of_ble_eq_true rfl) (fun _ σ7 H locs hf hw hq => ?_)
      refine lv_aload hx hb dX7_vote_87 (lv_at hl 1 rfl) ?_
      refine lv_iload_n hx hb dX7_vote_89 rfl (lv_at hl 3 rfl) ?_
      refine lv_iload_n hx hb dX7_vote_90 rfl (lv_at hl 4 rfl) ?_
      refine q_pI hf hw (fun v h => q_rS (As := [.int x1, .int x2]) (rest := [.ref (ga Γ 4 u1)]) X hK hw (kX7_voteField h) msX7_voteField lk_X7_197 ⟨Nat.le_of_ble_eq_true rfl, Nat.le_of_ble_eq_true rfl⟩ rfl hl.1 rfl (Nat.le_of_ble_eq_true rfl) dX7_vote_91 ⟨Nat.le_of_ble_eq_true rfl, Nat.le_of_ble_eq_true rfl⟩) (fun v8 H locs hf hw => ?_)
      refine lv_iload_n hx hb dX7_vote_94 rfl (lv_at hl 5 rfl) ?_
      refine lv_i2f hx hb dX7_vote_95 ?_
      refine q_eV hf hw (fun τ h => q_rV (As := [.int v8, .float (FP.i2f x3)]) (rest := []) (q := (RX5, TX5, 8)) X hK hw rfl ho_u1 (rfl : vwCl[7]? = _) (kX5_step ho_u1 h) mvX5_step lk_X7_148 ⟨Nat.le_of_ble_eq_true rfl, Nat.le_of_ble_eq_true rfl⟩ rfl hl.1 rfl (Nat.le_of_ble_eq_true rfl) dX7_vote_96 ⟨Nat.le_of_ble_eq_true rfl, Nat.le_of_ble_eq_true rfl⟩) (fun σ9 H locs hf hw => ?_)
      refine lv_iload hx hb dX7_vote_99 (lv_at hl 0 rfl) ?_
      exact q_xiret hf hx hb hr rfl hk hw dX7_vote_101 (Nat.le_of_ble_eq_true rfl) (Nat.le_of_ble_eq_true rfl)
    exact q_thr (fun _ _ => rfl) hf hfl X hK hw hl.1 hk htab ax_UnsupportedOperationException (List.mem_of_getElem? (i := 8) rfl) dX7_vote_73 dX7_vote_76 dX7_vote_77 dX7_vote_79 dX7_vote_82 (Nat.le_of_ble_eq_true rfl) (Nat.le_of_ble_eq_true rfl) (Nat.le_of_ble_eq_true rfl) (Nat.le_of_ble_eq_true rfl) (Nat.le_of_ble_eq_true rfl) (Nat.le_of_ble_eq_true rfl)
  exact q_thr (fun _ _ => rfl) hf hfl X hK hw hl.1 hk htab ax_IllegalArgumentException (List.mem_of_getElem? (i := 7) rfl) dX7_vote_16 dX7_vote_19 dX7_vote_20 dX7_vote_22 dX7_vote_25 (Nat.le_of_ble_eq_true rfl) (Nat.le_of_ble_eq_true rfl) (Nat.le_of_ble_eq_true rfl) (Nat.le_of_ble_eq_true rfl) (Nat.le_of_ble_eq_true rfl) (Nat.le_of_ble_eq_true rfl)
set_option maxRecDepth 100000 in
theorem kX7_show {Γ : Gm} {l : Launch} (hfl : l.stackTraces = false) {N : Nat} {σ : St} {x1 : Int32} {x2 : Int32} {r : (Int32 ⊕ String) × St}  (hf : fX7_show N σ x1 x2 = some r) : CX Γ STR l yX7_show cX7_show 5 (some (.boolean)) 9 125 2 12 [.ref (ga Γ 0 0), .int x1, .int x2] (rsI r) σ := by
  unfold fX7_show at hf
  refine cx_body (lv := [(0, .ref (ga Γ 0 0)), (1, .int x1), (2, .int x2)]) (by decide +kernel) rfl (Nat.le_of_ble_eq_true rfl) ?_
  intro p e s m below meth c ls X hr hk hK hw hl htab
  have hx := X.1
  have hb := X.2.1
  have hown := X.2.2.2
  refine lv_aload_n hx hb dX7_show_0 rfl (lv_at hl 0 rfl) ?_
  refine lv_iload_n hx hb dX7_show_1 rfl (lv_at hl 1 rfl) ?_
  refine q_xR (k := 4) (fun _ _ => rfl) hf hw (fun u h => q_rxV (As := [.int x1]) (rest := []) (q := (RX7, TX7, 5)) X hK hw rfl (Nat.le_of_ble_eq_true rfl : 0 < cnt (gn Γ) 0) (rfl : vwCl[9]? = _) (kX7_needUser hfl h) mvX7_needUser lk_X7_48 ⟨Nat.le_of_ble_eq_true rfl, Nat.le_of_ble_eq_true rfl⟩ rfl hl.1 rfl (Nat.le_of_ble_eq_true rfl) dX7_show_2 ⟨Nat.le_of_ble_eq_true rfl, Nat.le_of_ble_eq_true rfl⟩) hk htab (Nat.le_of_ble_eq_true rfl) (Nat.le_of_ble_eq_true rfl) (fun u1 σ2 H locs hf hw hq => ?_)
  have ho_u1 : u1 < 3 := ltX7_needUser hq
  refine lv_astore_n (lv' := [(3, .ref (ga Γ 4 u1)), (0, .ref (ga Γ 0 0)), (1, .int x1), (2, .int x2)]) hx hb dX7_show_5 rfl hl (by decide) rfl (fun ls hl => ?_)
  refine lv_aload_n hx hb dX7_show_6 rfl (lv_at hl 1 rfl) ?_
  refine q_xV (fun _ _ => rfl) hf hw (fun u h => q_rxV (As := []) (rest := []) (q := (RX7, TX7, 5)) X hK hw rfl (Nat.le_of_ble_eq_true rfl : 0 < cnt (gn Γ) 0) (rfl : vwCl[9]? = _) (kX7_needRoom hfl h) mvX7_needRoom lk_X7_76 ⟨Nat.le_of_ble_eq_true rfl, Nat.le_of_ble_eq_true rfl⟩ rfl hl.1 rfl (Nat.le_of_ble_eq_true rfl) dX7_show_7 ⟨Nat.le_of_ble_eq_true rfl, Nat.le_of_ble_eq_true rfl⟩) hk htab (Nat.le_of_ble_eq_true rfl) (Nat.le_of_ble_eq_true rfl) (fun _ σ3 H locs hf hw hq => ?_)
  refine lv_aload_n hx hb dX7_show_10 rfl (lv_at hl 0 rfl) ?_
  refine q_get (v := .ref (ga Γ 7 u1)) hx hb hK hw hown in_X5 ins_X5 (rfl : vwCl[7]? = some (RX5, TX5, 8)) rfl ho_u1 3 (by decide) 301 fl_X7_79 rfl rfl dX7_show_11 ?_
  refine q_pI hf hw (fun v h => q_rV (As := []) (rest := []) (q := (RX6, TX6, 2)) X hK hw rfl (Nat.lt_of_lt_of_le ho_u1 (Nat.le_of_ble_eq_true rfl : 3 ≤ cnt (gn Γ) 7)) (rfl : vwCl[8]? = _) (kX6_areVotesShown (Nat.lt_of_lt_of_le ho_u1 (Nat.le_of_ble_eq_true rfl : 3 ≤ cnt (gn Γ) 7)) h) mvX6_areVotesShown lk_X7_188 ⟨Nat.le_of_ble_eq_true rfl, Nat.le_of_ble_eq_true rfl⟩ rfl hl.1 rfl (Nat.le_of_ble_eq_true rfl) dX7_show_14 ⟨Nat.le_of_ble_eq_true rfl, Nat.le_of_ble_eq_true rfl⟩) (fun v4 H locs hf hw => ?_)
  refine lv_istore (lv' := [(4, .int v4), (3, .ref (ga Γ 4 u1)), (0, .ref (ga Γ 0 0)), (1, .int x1), (2, .int x2)]) hx hb dX7_show_17 hl (by decide) rfl (fun ls hl => ?_)
  refine lv_aload_n hx hb dX7_show_19 rfl (lv_at hl 1 rfl) ?_
  refine lv_bipush (v := 92) hx hb dX7_show_20 (by decide) ?_
  refine lv_iload_n hx hb dX7_show_22 rfl (lv_at hl 4 rfl) ?_
  refine q_if_eq (tgt := 30) hx hb hf dX7_show_23 (by decide) (fun hf => ?_) (fun hf => ?_)
  · refine lv_fconst0 hx hb dX7_show_30 ?_
    refine q_eV hf hw (fun τ h => q_rV (As := [.int (92 : Int32), .float (0 : UInt32)]) (rest := []) (q := (RX5, TX5, 8)) X hK hw rfl ho_u1 (rfl : vwCl[7]? = _) (kX5_step ho_u1 h) mvX5_step lk_X7_148 ⟨Nat.le_of_ble_eq_true rfl, Nat.le_of_ble_eq_true rfl⟩ rfl hl.1 rfl (Nat.le_of_ble_eq_true rfl) dX7_show_31 ⟨Nat.le_of_ble_eq_true rfl, Nat.le_of_ble_eq_true rfl⟩) (fun σ5 H locs hf hw => ?_)
    refine lv_iload hx hb dX7_show_34 (lv_at hl 0 rfl) ?_
    exact q_xnret hf hx hb hr vn_Z hk hw dX7_show_36 (Nat.le_of_ble_eq_true rfl) (Nat.le_of_ble_eq_true rfl)
  refine lv_fconst1 hx hb dX7_show_26 ?_
  refine lv_goto (tgt := 31) hx hb dX7_show_27 (by decide) ?_
  refine q_eV hf hw (fun τ h => q_rV (As := [.int (92 : Int32), .float (1065353216 : UInt32)]) (rest := []) (q := (RX5, TX5, 8)) X hK hw rfl ho_u1 (rfl : vwCl[7]? = _) (kX5_step ho_u1 h) mvX5_step lk_X7_148 ⟨Nat.le_of_ble_eq_true rfl, Nat.le_of_ble_eq_true rfl⟩ rfl hl.1 rfl (Nat.le_of_ble_eq_true rfl) dX7_show_31 ⟨Nat.le_of_ble_eq_true rfl, Nat.le_of_ble_eq_true rfl⟩) (fun σ6 H locs hf hw => ?_)
  refine lv_iload hx hb dX7_show_34 (lv_at hl 0 rfl) ?_
  exact q_xnret hf hx hb hr vn_Z hk hw dX7_show_36 (Nat.le_of_ble_eq_true rfl) (Nat.le_of_ble_eq_true rfl)
set_option maxRecDepth 100000 in
theorem kX7_takeBack {Γ : Gm} {l : Launch} (hfl : l.stackTraces = false) {N : Nat} {σ : St} {x1 : Int32} {r : (Int32 ⊕ String) × St}  (hf : fX7_takeBack N σ x1 = some r) : CX Γ STR l yX7_takeBack cX7_takeBack 4 (some (.int)) 9 126 3 18 [.ref (ga Γ 0 0), .int x1] (rsI r) σ := by
  unfold fX7_takeBack at hf
  refine cx_body (lv := [(0, .ref (ga Γ 0 0)), (1, .int x1)]) (by decide +kernel) rfl (Nat.le_of_ble_eq_true rfl) ?_
  intro p e s m below meth c ls X hr hk hK hw hl htab
  have hx := X.1
  have hb := X.2.1
  have hown := X.2.2.2
  refine lv_aload_n hx hb dX7_takeBack_0 rfl (lv_at hl 0 rfl) ?_
  refine lv_iload_n hx hb dX7_takeBack_1 rfl (lv_at hl 1 rfl) ?_
  refine q_xR (k := 4) (fun _ _ => rfl) hf hw (fun u h => q_rxV (As := [.int x1]) (rest := []) (q := (RX7, TX7, 5)) X hK hw rfl (Nat.le_of_ble_eq_true rfl : 0 < cnt (gn Γ) 0) (rfl : vwCl[9]? = _) (kX7_needUser hfl h) mvX7_needUser lk_X7_48 ⟨Nat.le_of_ble_eq_true rfl, Nat.le_of_ble_eq_true rfl⟩ rfl hl.1 rfl (Nat.le_of_ble_eq_true rfl) dX7_takeBack_2 ⟨Nat.le_of_ble_eq_true rfl, Nat.le_of_ble_eq_true rfl⟩) hk htab (Nat.le_of_ble_eq_true rfl) (Nat.le_of_ble_eq_true rfl) (fun u1 σ2 H locs hf hw hq => ?_)
  have ho_u1 : u1 < 3 := ltX7_needUser hq
  refine lv_astore_n (lv' := [(2, .ref (ga Γ 4 u1)), (0, .ref (ga Γ 0 0)), (1, .int x1)]) hx hb dX7_takeBack_5 rfl hl (by decide) rfl (fun ls hl => ?_)
  refine lv_aload_n hx hb dX7_takeBack_6 rfl (lv_at hl 1 rfl) ?_
  refine q_get (v := .ref (ga Γ 1 0)) hx hb hK hw hown in_X7 ins_X7 (rfl : vwCl[9]? = some (RX7, TX7, 5)) rfl (Nat.le_of_ble_eq_true rfl : 0 < cnt (gn Γ) 0) 0 (by decide) 324 fl_X7_12 rfl rfl dX7_takeBack_7 ?_
  refine lv_iload_n hx hb dX7_takeBack_10 rfl (lv_at hl 2 rfl) ?_
  refine q_pI hf hw (fun v h => q_rV (As := [.int x1]) (rest := []) (q := (RX1, TX1, 13)) X hK hw rfl (Nat.le_of_ble_eq_true rfl : 0 < cnt (gn Γ) 1) (rfl : vwCl[3]? = _) (kX1_lastOpenStepOf h) mvX1_lastOpenStepOf lk_X7_200 ⟨Nat.le_of_ble_eq_true rfl, Nat.le_of_ble_eq_true rfl⟩ rfl hl.1 rfl (Nat.le_of_ble_eq_true rfl) dX7_takeBack_11 ⟨Nat.le_of_ble_eq_true rfl, Nat.le_of_ble_eq_true rfl⟩) (fun v3 H locs hf hw => ?_)
  refine lv_istore_n (lv' := [(3, .int v3), (2, .ref (ga Γ 4 u1)), (0, .ref (ga Γ 0 0)), (1, .int x1)]) hx hb dX7_takeBack_14 rfl hl (by decide) rfl (fun ls hl => ?_)
  refine lv_iload_n hx hb dX7_takeBack_15 rfl (lv_at hl 0 rfl) ?_
  refine lv_iconst (v := (-1)) hx hb dX7_takeBack_16 (by decide) ?_
  refine q_ic_ne (tgt := 30) hx hb hf dX7_takeBack_17 (by decide) (fun hf => ?_) (fun hf => ?_)
  · refine lv_aload_n hx hb dX7_takeBack_30 rfl (lv_at hl 2 rfl) ?_
    refine q_xV (fun _ _ => rfl) hf hw (fun u h => q_rxV (As := []) (rest := []) (q := (RX7, TX7, 5)) X hK hw rfl (Nat.le_of_ble_eq_true rfl : 0 < cnt (gn Γ) 0) (rfl : vwCl[9]? = _) (kX7_needRoom hfl h) mvX7_needRoom lk_X7_76 ⟨Nat.le_of_ble_eq_true rfl, Nat.le_of_ble_eq_true rfl⟩ rfl hl.1 rfl (Nat.le_of_ble_eq_true rfl) dX7_takeBack_31 ⟨Nat.le_of_ble_eq_true rfl, Nat.le_of_ble_eq_true rfl⟩) hk htab (Nat.le_of_ble_eq_true rfl) (Nat.le_of_ble_eq_true rfl) (fun _ σ4 H locs hf hw hq => ?_)
    refine lv_aload_n hx hb dX7_takeBack_34 rfl (lv_at hl 1 rfl) ?_
    refine lv_iload_n hx hb dX7_takeBack_35 rfl (lv_at hl 0 rfl) ?_
    refine q_eI hf hw (fun v τ h => q_rV (As := [.int v3]) (rest := []) (q := (RX5, TX5, 8)) X hK hw rfl ho_u1 (rfl : vwCl[7]? = _) (kX5_undo ho_u1 h) mvX5_undo lk_X7_208 ⟨Nat.le_of_ble_eq_true rfl, Nat.le_of_ble_eq_true rfl⟩ rfl hl.1 rfl (Nat.le_of_ble_eq_true rfl) dX7_takeBack_36 ⟨Nat.le_of_ble_eq_true rfl, Nat.le_of_ble_eq_true rfl⟩) (fun v6 σ5 H locs hf hw => ?_)
    exact q_xiret hf hx hb hr rfl hk hw dX7_takeBack_39 (Nat.le_of_ble_eq_true rfl) (Nat.le_of_ble_eq_true rfl)
  exact q_thrN (fun _ _ => rfl) hf hfl X hK hw hl.1 hk htab ax_NoSuchElementException (List.mem_of_getElem? (i := 9) rfl) dX7_takeBack_20 dX7_takeBack_23 dX7_takeBack_24 dX7_takeBack_26 dX7_takeBack_29 (Nat.le_of_ble_eq_true rfl) (Nat.le_of_ble_eq_true rfl) (Nat.le_of_ble_eq_true rfl) (Nat.le_of_ble_eq_true rfl) (Nat.le_of_ble_eq_true rfl) (Nat.le_of_ble_eq_true rfl)
set_option maxRecDepth 100000 in
theorem kX7_needOperation {Γ : Gm} {l : Launch} (hfl : l.stackTraces = false) {N : Nat} {σ : St} {x1 : Int32} {r : (Unit ⊕ String) × St}  (hf : fX7_needOperation N σ x1 = some r) : CX Γ STR l yX7_needOperation cX7_needOperation 2 none 8 103 1 6 [.ref (ga Γ 0 0), .int x1] (rsV r) σ := by
  unfold fX7_needOperation at hf
  refine cx_body (lv := [(0, .ref (ga Γ 0 0)), (1, .int x1)]) (by decide +kernel) rfl (Nat.le_of_ble_eq_true rfl) ?_
  intro p e s m below meth c ls X hr hk hK hw hl htab
  have hx := X.1
  have hb := X.2.1
  have hown := X.2.2.2
  refine lv_iload_n hx hb dX7_needOperation_0 rfl (lv_at hl 1 rfl) ?_
  refine q_if_lt (tgt := 15) hx hb hf dX7_needOperation_1 (by decide) (fun hf => ?_) (fun hf => ?_)
  · exact q_thrNW (fun _ _ => rfl) hf hfl X hK hw hl.1 hk htab ax_NoSuchElementException (List.mem_of_getElem? (i := 21) rfl) dX7_needOperation_15 dX7_needOperation_18 dX7_needOperation_19 dX7_needOperation_22 dX7_needOperation_25 (Nat.le_of_ble_eq_true rfl) (Nat.le_of_ble_eq_true rfl) (Nat.le_of_ble_eq_true rfl) (Nat.le_of_ble_eq_true rfl) (Nat.le_of_ble_eq_true rfl) (Nat.le_of_ble_eq_true rfl)
  refine lv_iload_n hx hb dX7_needOperation_4 rfl (lv_at hl 1 rfl) ?_
  refine lv_aload_n hx hb dX7_needOperation_5 rfl (lv_at hl 0 rfl) ?_
  refine q_get (v := .ref (ga Γ 1 0)) hx hb hK hw hown in_X7 ins_X7 (rfl : vwCl[9]? = some (RX7, TX7, 5)) rfl (Nat.le_of_ble_eq_true rfl : 0 < cnt (gn Γ) 0) 0 (by decide) 324 fl_X7_12 rfl rfl dX7_needOperation_6 ?_
  refine q_get (v := .int (gI σ 1 0 11)) hx hb hK hw hown in_X1 ins_X1 (rfl : vwCl[3]? = some (RX1, TX1, 13)) rfl (Nat.le_of_ble_eq_true rfl : 0 < cnt (gn Γ) 1) 11 (by decide) 117 fl_X7_228 rfl rfl dX7_needOperation_9 ?_
  refine q_ic_lt (tgt := 26) hx hb hf dX7_needOperation_12 (by decide) (fun hf => ?_) (fun hf => ?_)
  · exact q_xvret hx hb hr hk hw dX7_needOperation_26 hf (Nat.le_of_ble_eq_true rfl) (Nat.le_of_ble_eq_true rfl)
  exact q_thrNW (fun _ _ => rfl) hf hfl X hK hw hl.1 hk htab ax_NoSuchElementException (List.mem_of_getElem? (i := 21) rfl) dX7_needOperation_15 dX7_needOperation_18 dX7_needOperation_19 dX7_needOperation_22 dX7_needOperation_25 (Nat.le_of_ble_eq_true rfl) (Nat.le_of_ble_eq_true rfl) (Nat.le_of_ble_eq_true rfl) (Nat.le_of_ble_eq_true rfl) (Nat.le_of_ble_eq_true rfl) (Nat.le_of_ble_eq_true rfl)
set_option maxRecDepth 100000 in
theorem kX7_deliver {Γ : Gm} {l : Launch} (hfl : l.stackTraces = false) {N : Nat} {σ : St} {x1 : Int32} {x2 : Int32} {r : (Int32 ⊕ String) × St}  (hf : fX7_deliver N σ x1 x2 = some r) : CX Γ STR l yX7_deliver cX7_deliver 4 (some (.int)) 9 125 3 18 [.ref (ga Γ 0 0), .int x1, .int x2] (rsI r) σ := by
  unfold fX7_deliver at hf
  refine cx_body (lv := [(0, .ref (ga Γ 0 0)), (1, .int x1), (2, .int x2)]) (by decide +kernel) rfl (Nat.le_of_ble_eq_true rfl) ?_
  intro p e s m below meth c ls X hr hk hK hw hl htab
  have hx := X.1
  have hb := X.2.1
  have hown := X.2.2.2
  refine lv_aload_n hx hb dX7_deliver_0 rfl (lv_at hl 0 rfl) ?_
  refine lv_iload_n hx hb dX7_deliver_1 rfl (lv_at hl 1 rfl) ?_
  refine q_xR (k := 4) (fun _ _ => rfl) hf hw (fun u h => q_rxV (As := [.int x1]) (rest := []) (q := (RX7, TX7, 5)) X hK hw rfl (Nat.le_of_ble_eq_true rfl : 0 < cnt (gn Γ) 0) (rfl : vwCl[9]? = _) (kX7_needUser hfl h) mvX7_needUser lk_X7_48 ⟨Nat.le_of_ble_eq_true rfl, Nat.le_of_ble_eq_true rfl⟩ rfl hl.1 rfl (Nat.le_of_ble_eq_true rfl) dX7_deliver_2 ⟨Nat.le_of_ble_eq_true rfl, Nat.le_of_ble_eq_true rfl⟩) hk htab (Nat.le_of_ble_eq_true rfl) (Nat.le_of_ble_eq_true rfl) (fun u1 σ2 H locs hf hw hq => ?_)
  have ho_u1 : u1 < 3 := ltX7_needUser hq
  refine lv_astore_n (lv' := [(3, .ref (ga Γ 4 u1)), (0, .ref (ga Γ 0 0)), (1, .int x1), (2, .int x2)]) hx hb dX7_deliver_5 rfl hl (by decide) rfl (fun ls hl => ?_)
  refine lv_aload_n hx hb dX7_deliver_6 rfl (lv_at hl 1 rfl) ?_
  refine lv_iload_n hx hb dX7_deliver_7 rfl (lv_at hl 3 rfl) ?_
  refine q_xV (fun _ _ => rfl) hf hw (fun u h => q_rxV (As := [.int x2]) (rest := []) (q := (RX7, TX7, 5)) X hK hw rfl (Nat.le_of_ble_eq_true rfl : 0 < cnt (gn Γ) 0) (rfl : vwCl[9]? = _) (kX7_needOperation hfl h) mvX7_needOperation lk_X7_211 ⟨Nat.le_of_ble_eq_true rfl, Nat.le_of_ble_eq_true rfl⟩ rfl hl.1 rfl (Nat.le_of_ble_eq_true rfl) dX7_deliver_8 ⟨Nat.le_of_ble_eq_true rfl, Nat.le_of_ble_eq_true rfl⟩) hk htab (Nat.le_of_ble_eq_true rfl) (Nat.le_of_ble_eq_true rfl) (fun _ σ3 H locs hf hw hq => ?_)
  refine lv_aload_n hx hb dX7_deliver_11 rfl (lv_at hl 0 rfl) ?_
  refine lv_iload_n hx hb dX7_deliver_12 rfl (lv_at hl 3 rfl) ?_
  refine q_pI hf hw (fun v h => q_rV (As := [.int x2]) (rest := []) (q := (RX5, TX5, 8)) X hK hw rfl ho_u1 (rfl : vwCl[7]? = _) (kX5_isKnown ho_u1 h) mvX5_isKnown lk_X7_215 ⟨Nat.le_of_ble_eq_true rfl, Nat.le_of_ble_eq_true rfl⟩ rfl hl.1 rfl (Nat.le_of_ble_eq_true rfl) dX7_deliver_13 ⟨Nat.le_of_ble_eq_true rfl, Nat.le_of_ble_eq_true rfl⟩) (fun v4 H locs hf hw => ?_)
  refine q_if_eq (tgt := 29) hx hb hf dX7_deliver_16 (by decide) (fun hf => ?_) (fun hf => ?_)
  · refine lv_aload_n hx hb dX7_deliver_29 rfl (lv_at hl 0 rfl) ?_
    refine lv_iload_n hx hb dX7_deliver_30 rfl (lv_at hl 3 rfl) ?_
    refine q_eV hf hw (fun τ h => q_rV (As := [.int x2]) (rest := []) (q := (RX5, TX5, 8)) X hK hw rfl ho_u1 (rfl : vwCl[7]? = _) (kX5_learn ho_u1 h) mvX5_learn lk_X7_220 ⟨Nat.le_of_ble_eq_true rfl, Nat.le_of_ble_eq_true rfl⟩ rfl hl.1 rfl (Nat.le_of_ble_eq_true rfl) dX7_deliver_31 ⟨Nat.le_of_ble_eq_true rfl, Nat.le_of_ble_eq_true rfl⟩) (fun σ5 H locs hf hw => ?_)
    refine lv_aload_n hx hb dX7_deliver_34 rfl (lv_at hl 0 rfl) ?_
    refine q_get (v := .int (gI σ5 4 u1 5)) hx hb hK hw hown in_X5 ins_X5 (rfl : vwCl[7]? = some (RX5, TX5, 8)) rfl ho_u1 5 (by decide) 304 fl_X7_223 rfl rfl dX7_deliver_35 ?_
    exact q_xiret hf hx hb hr rfl hk hw dX7_deliver_38 (Nat.le_of_ble_eq_true rfl) (Nat.le_of_ble_eq_true rfl)
  exact q_thr (fun _ _ => rfl) hf hfl X hK hw hl.1 hk htab ax_IllegalStateException (List.mem_of_getElem? (i := 10) rfl) dX7_deliver_19 dX7_deliver_22 dX7_deliver_23 dX7_deliver_25 dX7_deliver_28 (Nat.le_of_ble_eq_true rfl) (Nat.le_of_ble_eq_true rfl) (Nat.le_of_ble_eq_true rfl) (Nat.le_of_ble_eq_true rfl) (Nat.le_of_ble_eq_true rfl) (Nat.le_of_ble_eq_true rfl)
set_option maxRecDepth 100000 in
theorem kX7_sync {Γ : Gm} {l : Launch} (hfl : l.stackTraces = false) {N : Nat} {σ : St} {x1 : Int32} {x2 : Int32} {r : (Int32 ⊕ String) × St}  (hf : fX7_sync N σ x1 x2 = some r) : CX Γ STR l yX7_sync cX7_sync 8 (some (.int)) 9 125 3 18 [.ref (ga Γ 0 0), .int x1, .int x2] (rsI r) σ := by
  unfold fX7_sync at hf
  refine cx_body (lv := [(0, .ref (ga Γ 0 0)), (1, .int x1), (2, .int x2)]) (by decide +kernel) rfl (Nat.le_of_ble_eq_true rfl) ?_
  intro p e s m below meth c ls X hr hk hK hw hl htab
  have hx := X.1
  have hb := X.2.1
  have hown := X.2.2.2
  refine lv_aload_n hx hb dX7_sync_0 rfl (lv_at hl 0 rfl) ?_
  refine lv_iload_n hx hb dX7_sync_1 rfl (lv_at hl 1 rfl) ?_
  refine q_xR (k := 4) (fun _ _ => rfl) hf hw (fun u h => q_rxV (As := [.int x1]) (rest := []) (q := (RX7, TX7, 5)) X hK hw rfl (Nat.le_of_ble_eq_true rfl : 0 < cnt (gn Γ) 0) (rfl : vwCl[9]? = _) (kX7_needUser hfl h) mvX7_needUser lk_X7_48 ⟨Nat.le_of_ble_eq_true rfl, Nat.le_of_ble_eq_true rfl⟩ rfl hl.1 rfl (Nat.le_of_ble_eq_true rfl) dX7_sync_2 ⟨Nat.le_of_ble_eq_true rfl, Nat.le_of_ble_eq_true rfl⟩) hk htab (Nat.le_of_ble_eq_true rfl) (Nat.le_of_ble_eq_true rfl) (fun u1 σ2 H locs hf hw hq => ?_)
  have ho_u1 : u1 < 3 := ltX7_needUser hq
  refine lv_astore_n (lv' := [(3, .ref (ga Γ 4 u1)), (0, .ref (ga Γ 0 0)), (1, .int x1), (2, .int x2)]) hx hb dX7_sync_5 rfl hl (by decide) rfl (fun ls hl => ?_)
  refine lv_aload_n hx hb dX7_sync_6 rfl (lv_at hl 1 rfl) ?_
  refine lv_iload_n hx hb dX7_sync_7 rfl (lv_at hl 3 rfl) ?_
  refine q_xR (k := 4) (fun _ _ => rfl) hf hw (fun u h => q_rxV (As := [.int x2]) (rest := []) (q := (RX7, TX7, 5)) X hK hw rfl (Nat.le_of_ble_eq_true rfl : 0 < cnt (gn Γ) 0) (rfl : vwCl[9]? = _) (kX7_needUser hfl h) mvX7_needUser lk_X7_48 ⟨Nat.le_of_ble_eq_true rfl, Nat.le_of_ble_eq_true rfl⟩ rfl hl.1 rfl (Nat.le_of_ble_eq_true rfl) dX7_sync_8 ⟨Nat.le_of_ble_eq_true rfl, Nat.le_of_ble_eq_true rfl⟩) hk htab (Nat.le_of_ble_eq_true rfl) (Nat.le_of_ble_eq_true rfl) (fun u3 σ4 H locs hf hw hq => ?_)
  have ho_u3 : u3 < 3 := ltX7_needUser hq
  refine lv_astore (lv' := [(4, .ref (ga Γ 4 u3)), (3, .ref (ga Γ 4 u1)), (0, .ref (ga Γ 0 0)), (1, .int x1), (2, .int x2)]) hx hb dX7_sync_11 hl (by decide) rfl (fun ls hl => ?_)
  refine lv_iload_n hx hb dX7_sync_13 rfl (lv_at hl 3 rfl) ?_
  refine lv_iload_n hx hb dX7_sync_14 rfl (lv_at hl 4 rfl) ?_
  refine q_ic_ne (tgt := 28) hx hb hf dX7_sync_15 (by decide) (fun hf => ?_) (fun hf => ?_)
  · refine lv_iconst (v := 0) hx hb dX7_sync_28 (by decide) ?_
    refine lv_istore (lv' := [(5, .int (0 : Int32)), (4, .ref (ga Γ 4 u3)), (3, .ref (ga Γ 4 u1)), (0, .ref (ga Γ 0 0)), (1, .int x1), (2, .int x2)]) hx hb dX7_sync_29 hl (by decide) rfl (fun ls hl => ?_)
    refine lv_iconst (v := 0) hx hb dX7_sync_31 (by decide) ?_
    refine lv_istore (lv' := [(6, .int (0 : Int32)), (5, .int (0 : Int32)), (4, .ref (ga Γ 4 u3)), (3, .ref (ga Γ 4 u1)), (0, .ref (ga Γ 0 0)), (1, .int x1), (2, .int x2)]) hx hb dX7_sync_32 hl (by decide) rfl (fun ls hl => ?_)
    have L34 : ∀ (K : Int32 → Int32 → St → Option (((Int32 ⊕ String) × St))) (hkk : ∀ (y5 : Int32) (y6 : Int32) (σq : St) (H : Heap) (locs : List Loc) (ls : Array Slot), K y5 y6 σq = some r → Sit Γ σq s H locs → lv_has ls 8 [(5, .int y5)] → W p l e { frames := 9, cells := 3, slots := 18, locals := 125 } s m [.ref (ga Γ 0 0), .int x1, .int x2].toArray below meth c H locs 2 12 (QZ Γ below (rsI r) [.ref (ga Γ 0 0), .int x1, .int x2].toArray s 3 18) (F0 m 95 ls [])) (n : Nat) (v5 : Int32) (v6 : Int32) (σ7 : St) (H : Heap) (locs : List Loc) (ls : Array Slot), fX7_sync_L34 K N u1 u3 n v5 v6 σ7 = some r → Sit Γ σ7 s H locs → lv_has ls 8 [(0, .ref (ga Γ 0 0)), (3, .ref (ga Γ 4 u1)), (4, .ref (ga Γ 4 u3)), (5, .int v5), (6, .int v6)] → W p l e { frames := 9, cells := 3, slots := 18, locals := 125 } s m [.ref (ga Γ 0 0), .int x1, .int x2].toArray below meth c H locs 2 12 (QZ Γ below (rsI r) [.ref (ga Γ 0 0), .int x1, .int x2].toArray s 3 18) (F0 m 34 ls []) := by
      intro K hkk n
      induction n with
      | zero =>
        intro _ _ _ _ _ _ hf
        exact nomatch hf
      | succ n ih =>
        intro v5 v6 σ7 H locs ls hf hw hl
        refine lv_iload hx hb dX7_sync_34 (lv_at hl 4 rfl) ?_
        refine lv_aload_n hx hb dX7_sync_36 rfl (lv_at hl 0 rfl) ?_
        refine q_get (v := .ref (ga Γ 1 0)) hx hb hK hw hown in_X7 ins_X7 (rfl : vwCl[9]? = some (RX7, TX7, 5)) rfl (Nat.le_of_ble_eq_true rfl : 0 < cnt (gn Γ) 0) 0 (by decide) 324 fl_X7_12 rfl rfl dX7_sync_37 ?_
        refine q_get (v := .int (gI σ7 1 0 11)) hx hb hK hw hown in_X1 ins_X1 (rfl : vwCl[3]? = some (RX1, TX1, 13)) rfl (Nat.le_of_ble_eq_true rfl : 0 < cnt (gn Γ) 1) 11 (by decide) 117 fl_X7_228 rfl rfl dX7_sync_40 ?_
        refine q_ic_ge (tgt := 95) hx hb hf dX7_sync_43 (by decide) (fun hf => ?_) (fun hf => ?_)
        · exact hkk _ _ _ _ _ _ hf hw (lv_sub hl [3] rfl)
        refine lv_aload_n hx hb dX7_sync_46 rfl (lv_at hl 1 rfl) ?_
        refine lv_iload hx hb dX7_sync_47 (lv_at hl 4 rfl) ?_
        refine q_pI hf hw (fun v h => q_rV (As := [.int v6]) (rest := []) (q := (RX5, TX5, 8)) X hK hw rfl ho_u1 (rfl : vwCl[7]? = _) (kX5_isKnown ho_u1 h) mvX5_isKnown lk_X7_215 ⟨Nat.le_of_ble_eq_true rfl, Nat.le_of_ble_eq_true rfl⟩ rfl hl.1 rfl (Nat.le_of_ble_eq_true rfl) dX7_sync_49 ⟨Nat.le_of_ble_eq_true rfl, Nat.le_of_ble_eq_true rfl⟩) (fun v8 H locs hf hw => ?_)
        refine lv_aload hx hb dX7_sync_52 (lv_at hl 2 rfl) ?_
        refine lv_iload hx hb dX7_sync_54 (lv_at hl 4 rfl) ?_
        refine q_pI hf hw (fun v h => q_rV (As := [.int v6]) (rest := [.int v8]) (q := (RX5, TX5, 8)) X hK hw rfl ho_u3 (rfl : vwCl[7]? = _) (kX5_isKnown ho_u3 h) mvX5_isKnown lk_X7_215 ⟨Nat.le_of_ble_eq_true rfl, Nat.le_of_ble_eq_true rfl⟩ rfl hl.1 rfl (Nat.le_of_ble_eq_true rfl) dX7_sync_56 ⟨Nat.le_of_ble_eq_true rfl, Nat.le_of_ble_eq_true rfl⟩) (fun v9 H locs hf hw => ?_)
        refine q_ic_eq (tgt := 89) hx hb hf dX7_sync_59 (by decide) (fun hf => ?_) (fun hf => ?_)
        · refine q_iinc (lv1 := [(0, .ref (ga Γ 0 0)), (3, .ref (ga Γ 4 u1)), (4, .ref (ga Γ 4 u3)), (5, .int v5)]) (d := 1) hx hb hf dX7_sync_89 hl (k := 4) rfl (by decide) (by decide) rfl (fun v10 ls hf hl => ?_)
          refine lv_goto (tgt := 34) hx hb dX7_sync_92 (by decide) ?_
          exact ih _ _ _ _ _ _ hf hw (lv_sub hl [1, 2, 3, 4, 0] rfl)
        refine lv_aload_n hx hb dX7_sync_62 rfl (lv_at hl 1 rfl) ?_
        refine lv_iload hx hb dX7_sync_63 (lv_at hl 4 rfl) ?_
        refine q_pI hf hw (fun v h => q_rV (As := [.int v6]) (rest := []) (q := (RX5, TX5, 8)) X hK hw rfl ho_u1 (rfl : vwCl[7]? = _) (kX5_isKnown ho_u1 h) mvX5_isKnown lk_X7_215 ⟨Nat.le_of_ble_eq_true rfl, Nat.le_of_ble_eq_true rfl⟩ rfl hl.1 rfl (Nat.le_of_ble_eq_true rfl) dX7_sync_65 ⟨Nat.le_of_ble_eq_true rfl, Nat.le_of_ble_eq_true rfl⟩) (fun v11 H locs hf hw => ?_)
        refine q_if_eq (tgt := 76) hx hb hf dX7_sync_68 (by decide) (fun hf => ?_) (fun hf => ?_)
        · refine lv_aload_n hx hb dX7_sync_76 rfl (lv_at hl 1 rfl) ?_
          refine lv_astore (lv' := [(7, .ref (ga Γ 4 u1)), (0, .ref (ga Γ 0 0)), (3, .ref (ga Γ 4 u1)), (4, .ref (ga Γ 4 u3)), (5, .int v5), (6, .int v6)]) hx hb dX7_sync_77 hl (by decide) rfl (fun ls hl => ?_)
          refine lv_aload hx hb dX7_sync_79 (lv_at hl 0 rfl) ?_
          refine lv_iload hx hb dX7_sync_81 (lv_at hl 5 rfl) ?_
          refine q_eV hf hw (fun τ h => q_rV (As := [.int v6]) (rest := []) (q := (RX5, TX5, 8)) X hK hw rfl ho_u1 (rfl : vwCl[7]? = _) (kX5_learn ho_u1 h) mvX5_learn lk_X7_220 ⟨Nat.le_of_ble_eq_true rfl, Nat.le_of_ble_eq_true rfl⟩ rfl hl.1 rfl (Nat.le_of_ble_eq_true rfl) dX7_sync_83 ⟨Nat.le_of_ble_eq_true rfl, Nat.le_of_ble_eq_true rfl⟩) (fun σ12 H locs hf hw => ?_)
          refine q_iinc (lv1 := [(7, .ref (ga Γ 4 u1)), (0, .ref (ga Γ 0 0)), (3, .ref (ga Γ 4 u1)), (4, .ref (ga Γ 4 u3)), (6, .int v6)]) (d := 1) hx hb hf dX7_sync_86 hl (k := 4) rfl (by decide) (by decide) rfl (fun v13 ls hf hl => ?_)
          refine q_iinc (lv1 := [(5, .int v13), (7, .ref (ga Γ 4 u1)), (0, .ref (ga Γ 0 0)), (3, .ref (ga Γ 4 u1)), (4, .ref (ga Γ 4 u3))]) (d := 1) hx hb hf dX7_sync_89 hl (k := 5) rfl (by decide) (by decide) rfl (fun v14 ls hf hl => ?_)
          refine lv_goto (tgt := 34) hx hb dX7_sync_92 (by decide) ?_
          exact ih _ _ _ _ _ _ hf hw (lv_sub hl [3, 4, 5, 1, 0] rfl)
        refine lv_aload hx hb dX7_sync_71 (lv_at hl 2 rfl) ?_
        refine lv_goto (tgt := 77) hx hb dX7_sync_73 (by decide) ?_
        refine lv_astore (lv' := [(7, .ref (ga Γ 4 u3)), (0, .ref (ga Γ 0 0)), (3, .ref (ga Γ 4 u1)), (4, .ref (ga Γ 4 u3)), (5, .int v5), (6, .int v6)]) hx hb dX7_sync_77 hl (by decide) rfl (fun ls hl => ?_)
        refine lv_aload hx hb dX7_sync_79 (lv_at hl 0 rfl) ?_
        refine lv_iload hx hb dX7_sync_81 (lv_at hl 5 rfl) ?_
        refine q_eV hf hw (fun τ h => q_rV (As := [.int v6]) (rest := []) (q := (RX5, TX5, 8)) X hK hw rfl ho_u3 (rfl : vwCl[7]? = _) (kX5_learn ho_u3 h) mvX5_learn lk_X7_220 ⟨Nat.le_of_ble_eq_true rfl, Nat.le_of_ble_eq_true rfl⟩ rfl hl.1 rfl (Nat.le_of_ble_eq_true rfl) dX7_sync_83 ⟨Nat.le_of_ble_eq_true rfl, Nat.le_of_ble_eq_true rfl⟩) (fun σ15 H locs hf hw => ?_)
        refine q_iinc (lv1 := [(7, .ref (ga Γ 4 u3)), (0, .ref (ga Γ 0 0)), (3, .ref (ga Γ 4 u1)), (4, .ref (ga Γ 4 u3)), (6, .int v6)]) (d := 1) hx hb hf dX7_sync_86 hl (k := 4) rfl (by decide) (by decide) rfl (fun v16 ls hf hl => ?_)
        refine q_iinc (lv1 := [(5, .int v16), (7, .ref (ga Γ 4 u3)), (0, .ref (ga Γ 0 0)), (3, .ref (ga Γ 4 u1)), (4, .ref (ga Γ 4 u3))]) (d := 1) hx hb hf dX7_sync_89 hl (k := 5) rfl (by decide) (by decide) rfl (fun v17 ls hf hl => ?_)
        refine lv_goto (tgt := 34) hx hb dX7_sync_92 (by decide) ?_
        exact ih _ _ _ _ _ _ hf hw (lv_sub hl [3, 4, 5, 1, 0] rfl)
    refine L34 _ (fun v18 _ σ19 H locs ls hf hw hl => ?_) N (0 : Int32) (0 : Int32) σ4 _ _ _ hf hw (lv_sub hl [4, 3, 2, 1, 0] rfl)
    refine lv_iload hx hb dX7_sync_95 (lv_at hl 0 rfl) ?_
    exact q_xiret hf hx hb hr rfl hk hw dX7_sync_97 (Nat.le_of_ble_eq_true rfl) (Nat.le_of_ble_eq_true rfl)
  exact q_thr (fun _ _ => rfl) hf hfl X hK hw hl.1 hk htab ax_IllegalArgumentException (List.mem_of_getElem? (i := 11) rfl) dX7_sync_18 dX7_sync_21 dX7_sync_22 dX7_sync_24 dX7_sync_27 (Nat.le_of_ble_eq_true rfl) (Nat.le_of_ble_eq_true rfl) (Nat.le_of_ble_eq_true rfl) (Nat.le_of_ble_eq_true rfl) (Nat.le_of_ble_eq_true rfl) (Nat.le_of_ble_eq_true rfl)
set_option maxRecDepth 100000 in
theorem kX7_userOf {Γ : Gm} {l : Launch} (hfl : l.stackTraces = false) {N : Nat} {σ : St} {x1 : Int32} {r : (Int32 ⊕ String) × St}  (hf : fX7_userOf N σ x1 = some r) : CX Γ STR l yX7_userOf cX7_userOf 2 (some (.int)) 9 124 1 6 [.ref (ga Γ 0 0), .int x1] (rsI r) σ := by
  unfold fX7_userOf at hf
  refine cx_body (lv := [(0, .ref (ga Γ 0 0)), (1, .int x1)]) (by decide +kernel) rfl (Nat.le_of_ble_eq_true rfl) ?_
  intro p e s m below meth c ls X hr hk hK hw hl htab
  have hx := X.1
  have hb := X.2.1
  have hown := X.2.2.2
  refine lv_aload_n hx hb dX7_userOf_0 rfl (lv_at hl 0 rfl) ?_
  refine lv_iload_n hx hb dX7_userOf_1 rfl (lv_at hl 1 rfl) ?_
  refine q_xV (fun _ _ => rfl) hf hw (fun u h => q_rxV (As := [.int x1]) (rest := []) (q := (RX7, TX7, 5)) X hK hw rfl (Nat.le_of_ble_eq_true rfl : 0 < cnt (gn Γ) 0) (rfl : vwCl[9]? = _) (kX7_needOperation hfl h) mvX7_needOperation lk_X7_211 ⟨Nat.le_of_ble_eq_true rfl, Nat.le_of_ble_eq_true rfl⟩ rfl hl.1 rfl (Nat.le_of_ble_eq_true rfl) dX7_userOf_2 ⟨Nat.le_of_ble_eq_true rfl, Nat.le_of_ble_eq_true rfl⟩) hk htab (Nat.le_of_ble_eq_true rfl) (Nat.le_of_ble_eq_true rfl) (fun _ σ1 H locs hf hw hq => ?_)
  refine lv_aload_n hx hb dX7_userOf_5 rfl (lv_at hl 0 rfl) ?_
  refine q_get (v := .ref (ga Γ 1 0)) hx hb hK hw hown in_X7 ins_X7 (rfl : vwCl[9]? = some (RX7, TX7, 5)) rfl (Nat.le_of_ble_eq_true rfl : 0 < cnt (gn Γ) 0) 0 (by decide) 324 fl_X7_12 rfl rfl dX7_userOf_6 ?_
  refine lv_iload_n hx hb dX7_userOf_9 rfl (lv_at hl 1 rfl) ?_
  refine q_pI hf hw (fun v h => q_rV (As := [.int x1]) (rest := []) (q := (RX1, TX1, 13)) X hK hw rfl (Nat.le_of_ble_eq_true rfl : 0 < cnt (gn Γ) 1) (rfl : vwCl[3]? = _) (kX1_userAt h) mvX1_userAt lk_X7_231 ⟨Nat.le_of_ble_eq_true rfl, Nat.le_of_ble_eq_true rfl⟩ rfl hl.1 rfl (Nat.le_of_ble_eq_true rfl) dX7_userOf_10 ⟨Nat.le_of_ble_eq_true rfl, Nat.le_of_ble_eq_true rfl⟩) (fun v2 H locs hf hw => ?_)
  exact q_xiret hf hx hb hr rfl hk hw dX7_userOf_13 (Nat.le_of_ble_eq_true rfl) (Nat.le_of_ble_eq_true rfl)
set_option maxRecDepth 100000 in
theorem kX7_clockOf {Γ : Gm} {l : Launch} (hfl : l.stackTraces = false) {N : Nat} {σ : St} {x1 : Int32} {r : (Int32 ⊕ String) × St}  (hf : fX7_clockOf N σ x1 = some r) : CX Γ STR l yX7_clockOf cX7_clockOf 2 (some (.int)) 9 124 1 6 [.ref (ga Γ 0 0), .int x1] (rsI r) σ := by
  unfold fX7_clockOf at hf
  refine cx_body (lv := [(0, .ref (ga Γ 0 0)), (1, .int x1)]) (by decide +kernel) rfl (Nat.le_of_ble_eq_true rfl) ?_
  intro p e s m below meth c ls X hr hk hK hw hl htab
  have hx := X.1
  have hb := X.2.1
  have hown := X.2.2.2
  refine lv_aload_n hx hb dX7_clockOf_0 rfl (lv_at hl 0 rfl) ?_
  refine lv_iload_n hx hb dX7_clockOf_1 rfl (lv_at hl 1 rfl) ?_
  refine q_xV (fun _ _ => rfl) hf hw (fun u h => q_rxV (As := [.int x1]) (rest := []) (q := (RX7, TX7, 5)) X hK hw rfl (Nat.le_of_ble_eq_true rfl : 0 < cnt (gn Γ) 0) (rfl : vwCl[9]? = _) (kX7_needOperation hfl h) mvX7_needOperation lk_X7_211 ⟨Nat.le_of_ble_eq_true rfl, Nat.le_of_ble_eq_true rfl⟩ rfl hl.1 rfl (Nat.le_of_ble_eq_true rfl) dX7_clockOf_2 ⟨Nat.le_of_ble_eq_true rfl, Nat.le_of_ble_eq_true rfl⟩) hk htab (Nat.le_of_ble_eq_true rfl) (Nat.le_of_ble_eq_true rfl) (fun _ σ1 H locs hf hw hq => ?_)
  refine lv_aload_n hx hb dX7_clockOf_5 rfl (lv_at hl 0 rfl) ?_
  refine q_get (v := .ref (ga Γ 1 0)) hx hb hK hw hown in_X7 ins_X7 (rfl : vwCl[9]? = some (RX7, TX7, 5)) rfl (Nat.le_of_ble_eq_true rfl : 0 < cnt (gn Γ) 0) 0 (by decide) 324 fl_X7_12 rfl rfl dX7_clockOf_6 ?_
  refine lv_iload_n hx hb dX7_clockOf_9 rfl (lv_at hl 1 rfl) ?_
  refine q_pI hf hw (fun v h => q_rV (As := [.int x1]) (rest := []) (q := (RX1, TX1, 13)) X hK hw rfl (Nat.le_of_ble_eq_true rfl : 0 < cnt (gn Γ) 1) (rfl : vwCl[3]? = _) (kX1_clockAt h) mvX1_clockAt lk_X7_234 ⟨Nat.le_of_ble_eq_true rfl, Nat.le_of_ble_eq_true rfl⟩ rfl hl.1 rfl (Nat.le_of_ble_eq_true rfl) dX7_clockOf_10 ⟨Nat.le_of_ble_eq_true rfl, Nat.le_of_ble_eq_true rfl⟩) (fun v2 H locs hf hw => ?_)
  exact q_xiret hf hx hb hr rfl hk hw dX7_clockOf_13 (Nat.le_of_ble_eq_true rfl) (Nat.le_of_ble_eq_true rfl)
set_option maxRecDepth 100000 in
theorem kX7_knows {Γ : Gm} {l : Launch} (hfl : l.stackTraces = false) {N : Nat} {σ : St} {x1 : Int32} {x2 : Int32} {r : (Int32 ⊕ String) × St}  (hf : fX7_knows N σ x1 x2 = some r) : CX Γ STR l yX7_knows cX7_knows 4 (some (.boolean)) 9 125 2 12 [.ref (ga Γ 0 0), .int x1, .int x2] (rsI r) σ := by
  unfold fX7_knows at hf
  refine cx_body (lv := [(0, .ref (ga Γ 0 0)), (1, .int x1), (2, .int x2)]) (by decide +kernel) rfl (Nat.le_of_ble_eq_true rfl) ?_
  intro p e s m below meth c ls X hr hk hK hw hl htab
  have hx := X.1
  have hb := X.2.1
  have hown := X.2.2.2
  refine lv_aload_n hx hb dX7_knows_0 rfl (lv_at hl 0 rfl) ?_
  refine lv_iload_n hx hb dX7_knows_1 rfl (lv_at hl 1 rfl) ?_
  refine q_xR (k := 4) (fun _ _ => rfl) hf hw (fun u h => q_rxV (As := [.int x1]) (rest := []) (q := (RX7, TX7, 5)) X hK hw rfl (Nat.le_of_ble_eq_true rfl : 0 < cnt (gn Γ) 0) (rfl : vwCl[9]? = _) (kX7_needUser hfl h) mvX7_needUser lk_X7_48 ⟨Nat.le_of_ble_eq_true rfl, Nat.le_of_ble_eq_true rfl⟩ rfl hl.1 rfl (Nat.le_of_ble_eq_true rfl) dX7_knows_2 ⟨Nat.le_of_ble_eq_true rfl, Nat.le_of_ble_eq_true rfl⟩) hk htab (Nat.le_of_ble_eq_true rfl) (Nat.le_of_ble_eq_true rfl) (fun u1 σ2 H locs hf hw hq => ?_)
  have ho_u1 : u1 < 3 := ltX7_needUser hq
  refine lv_astore_n (lv' := [(3, .ref (ga Γ 4 u1)), (0, .ref (ga Γ 0 0)), (1, .int x1), (2, .int x2)]) hx hb dX7_knows_5 rfl hl (by decide) rfl (fun ls hl => ?_)
  refine lv_aload_n hx hb dX7_knows_6 rfl (lv_at hl 1 rfl) ?_
  refine lv_iload_n hx hb dX7_knows_7 rfl (lv_at hl 3 rfl) ?_
  refine q_xV (fun _ _ => rfl) hf hw (fun u h => q_rxV (As := [.int x2]) (rest := []) (q := (RX7, TX7, 5)) X hK hw rfl (Nat.le_of_ble_eq_true rfl : 0 < cnt (gn Γ) 0) (rfl : vwCl[9]? = _) (kX7_needOperation hfl h) mvX7_needOperation lk_X7_211 ⟨Nat.le_of_ble_eq_true rfl, Nat.le_of_ble_eq_true rfl⟩ rfl hl.1 rfl (Nat.le_of_ble_eq_true rfl) dX7_knows_8 ⟨Nat.le_of_ble_eq_true rfl, Nat.le_of_ble_eq_true rfl⟩) hk htab (Nat.le_of_ble_eq_true rfl) (Nat.le_of_ble_eq_true rfl) (fun _ σ3 H locs hf hw hq => ?_)
  refine lv_aload_n hx hb dX7_knows_11 rfl (lv_at hl 0 rfl) ?_
  refine lv_iload_n hx hb dX7_knows_12 rfl (lv_at hl 3 rfl) ?_
  refine q_pI hf hw (fun v h => q_rV (As := [.int x2]) (rest := []) (q := (RX5, TX5, 8)) X hK hw rfl ho_u1 (rfl : vwCl[7]? = _) (kX5_isKnown ho_u1 h) mvX5_isKnown lk_X7_215 ⟨Nat.le_of_ble_eq_true rfl, Nat.le_of_ble_eq_true rfl⟩ rfl hl.1 rfl (Nat.le_of_ble_eq_true rfl) dX7_knows_13 ⟨Nat.le_of_ble_eq_true rfl, Nat.le_of_ble_eq_true rfl⟩) (fun v4 H locs hf hw => ?_)
  exact q_xnret hf hx hb hr vn_Z hk hw dX7_knows_16 (Nat.le_of_ble_eq_true rfl) (Nat.le_of_ble_eq_true rfl)
