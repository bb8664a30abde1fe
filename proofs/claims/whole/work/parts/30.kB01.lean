/-! Contracts, by program. -/
set_option maxRecDepth 100000 in
theorem kX7_shapes {Γ : Gm} {l : Launch} (hfl : l.stackTraces = false) {N : Nat} {σ : St} {x1 : Int32} {r : (Int32 ⊕ String) × St}  (hf : fX7_shapes N σ x1 = some r) : CX Γ STR l yX7_shapes cX7_shapes 2 (some (.int)) 9 125 1 6 [.ref (ga Γ 0 0), .int x1] (rsI r) σ := by
  unfold fX7_shapes at hf
  refine cx_body (lv := [(0, .ref (ga Γ 0 0)), (1, .int x1)]) (by decide +kernel) rfl (Nat.le_of_ble_eq_true rfl) ?_
  intro p e s m below meth c ls X hr hk hK hw hl htab
  have hx := X.1
  have hb := X.2.1
  have hown := X.2.2.2
  refine lv_aload_n hx hb dX7_shapes_0 rfl (lv_at hl 0 rfl) ?_
  refine lv_iload_n hx hb dX7_shapes_1 rfl (lv_at hl 1 rfl) ?_
  refine q_xR (k := 4) (fun _ _ => rfl) hf hw (fun u h => q_rxV (As := [.int x1]) (rest := []) (q := (RX7, TX7, 5)) X hK hw rfl (Nat.le_of_ble_eq_true rfl : 0 < cnt (gn Γ) 0) (rfl : vwCl[9]? = _) (kX7_needUser hfl h) mvX7_needUser lk_X7_48 ⟨Nat.le_of_ble_eq_true rfl, Nat.le_of_ble_eq_true rfl⟩ rfl hl.1 rfl (Nat.le_of_ble_eq_true rfl) dX7_shapes_2 ⟨Nat.le_of_ble_eq_true rfl, Nat.le_of_ble_eq_true rfl⟩) hk htab (Nat.le_of_ble_eq_true rfl) (Nat.le_of_ble_eq_true rfl) (fun u1 σ2 H locs hf hw hq => ?_)
  have ho_u1 : u1 < 3 := ltX7_needUser hq
  refine q_get (v := .ref (ga Γ 7 u1)) hx hb hK hw hown in_X5 ins_X5 (rfl : vwCl[7]? = some (RX5, TX5, 8)) rfl ho_u1 3 (by decide) 301 fl_X7_79 rfl rfl dX7_shapes_5 ?_
  refine q_pI hf hw (fun v h => q_rV (As := []) (rest := []) (q := (RX6, TX6, 2)) X hK hw rfl (Nat.lt_of_lt_of_le ho_u1 (Nat.le_of_ble_eq_true rfl : 3 ≤ cnt (gn Γ) 7)) (rfl : vwCl[8]? = _) (kX6_countShapes (Nat.lt_of_lt_of_le ho_u1 (Nat.le_of_ble_eq_true rfl : 3 ≤ cnt (gn Γ) 7)) h) mvX6_countShapes lk_X7_83 ⟨Nat.le_of_ble_eq_true rfl, Nat.le_of_ble_eq_true rfl⟩ rfl hl.1 rfl (Nat.le_of_ble_eq_true rfl) dX7_shapes_8 ⟨Nat.le_of_ble_eq_true rfl, Nat.le_of_ble_eq_true rfl⟩) (fun v3 H locs hf hw => ?_)
  exact q_xiret hf hx hb hr rfl hk hw dX7_shapes_11 (Nat.le_of_ble_eq_true rfl) (Nat.le_of_ble_eq_true rfl)
set_option maxRecDepth 100000 in
theorem kX7_sees {Γ : Gm} {l : Launch} (hfl : l.stackTraces = false) {N : Nat} {σ : St} {x1 : Int32} {x2 : Int32} {r : (Int32 ⊕ String) × St}  (hf : fX7_sees N σ x1 x2 = some r) : CX Γ STR l yX7_sees cX7_sees 3 (some (.boolean)) 9 125 1 6 [.ref (ga Γ 0 0), .int x1, .int x2] (rsI r) σ := by
  unfold fX7_sees at hf
  refine cx_body (lv := [(0, .ref (ga Γ 0 0)), (1, .int x1), (2, .int x2)]) (by decide +kernel) rfl (Nat.le_of_ble_eq_true rfl) ?_
  intro p e s m below meth c ls X hr hk hK hw hl htab
  have hx := X.1
  have hb := X.2.1
  have hown := X.2.2.2
  refine lv_aload_n hx hb dX7_sees_0 rfl (lv_at hl 0 rfl) ?_
  refine lv_iload_n hx hb dX7_sees_1 rfl (lv_at hl 1 rfl) ?_
  refine q_xR (k := 4) (fun _ _ => rfl) hf hw (fun u h => q_rxV (As := [.int x1]) (rest := []) (q := (RX7, TX7, 5)) X hK hw rfl (Nat.le_of_ble_eq_true rfl : 0 < cnt (gn Γ) 0) (rfl : vwCl[9]? = _) (kX7_needUser hfl h) mvX7_needUser lk_X7_48 ⟨Nat.le_of_ble_eq_true rfl, Nat.le_of_ble_eq_true rfl⟩ rfl hl.1 rfl (Nat.le_of_ble_eq_true rfl) dX7_sees_2 ⟨Nat.le_of_ble_eq_true rfl, Nat.le_of_ble_eq_true rfl⟩) hk htab (Nat.le_of_ble_eq_true rfl) (Nat.le_of_ble_eq_true rfl) (fun u1 σ2 H locs hf hw hq => ?_)
  have ho_u1 : u1 < 3 := ltX7_needUser hq
  refine q_get (v := .ref (ga Γ 7 u1)) hx hb hK hw hown in_X5 ins_X5 (rfl : vwCl[7]? = some (RX5, TX5, 8)) rfl ho_u1 3 (by decide) 301 fl_X7_79 rfl rfl dX7_sees_5 ?_
  refine lv_iload_n hx hb dX7_sees_8 rfl (lv_at hl 2 rfl) ?_
  refine q_pI hf hw (fun v h => q_rV (As := [.int x2]) (rest := []) (q := (RX6, TX6, 2)) X hK hw rfl (Nat.lt_of_lt_of_le ho_u1 (Nat.le_of_ble_eq_true rfl : 3 ≤ cnt (gn Γ) 7)) (rfl : vwCl[8]? = _) (kX6_isSeen (Nat.lt_of_lt_of_le ho_u1 (Nat.le_of_ble_eq_true rfl : 3 ≤ cnt (gn Γ) 7)) h) mvX6_isSeen lk_X7_237 ⟨Nat.le_of_ble_eq_true rfl, Nat.le_of_ble_eq_true rfl⟩ rfl hl.1 rfl (Nat.le_of_ble_eq_true rfl) dX7_sees_9 ⟨Nat.le_of_ble_eq_true rfl, Nat.le_of_ble_eq_true rfl⟩) (fun v3 H locs hf hw => ?_)
  exact q_xnret hf hx hb hr vn_Z hk hw dX7_sees_12 (Nat.le_of_ble_eq_true rfl) (Nat.le_of_ble_eq_true rfl)
set_option maxRecDepth 100000 in
theorem kX7_needView {Γ : Gm} {l : Launch} (hfl : l.stackTraces = false) {N : Nat} {σ : St} {x1 : Int32} {x2 : Int32} {r : (Nat ⊕ String) × St}  (hf : fX7_needView N σ x1 x2 = some r) : CX Γ STR l yX7_needView cX7_needView 4 (some (.object "Plugboard$View")) 9 125 2 12 [.ref (ga Γ 0 0), .int x1, .int x2] (rsRk Γ 7 r) σ := by
  unfold fX7_needView at hf
  refine cx_body (lv := [(0, .ref (ga Γ 0 0)), (1, .int x1), (2, .int x2)]) (by decide +kernel) rfl (Nat.le_of_ble_eq_true rfl) ?_
  intro p e s m below meth c ls X hr hk hK hw hl htab
  have hx := X.1
  have hb := X.2.1
  have hown := X.2.2.2
  refine lv_aload_n hx hb dX7_needView_0 rfl (lv_at hl 0 rfl) ?_
  refine lv_iload_n hx hb dX7_needView_1 rfl (lv_at hl 1 rfl) ?_
  refine q_xR (k := 4) (fun _ _ => rfl) hf hw (fun u h => q_rxV (As := [.int x1]) (rest := []) (q := (RX7, TX7, 5)) X hK hw rfl (Nat.le_of_ble_eq_true rfl : 0 < cnt (gn Γ) 0) (rfl : vwCl[9]? = _) (kX7_needUser hfl h) mvX7_needUser lk_X7_48 ⟨Nat.le_of_ble_eq_true rfl, Nat.le_of_ble_eq_true rfl⟩ rfl hl.1 rfl (Nat.le_of_ble_eq_true rfl) dX7_needView_2 ⟨Nat.le_of_ble_eq_true rfl, Nat.le_of_ble_eq_true rfl⟩) hk htab (Nat.le_of_ble_eq_true rfl) (Nat.le_of_ble_eq_true rfl) (fun u1 σ2 H locs hf hw hq => ?_)
  have ho_u1 : u1 < 3 := ltX7_needUser hq
  refine lv_astore_n (lv' := [(3, .ref (ga Γ 4 u1)), (0, .ref (ga Γ 0 0)), (1, .int x1), (2, .int x2)]) hx hb dX7_needView_5 rfl hl (by decide) rfl (fun ls hl => ?_)
  refine lv_aload_n hx hb dX7_needView_6 rfl (lv_at hl 0 rfl) ?_
  refine lv_iload_n hx hb dX7_needView_7 rfl (lv_at hl 3 rfl) ?_
  refine q_xV (fun _ _ => rfl) hf hw (fun u h => q_rxS (As := [.ref (ga Γ 4 u1), .int x2]) (rest := []) X hK hw (kX7_needSeen hfl ho_u1 h) msX7_needSeen lk_X7_141 ⟨Nat.le_of_ble_eq_true rfl, Nat.le_of_ble_eq_true rfl⟩ rfl hl.1 rfl (Nat.le_of_ble_eq_true rfl) dX7_needView_8 ⟨Nat.le_of_ble_eq_true rfl, Nat.le_of_ble_eq_true rfl⟩) hk htab (Nat.le_of_ble_eq_true rfl) (Nat.le_of_ble_eq_true rfl) (fun _ σ3 H locs hf hw hq => ?_)
  refine lv_aload_n hx hb dX7_needView_11 rfl (lv_at hl 0 rfl) ?_
  refine q_get (v := .ref (ga Γ 7 u1)) hx hb hK hw hown in_X5 ins_X5 (rfl : vwCl[7]? = some (RX5, TX5, 8)) rfl ho_u1 3 (by decide) 301 fl_X7_79 rfl rfl dX7_needView_12 ?_
  exact q_xaret hf hx hb hr hk hw dX7_needView_15 (Nat.le_of_ble_eq_true rfl) (Nat.le_of_ble_eq_true rfl)
set_option maxRecDepth 100000 in
theorem kX7_columnOf {Γ : Gm} {l : Launch} (hfl : l.stackTraces = false) {N : Nat} {σ : St} {x1 : Int32} {x2 : Int32} {r : (Int32 ⊕ String) × St}  (hf : fX7_columnOf N σ x1 x2 = some r) : CX Γ STR l yX7_columnOf cX7_columnOf 3 (some (.int)) 10 148 2 12 [.ref (ga Γ 0 0), .int x1, .int x2] (rsI r) σ := by
  unfold fX7_columnOf at hf
  refine cx_body (lv := [(0, .ref (ga Γ 0 0)), (1, .int x1), (2, .int x2)]) (by decide +kernel) rfl (Nat.le_of_ble_eq_true rfl) ?_
  intro p e s m below meth c ls X hr hk hK hw hl htab
  have hx := X.1
  have hb := X.2.1
  have hown := X.2.2.2
  refine lv_aload_n hx hb dX7_columnOf_0 rfl (lv_at hl 0 rfl) ?_
  refine lv_iload_n hx hb dX7_columnOf_1 rfl (lv_at hl 1 rfl) ?_
  refine lv_iload_n hx hb dX7_columnOf_2 rfl (lv_at hl 2 rfl) ?_
  refine q_xR (k := 7) (fun _ _ => rfl) hf hw (fun u h => q_rxV (As := [.int x1, .int x2]) (rest := []) (q := (RX7, TX7, 5)) X hK hw rfl (Nat.le_of_ble_eq_true rfl : 0 < cnt (gn Γ) 0) (rfl : vwCl[9]? = _) (kX7_needView hfl h) mvX7_needView lk_X7_240 ⟨Nat.le_of_ble_eq_true rfl, Nat.le_of_ble_eq_true rfl⟩ rfl hl.1 rfl (Nat.le_of_ble_eq_true rfl) dX7_columnOf_3 ⟨Nat.le_of_ble_eq_true rfl, Nat.le_of_ble_eq_true rfl⟩) hk htab (Nat.le_of_ble_eq_true rfl) (Nat.le_of_ble_eq_true rfl) (fun u1 σ2 H locs hf hw hq => ?_)
  have ho_u1 : u1 < 3 := ltX7_needView hq
  refine lv_iload_n hx hb dX7_columnOf_6 rfl (lv_at hl 2 rfl) ?_
  refine q_pI hf hw (fun v h => q_rV (As := [.int x2]) (rest := []) (q := (RX6, TX6, 2)) X hK hw rfl (Nat.lt_of_lt_of_le ho_u1 (Nat.le_of_ble_eq_true rfl : 3 ≤ cnt (gn Γ) 7)) (rfl : vwCl[8]? = _) (kX6_columnAt (Nat.lt_of_lt_of_le ho_u1 (Nat.le_of_ble_eq_true rfl : 3 ≤ cnt (gn Γ) 7)) h) mvX6_columnAt lk_X7_244 ⟨Nat.le_of_ble_eq_true rfl, Nat.le_of_ble_eq_true rfl⟩ rfl hl.1 rfl (Nat.le_of_ble_eq_true rfl) dX7_columnOf_7 ⟨Nat.le_of_ble_eq_true rfl, Nat.le_of_ble_eq_true rfl⟩) (fun v3 H locs hf hw => ?_)
  exact q_xiret hf hx hb hr rfl hk hw dX7_columnOf_10 (Nat.le_of_ble_eq_true rfl) (Nat.le_of_ble_eq_true rfl)
set_option maxRecDepth 100000 in
theorem kX7_rowOf {Γ : Gm} {l : Launch} (hfl : l.stackTraces = false) {N : Nat} {σ : St} {x1 : Int32} {x2 : Int32} {r : (Int32 ⊕ String) × St}  (hf : fX7_rowOf N σ x1 x2 = some r) : CX Γ STR l yX7_rowOf cX7_rowOf 3 (some (.int)) 10 148 2 12 [.ref (ga Γ 0 0), .int x1, .int x2] (rsI r) σ := by
  unfold fX7_rowOf at hf
  refine cx_body (lv := [(0, .ref (ga Γ 0 0)), (1, .int x1), (2, .int x2)]) (by decide +kernel) rfl (Nat.le_of_ble_eq_true rfl) ?_
  intro p e s m below meth c ls X hr hk hK hw hl htab
  have hx := X.1
  have hb := X.2.1
  have hown := X.2.2.2
  refine lv_aload_n hx hb dX7_rowOf_0 rfl (lv_at hl 0 rfl) ?_
  refine lv_iload_n hx hb dX7_rowOf_1 rfl (lv_at hl 1 rfl) ?_
  refine lv_iload_n hx hb dX7_rowOf_2 rfl (lv_at hl 2 rfl) ?_
  refine q_xR (k := 7) (fun _ _ => rfl) hf hw (fun u h => q_rxV (As := [.int x1, .int x2]) (rest := []) (q := (RX7, TX7, 5)) X hK hw rfl (Nat.le_of_ble_eq_true rfl : 0 < cnt (gn Γ) 0) (rfl : vwCl[9]? = _) (kX7_needView hfl h) mvX7_needView lk_X7_240 ⟨Nat.le_of_ble_eq_true rfl, Nat.le_of_ble_eq_true rfl⟩ rfl hl.1 rfl (Nat.le_of_ble_eq_true rfl) dX7_rowOf_3 ⟨Nat.le_of_ble_eq_true rfl, Nat.le_of_ble_eq_true rfl⟩) hk htab (Nat.le_of_ble_eq_true rfl) (Nat.le_of_ble_eq_true rfl) (fun u1 σ2 H locs hf hw hq => ?_)
  have ho_u1 : u1 < 3 := ltX7_needView hq
  refine lv_iload_n hx hb dX7_rowOf_6 rfl (lv_at hl 2 rfl) ?_
  refine q_pI hf hw (fun v h => q_rV (As := [.int x2]) (rest := []) (q := (RX6, TX6, 2)) X hK hw rfl (Nat.lt_of_lt_of_le ho_u1 (Nat.le_of_ble_eq_true rfl : 3 ≤ cnt (gn Γ) 7)) (rfl : vwCl[8]? = _) (kX6_rowAt (Nat.lt_of_lt_of_le ho_u1 (Nat.le_of_ble_eq_true rfl : 3 ≤ cnt (gn Γ) 7)) h) mvX6_rowAt lk_X7_247 ⟨Nat.le_of_ble_eq_true rfl, Nat.le_of_ble_eq_true rfl⟩ rfl hl.1 rfl (Nat.le_of_ble_eq_true rfl) dX7_rowOf_7 ⟨Nat.le_of_ble_eq_true rfl, Nat.le_of_ble_eq_true rfl⟩) (fun v3 H locs hf hw => ?_)
  exact q_xiret hf hx hb hr rfl hk hw dX7_rowOf_10 (Nat.le_of_ble_eq_true rfl) (Nat.le_of_ble_eq_true rfl)
set_option maxRecDepth 100000 in
theorem kX7_rankOf {Γ : Gm} {l : Launch} (hfl : l.stackTraces = false) {N : Nat} {σ : St} {x1 : Int32} {x2 : Int32} {r : (Int32 ⊕ String) × St}  (hf : fX7_rankOf N σ x1 x2 = some r) : CX Γ STR l yX7_rankOf cX7_rankOf 3 (some (.int)) 10 148 2 12 [.ref (ga Γ 0 0), .int x1, .int x2] (rsI r) σ := by
  unfold fX7_rankOf at hf
  refine cx_body (lv := [(0, .ref (ga Γ 0 0)), (1, .int x1), (2, .int x2)]) (by decide +kernel) rfl (Nat.le_of_ble_eq_true rfl) ?_
  intro p e s m below meth c ls X hr hk hK hw hl htab
  have hx := X.1
  have hb := X.2.1
  have hown := X.2.2.2
  refine lv_aload_n hx hb dX7_rankOf_0 rfl (lv_at hl 0 rfl) ?_
  refine lv_iload_n hx hb dX7_rankOf_1 rfl (lv_at hl 1 rfl) ?_
  refine lv_iload_n hx hb dX7_rankOf_2 rfl (lv_at hl 2 rfl) ?_
  refine q_xR (k := 7) (fun _ _ => rfl) hf hw (fun u h => q_rxV (As := [.int x1, .int x2]) (rest := []) (q := (RX7, TX7, 5)) X hK hw rfl (Nat.le_of_ble_eq_true rfl : 0 < cnt (gn Γ) 0) (rfl : vwCl[9]? = _) (kX7_needView hfl h) mvX7_needView lk_X7_240 ⟨Nat.le_of_ble_eq_true rfl, Nat.le_of_ble_eq_true rfl⟩ rfl hl.1 rfl (Nat.le_of_ble_eq_true rfl) dX7_rankOf_3 ⟨Nat.le_of_ble_eq_true rfl, Nat.le_of_ble_eq_true rfl⟩) hk htab (Nat.le_of_ble_eq_true rfl) (Nat.le_of_ble_eq_true rfl) (fun u1 σ2 H locs hf hw hq => ?_)
  have ho_u1 : u1 < 3 := ltX7_needView hq
  refine lv_iload_n hx hb dX7_rankOf_6 rfl (lv_at hl 2 rfl) ?_
  refine q_pI hf hw (fun v h => q_rV (As := [.int x2]) (rest := []) (q := (RX6, TX6, 2)) X hK hw rfl (Nat.lt_of_lt_of_le ho_u1 (Nat.le_of_ble_eq_true rfl : 3 ≤ cnt (gn Γ) 7)) (rfl : vwCl[8]? = _) (kX6_rankAt (Nat.lt_of_lt_of_le ho_u1 (Nat.le_of_ble_eq_true rfl : 3 ≤ cnt (gn Γ) 7)) h) mvX6_rankAt lk_X7_250 ⟨Nat.le_of_ble_eq_true rfl, Nat.le_of_ble_eq_true rfl⟩ rfl hl.1 rfl (Nat.le_of_ble_eq_true rfl) dX7_rankOf_7 ⟨Nat.le_of_ble_eq_true rfl, Nat.le_of_ble_eq_true rfl⟩) (fun v3 H locs hf hw => ?_)
  exact q_xiret hf hx hb hr rfl hk hw dX7_rankOf_10 (Nat.le_of_ble_eq_true rfl) (Nat.le_of_ble_eq_true rfl)
set_option maxRecDepth 100000 in
theorem kX7_shapeAt {Γ : Gm} {l : Launch} (hfl : l.stackTraces = false) {N : Nat} {σ : St} {x1 : Int32} {x2 : Int32} {r : (Int32 ⊕ String) × St}  (hf : fX7_shapeAt N σ x1 x2 = some r) : CX Γ STR l yX7_shapeAt cX7_shapeAt 4 (some (.int)) 9 125 2 12 [.ref (ga Γ 0 0), .int x1, .int x2] (rsI r) σ := by
  unfold fX7_shapeAt at hf
  refine cx_body (lv := [(0, .ref (ga Γ 0 0)), (1, .int x1), (2, .int x2)]) (by decide +kernel) rfl (Nat.le_of_ble_eq_true rfl) ?_
  intro p e s m below meth c ls X hr hk hK hw hl htab
  have hx := X.1
  have hb := X.2.1
  have hown := X.2.2.2
  refine lv_aload_n hx hb dX7_shapeAt_0 rfl (lv_at hl 0 rfl) ?_
  refine lv_iload_n hx hb dX7_shapeAt_1 rfl (lv_at hl 1 rfl) ?_
  refine q_xR (k := 4) (fun _ _ => rfl) hf hw (fun u h => q_rxV (As := [.int x1]) (rest := []) (q := (RX7, TX7, 5)) X hK hw rfl (Nat.le_of_ble_eq_true rfl : 0 < cnt (gn Γ) 0) (rfl : vwCl[9]? = _) (kX7_needUser hfl h) mvX7_needUser lk_X7_48 ⟨Nat.le_of_ble_eq_true rfl, Nat.le_of_ble_eq_true rfl⟩ rfl hl.1 rfl (Nat.le_of_ble_eq_true rfl) dX7_shapeAt_2 ⟨Nat.le_of_ble_eq_true rfl, Nat.le_of_ble_eq_true rfl⟩) hk htab (Nat.le_of_ble_eq_true rfl) (Nat.le_of_ble_eq_true rfl) (fun u1 σ2 H locs hf hw hq => ?_)
  have ho_u1 : u1 < 3 := ltX7_needUser hq
  refine q_get (v := .ref (ga Γ 7 u1)) hx hb hK hw hown in_X5 ins_X5 (rfl : vwCl[7]? = some (RX5, TX5, 8)) rfl ho_u1 3 (by decide) 301 fl_X7_79 rfl rfl dX7_shapeAt_5 ?_
  refine lv_iload_n hx hb dX7_shapeAt_8 rfl (lv_at hl 2 rfl) ?_
  refine q_pI hf hw (fun v h => q_rV (As := [.int x2]) (rest := []) (q := (RX6, TX6, 2)) X hK hw rfl (Nat.lt_of_lt_of_le ho_u1 (Nat.le_of_ble_eq_true rfl : 3 ≤ cnt (gn Γ) 7)) (rfl : vwCl[8]? = _) (kX6_shapeWithRank (Nat.lt_of_lt_of_le ho_u1 (Nat.le_of_ble_eq_true rfl : 3 ≤ cnt (gn Γ) 7)) h) mvX6_shapeWithRank lk_X7_253 ⟨Nat.le_of_ble_eq_true rfl, Nat.le_of_ble_eq_true rfl⟩ rfl hl.1 rfl (Nat.le_of_ble_eq_true rfl) dX7_shapeAt_9 ⟨Nat.le_of_ble_eq_true rfl, Nat.le_of_ble_eq_true rfl⟩) (fun v3 H locs hf hw => ?_)
  refine lv_istore_n (lv' := [(3, .int v3), (0, .ref (ga Γ 0 0)), (1, .int x1), (2, .int x2)]) hx hb dX7_shapeAt_12 rfl hl (by decide) rfl (fun ls hl => ?_)
  refine lv_iload_n hx hb dX7_shapeAt_13 rfl (lv_at hl 0 rfl) ?_
  refine lv_iconst (v := (-1)) hx hb dX7_shapeAt_14 (by decide) ?_
  refine q_ic_ne (tgt := 29) hx hb hf dX7_shapeAt_15 (by decide) (fun hf => ?_) (fun hf => ?_)
  · refine lv_iload_n hx hb dX7_shapeAt_29 rfl (lv_at hl 0 rfl) ?_
    exact q_xiret hf hx hb hr rfl hk hw dX7_shapeAt_30 (Nat.le_of_ble_eq_true rfl) (Nat.le_of_ble_eq_true rfl)
  exact q_thrW (fun _ _ => rfl) hf hfl X hK hw hl.1 hk htab ax_IndexOutOfBoundsException (List.mem_of_getElem? (i := 12) rfl) dX7_shapeAt_18 dX7_shapeAt_21 dX7_shapeAt_22 dX7_shapeAt_25 dX7_shapeAt_28 (Nat.le_of_ble_eq_true rfl) (Nat.le_of_ble_eq_true rfl) (Nat.le_of_ble_eq_true rfl) (Nat.le_of_ble_eq_true rfl) (Nat.le_of_ble_eq_true rfl) (Nat.le_of_ble_eq_true rfl)
set_option maxRecDepth 100000 in
theorem kX7_keyOf {Γ : Gm} {l : Launch} (hfl : l.stackTraces = false) {N : Nat} {σ : St} {x1 : Int32} {x2 : Int32} {r : (UInt32 ⊕ String) × St}  (hf : fX7_keyOf N σ x1 x2 = some r) : CX Γ STR l yX7_keyOf cX7_keyOf 3 (some (.float)) 10 148 2 12 [.ref (ga Γ 0 0), .int x1, .int x2] (rsF r) σ := by
  unfold fX7_keyOf at hf
  refine cx_body (lv := [(0, .ref (ga Γ 0 0)), (1, .int x1), (2, .int x2)]) (by decide +kernel) rfl (Nat.le_of_ble_eq_true rfl) ?_
  intro p e s m below meth c ls X hr hk hK hw hl htab
  have hx := X.1
  have hb := X.2.1
  have hown := X.2.2.2
  refine lv_aload_n hx hb dX7_keyOf_0 rfl (lv_at hl 0 rfl) ?_
  refine lv_iload_n hx hb dX7_keyOf_1 rfl (lv_at hl 1 rfl) ?_
  refine lv_iload_n hx hb dX7_keyOf_2 rfl (lv_at hl 2 rfl) ?_
  refine q_xR (k := 7) (fun _ _ => rfl) hf hw (fun u h => q_rxV (As := [.int x1, .int x2]) (rest := []) (q := (RX7, TX7, 5)) X hK hw rfl (Nat.le_of_ble_eq_true rfl : 0 < cnt (gn Γ) 0) (rfl : vwCl[9]? = _) (kX7_needView hfl h) mvX7_needView lk_X7_240 ⟨Nat.le_of_ble_eq_true rfl, Nat.le_of_ble_eq_true rfl⟩ rfl hl.1 rfl (Nat.le_of_ble_eq_true rfl) dX7_keyOf_3 ⟨Nat.le_of_ble_eq_true rfl, Nat.le_of_ble_eq_true rfl⟩) hk htab (Nat.le_of_ble_eq_true rfl) (Nat.le_of_ble_eq_true rfl) (fun u1 σ2 H locs hf hw hq => ?_)
  have ho_u1 : u1 < 3 := ltX7_needView hq
  refine lv_iload_n hx hb dX7_keyOf_6 rfl (lv_at hl 2 rfl) ?_
  refine q_pF hf hw (fun v h => q_rV (As := [.int x2]) (rest := []) (q := (RX6, TX6, 2)) X hK hw rfl (Nat.lt_of_lt_of_le ho_u1 (Nat.le_of_ble_eq_true rfl : 3 ≤ cnt (gn Γ) 7)) (rfl : vwCl[8]? = _) (kX6_keyAt (Nat.lt_of_lt_of_le ho_u1 (Nat.le_of_ble_eq_true rfl : 3 ≤ cnt (gn Γ) 7)) h) mvX6_keyAt lk_X7_261 ⟨Nat.le_of_ble_eq_true rfl, Nat.le_of_ble_eq_true rfl⟩ rfl hl.1 rfl (Nat.le_of_ble_eq_true rfl) dX7_keyOf_7 ⟨Nat.le_of_ble_eq_true rfl, Nat.le_of_ble_eq_true rfl⟩) (fun v3 H locs hf hw => ?_)
  exact q_xfret hf hx hb hr hk hw dX7_keyOf_10 (Nat.le_of_ble_eq_true rfl) (Nat.le_of_ble_eq_true rfl)
set_option maxRecDepth 100000 in
theorem kX7_keyBits {Γ : Gm} {l : Launch} (hfl : l.stackTraces = false) {N : Nat} {σ : St} {x1 : Int32} {x2 : Int32} {r : (Int32 ⊕ String) × St}  (hf : fX7_keyBits N σ x1 x2 = some r) : CX Γ STR l yX7_keyBits cX7_keyBits 3 (some (.int)) 10 148 2 12 [.ref (ga Γ 0 0), .int x1, .int x2] (rsI r) σ := by
  unfold fX7_keyBits at hf
  refine cx_body (lv := [(0, .ref (ga Γ 0 0)), (1, .int x1), (2, .int x2)]) (by decide +kernel) rfl (Nat.le_of_ble_eq_true rfl) ?_
  intro p e s m below meth c ls X hr hk hK hw hl htab
  have hx := X.1
  have hb := X.2.1
  have hown := X.2.2.2
  refine lv_aload_n hx hb dX7_keyBits_0 rfl (lv_at hl 0 rfl) ?_
  refine lv_iload_n hx hb dX7_keyBits_1 rfl (lv_at hl 1 rfl) ?_
  refine lv_iload_n hx hb dX7_keyBits_2 rfl (lv_at hl 2 rfl) ?_
  refine q_xR (k := 7) (fun _ _ => rfl) hf hw (fun u h => q_rxV (As := [.int x1, .int x2]) (rest := []) (q := (RX7, TX7, 5)) X hK hw rfl (Nat.le_of_ble_eq_true rfl : 0 < cnt (gn Γ) 0) (rfl : vwCl[9]? = _) (kX7_needView hfl h) mvX7_needView lk_X7_240 ⟨Nat.le_of_ble_eq_true rfl, Nat.le_of_ble_eq_true rfl⟩ rfl hl.1 rfl (Nat.le_of_ble_eq_true rfl) dX7_keyBits_3 ⟨Nat.le_of_ble_eq_true rfl, Nat.le_of_ble_eq_true rfl⟩) hk htab (Nat.le_of_ble_eq_true rfl) (Nat.le_of_ble_eq_true rfl) (fun u1 σ2 H locs hf hw hq => ?_)
  have ho_u1 : u1 < 3 := ltX7_needView hq
  refine lv_iload_n hx hb dX7_keyBits_6 rfl (lv_at hl 2 rfl) ?_
  refine q_pF hf hw (fun v h => q_rV (As := [.int x2]) (rest := []) (q := (RX6, TX6, 2)) X hK hw rfl (Nat.lt_of_lt_of_le ho_u1 (Nat.le_of_ble_eq_true rfl : 3 ≤ cnt (gn Γ) 7)) (rfl : vwCl[8]? = _) (kX6_keyAt (Nat.lt_of_lt_of_le ho_u1 (Nat.le_of_ble_eq_true rfl : 3 ≤ cnt (gn Γ) 7)) h) mvX6_keyAt lk_X7_261 ⟨Nat.le_of_ble_eq_true rfl, Nat.le_of_ble_eq_true rfl⟩ rfl hl.1 rfl (Nat.le_of_ble_eq_true rfl) dX7_keyBits_7 ⟨Nat.le_of_ble_eq_true rfl, Nat.le_of_ble_eq_true rfl⟩) (fun v3 H locs hf hw => ?_)
  refine q_pI hf hw (fun v h => q_rS (As := [.float v3]) (rest := []) X hK hw (kX7_bitsOf h) msX7_bitsOf lk_X7_265 ⟨Nat.le_of_ble_eq_true rfl, Nat.le_of_ble_eq_true rfl⟩ rfl hl.1 rfl (Nat.le_of_ble_eq_true rfl) dX7_keyBits_10 ⟨Nat.le_of_ble_eq_true rfl, Nat.le_of_ble_eq_true rfl⟩) (fun v4 H locs hf hw => ?_)
  exact q_xiret hf hx hb hr rfl hk hw dX7_keyBits_13 (Nat.le_of_ble_eq_true rfl) (Nat.le_of_ble_eq_true rfl)
set_option maxRecDepth 100000 in
theorem kX7_keyCut {Γ : Gm} {l : Launch} (hfl : l.stackTraces = false) {N : Nat} {σ : St} {x1 : Int32} {x2 : Int32} {r : (Int32 ⊕ String) × St}  (hf : fX7_keyCut N σ x1 x2 = some r) : CX Γ STR l yX7_keyCut cX7_keyCut 3 (some (.int)) 10 148 2 12 [.ref (ga Γ 0 0), .int x1, .int x2] (rsI r) σ := by
  unfold fX7_keyCut at hf
  refine cx_body (lv := [(0, .ref (ga Γ 0 0)), (1, .int x1), (2, .int x2)]) (by decide +kernel) rfl (Nat.le_of_ble_eq_true rfl) ?_
  intro p e s m below meth c ls X hr hk hK hw hl htab
  have hx := X.1
  have hb := X.2.1
  have hown := X.2.2.2
  refine lv_aload_n hx hb dX7_keyCut_0 rfl (lv_at hl 0 rfl) ?_
  refine lv_iload_n hx hb dX7_keyCut_1 rfl (lv_at hl 1 rfl) ?_
  refine lv_iload_n hx hb dX7_keyCut_2 rfl (lv_at hl 2 rfl) ?_
  refine q_xR (k := 7) (fun _ _ => rfl) hf hw (fun u h => q_rxV (As := [.int x1, .int x2]) (rest := []) (q := (RX7, TX7, 5)) X hK hw rfl (Nat.le_of_ble_eq_true rfl : 0 < cnt (gn Γ) 0) (rfl : vwCl[9]? = _) (kX7_needView hfl h) mvX7_needView lk_X7_240 ⟨Nat.le_of_ble_eq_true rfl, Nat.le_of_ble_eq_true rfl⟩ rfl hl.1 rfl (Nat.le_of_ble_eq_true rfl) dX7_keyCut_3 ⟨Nat.le_of_ble_eq_true rfl, Nat.le_of_ble_eq_true rfl⟩) hk htab (Nat.le_of_ble_eq_true rfl) (Nat.le_of_ble_eq_true rfl) (fun u1 σ2 H locs hf hw hq => ?_)
  have ho_u1 : u1 < 3 := ltX7_needView hq
  refine lv_iload_n hx hb dX7_keyCut_6 rfl (lv_at hl 2 rfl) ?_
  refine q_pF hf hw (fun v h => q_rV (As := [.int x2]) (rest := []) (q := (RX6, TX6, 2)) X hK hw rfl (Nat.lt_of_lt_of_le ho_u1 (Nat.le_of_ble_eq_true rfl : 3 ≤ cnt (gn Γ) 7)) (rfl : vwCl[8]? = _) (kX6_keyAt (Nat.lt_of_lt_of_le ho_u1 (Nat.le_of_ble_eq_true rfl : 3 ≤ cnt (gn Γ) 7)) h) mvX6_keyAt lk_X7_261 ⟨Nat.le_of_ble_eq_true rfl, Nat.le_of_ble_eq_true rfl⟩ rfl hl.1 rfl (Nat.le_of_ble_eq_true rfl) dX7_keyCut_7 ⟨Nat.le_of_ble_eq_true rfl, Nat.le_of_ble_eq_true rfl⟩) (fun v3 H locs hf hw => ?_)
  refine lv_ldcwf (v := 1090519040) hx hb hown (kw_at hK.2.2.2.2.1 1023 (by decide +kernel) rfl) dX7_keyCut_10 ?_
  refine q_fmul hx hb hf dX7_keyCut_13 (fun hf => ?_)
  refine lv_f2i hx hb dX7_keyCut_14 ?_
  exact q_xiret hf hx hb hr rfl hk hw dX7_keyCut_15 (Nat.le_of_ble_eq_true rfl) (Nat.le_of_ble_eq_true rfl)
set_option maxRecDepth 100000 in
theorem kX7_topAt {Γ : Gm} {l : Launch} (hfl : l.stackTraces = false) {N : Nat} {σ : St} {x1 : Int32} {x2 : Int32} {x3 : Int32} {r : (Int32 ⊕ String) × St}  (hf : fX7_topAt N σ x1 x2 x3 = some r) : CX Γ STR l yX7_topAt cX7_topAt 6 (some (.int)) 9 125 3 18 [.ref (ga Γ 0 0), .int x1, .int x2, .int x3] (rsI r) σ := by
  unfold fX7_topAt at hf
  refine cx_body (lv := [(0, .ref (ga Γ 0 0)), (1, .int x1), (2, .int x2), (3, .int x3)]) (by decide +kernel) rfl (Nat.le_of_ble_eq_true rfl) ?_
  intro p e s m below meth c ls X hr hk hK hw hl htab
  have hx := X.1
  have hb := X.2.1
  have hown := X.2.2.2
  refine lv_aload_n hx hb dX7_topAt_0 rfl (lv_at hl 0 rfl) ?_
  refine lv_iload_n hx hb dX7_topAt_1 rfl (lv_at hl 1 rfl) ?_
  refine q_xR (k := 4) (fun _ _ => rfl) hf hw (fun u h => q_rxV (As := [.int x1]) (rest := []) (q := (RX7, TX7, 5)) X hK hw rfl (Nat.le_of_ble_eq_true rfl : 0 < cnt (gn Γ) 0) (rfl : vwCl[9]? = _) (kX7_needUser hfl h) mvX7_needUser lk_X7_48 ⟨Nat.le_of_ble_eq_true rfl, Nat.le_of_ble_eq_true rfl⟩ rfl hl.1 rfl (Nat.le_of_ble_eq_true rfl) dX7_topAt_2 ⟨Nat.le_of_ble_eq_true rfl, Nat.le_of_ble_eq_true rfl⟩) hk htab (Nat.le_of_ble_eq_true rfl) (Nat.le_of_ble_eq_true rfl) (fun u1 σ2 H locs hf hw hq => ?_)
  have ho_u1 : u1 < 3 := ltX7_needUser hq
  refine lv_astore (lv' := [(4, .ref (ga Γ 4 u1)), (0, .ref (ga Γ 0 0)), (1, .int x1), (2, .int x2), (3, .int x3)]) hx hb dX7_topAt_5 hl (by decide) rfl (fun ls hl => ?_)
  refine lv_iload_n hx hb dX7_topAt_7 rfl (lv_at hl 3 rfl) ?_
  refine lv_iload_n hx hb dX7_topAt_8 rfl (lv_at hl 4 rfl) ?_
  refine q_pI hf hw (fun v h => q_rS (As := [.int x2, .int x3]) (rest := []) X hK hw (kX7_cellAt h) msX7_cellAt lk_X7_105 ⟨Nat.le_of_ble_eq_true rfl, Nat.le_of_ble_eq_true rfl⟩ rfl hl.1 rfl (Nat.le_of_ble_eq_true rfl) dX7_topAt_9 ⟨Nat.le_of_ble_eq_true rfl, Nat.le_of_ble_eq_true rfl⟩) (fun v3 H locs hf hw => ?_)
  refine lv_iconst (v := (-1)) hx hb dX7_topAt_12 (by decide) ?_
  refine q_ic_ne (tgt := 27) hx hb hf dX7_topAt_13 (by decide) (fun hf => ?_) (fun hf => ?_)
  · refine lv_aload hx hb dX7_topAt_27 (lv_at hl 0 rfl) ?_
    refine q_get (v := .ref (ga Γ 7 u1)) hx hb hK hw hown in_X5 ins_X5 (rfl : vwCl[7]? = some (RX5, TX5, 8)) rfl ho_u1 3 (by decide) 301 fl_X7_79 rfl rfl dX7_topAt_29 ?_
    refine lv_iload_n hx hb dX7_topAt_32 rfl (lv_at hl 3 rfl) ?_
    refine lv_iload_n hx hb dX7_topAt_33 rfl (lv_at hl 4 rfl) ?_
    refine q_pI hf hw (fun v h => q_rV (As := [.int x2, .int x3]) (rest := []) (q := (RX6, TX6, 2)) X hK hw rfl (Nat.lt_of_lt_of_le ho_u1 (Nat.le_of_ble_eq_true rfl : 3 ≤ cnt (gn Γ) 7)) (rfl : vwCl[8]? = _) (kX6_topOn (Nat.lt_of_lt_of_le ho_u1 (Nat.le_of_ble_eq_true rfl : 3 ≤ cnt (gn Γ) 7)) h) mvX6_topOn lk_X7_272 ⟨Nat.le_of_ble_eq_true rfl, Nat.le_of_ble_eq_true rfl⟩ rfl hl.1 rfl (Nat.le_of_ble_eq_true rfl) dX7_topAt_34 ⟨Nat.le_of_ble_eq_true rfl, Nat.le_of_ble_eq_true rfl⟩) (fun v4 H locs hf hw => ?_)
    refine lv_istore (lv' := [(5, .int v4), (4, .ref (ga Γ 4 u1)), (0, .ref (ga Γ 0 0)), (1, .int x1), (2, .int x2), (3, .int x3)]) hx hb dX7_topAt_37 hl (by decide) rfl (fun ls hl => ?_)
    refine lv_iload hx hb dX7_topAt_39 (lv_at hl 0 rfl) ?_
    refine lv_iconst (v := (-1)) hx hb dX7_topAt_41 (by decide) ?_
    refine q_ic_ne (tgt := 56) hx hb hf dX7_topAt_42 (by decide) (fun hf => ?_) (fun hf => ?_)
    · refine lv_iload hx hb dX7_topAt_56 (lv_at hl 0 rfl) ?_
      exact q_xiret hf hx hb hr rfl hk hw dX7_topAt_58 (Nat.le_of_ble_eq_true rfl) (Nat.le_of_ble_eq_true rfl)
    exact q_thrNW (fun _ _ => rfl) hf hfl X hK hw hl.1 hk htab ax_NoSuchElementException (List.mem_of_getElem? (i := 14) rfl) dX7_topAt_45 dX7_topAt_48 dX7_topAt_49 dX7_topAt_52 dX7_topAt_55 (Nat.le_of_ble_eq_true rfl) (Nat.le_of_ble_eq_true rfl) (Nat.le_of_ble_eq_true rfl) (Nat.le_of_ble_eq_true rfl) (Nat.le_of_ble_eq_true rfl) (Nat.le_of_ble_eq_true rfl)
  exact q_thrW (fun _ _ => rfl) hf hfl X hK hw hl.1 hk htab ax_IllegalArgumentException (List.mem_of_getElem? (i := 13) rfl) dX7_topAt_16 dX7_topAt_19 dX7_topAt_20 dX7_topAt_23 dX7_topAt_26 (Nat.le_of_ble_eq_true rfl) (Nat.le_of_ble_eq_true rfl) (Nat.le_of_ble_eq_true rfl) (Nat.le_of_ble_eq_true rfl) (Nat.le_of_ble_eq_true rfl) (Nat.le_of_ble_eq_true rfl)
set_option maxRecDepth 100000 in
theorem kX7_lockedBy {Γ : Gm} {l : Launch} (hfl : l.stackTraces = false) {N : Nat} {σ : St} {x1 : Int32} {x2 : Int32} {r : (Int32 ⊕ String) × St}  (hf : fX7_lockedBy N σ x1 x2 = some r) : CX Γ STR l yX7_lockedBy cX7_lockedBy 3 (some (.int)) 10 148 2 12 [.ref (ga Γ 0 0), .int x1, .int x2] (rsI r) σ := by
  unfold fX7_lockedBy at hf
  refine cx_body (lv := [(0, .ref (ga Γ 0 0)), (1, .int x1), (2, .int x2)]) (by decide +kernel) rfl (Nat.le_of_ble_eq_true rfl) ?_
  intro p e s m below meth c ls X hr hk hK hw hl htab
  have hx := X.1
  have hb := X.2.1
  have hown := X.2.2.2
  refine lv_aload_n hx hb dX7_lockedBy_0 rfl (lv_at hl 0 rfl) ?_
  refine lv_iload_n hx hb dX7_lockedBy_1 rfl (lv_at hl 1 rfl) ?_
  refine lv_iload_n hx hb dX7_lockedBy_2 rfl (lv_at hl 2 rfl) ?_
  refine q_xR (k := 7) (fun _ _ => rfl) hf hw (fun u h => q_rxV (As := [.int x1, .int x2]) (rest := []) (q := (RX7, TX7, 5)) X hK hw rfl (Nat.le_of_ble_eq_true rfl : 0 < cnt (gn Γ) 0) (rfl : vwCl[9]? = _) (kX7_needView hfl h) mvX7_needView lk_X7_240 ⟨Nat.le_of_ble_eq_true rfl, Nat.le_of_ble_eq_true rfl⟩ rfl hl.1 rfl (Nat.le_of_ble_eq_true rfl) dX7_lockedBy_3 ⟨Nat.le_of_ble_eq_true rfl, Nat.le_of_ble_eq_true rfl⟩) hk htab (Nat.le_of_ble_eq_true rfl) (Nat.le_of_ble_eq_true rfl) (fun u1 σ2 H locs hf hw hq => ?_)
  have ho_u1 : u1 < 3 := ltX7_needView hq
  refine lv_iload_n hx hb dX7_lockedBy_6 rfl (lv_at hl 2 rfl) ?_
  refine q_pI hf hw (fun v h => q_rV (As := [.int x2]) (rest := []) (q := (RX6, TX6, 2)) X hK hw rfl (Nat.lt_of_lt_of_le ho_u1 (Nat.le_of_ble_eq_true rfl : 3 ≤ cnt (gn Γ) 7)) (rfl : vwCl[8]? = _) (kX6_lockerAt (Nat.lt_of_lt_of_le ho_u1 (Nat.le_of_ble_eq_true rfl : 3 ≤ cnt (gn Γ) 7)) h) mvX6_lockerAt lk_X7_154 ⟨Nat.le_of_ble_eq_true rfl, Nat.le_of_ble_eq_true rfl⟩ rfl hl.1 rfl (Nat.le_of_ble_eq_true rfl) dX7_lockedBy_7 ⟨Nat.le_of_ble_eq_true rfl, Nat.le_of_ble_eq_true rfl⟩) (fun v3 H locs hf hw => ?_)
  exact q_xiret hf hx hb hr rfl hk hw dX7_lockedBy_10 (Nat.le_of_ble_eq_true rfl) (Nat.le_of_ble_eq_true rfl)
set_option maxRecDepth 100000 in
theorem kX7_inside {Γ : Gm} {l : Launch} (hfl : l.stackTraces = false) {N : Nat} {σ : St} {x1 : Int32} {x2 : Int32} {r : (Int32 ⊕ String) × St}  (hf : fX7_inside N σ x1 x2 = some r) : CX Γ STR l yX7_inside cX7_inside 3 (some (.int)) 10 148 2 12 [.ref (ga Γ 0 0), .int x1, .int x2] (rsI r) σ := by
  unfold fX7_inside at hf
  refine cx_body (lv := [(0, .ref (ga Γ 0 0)), (1, .int x1), (2, .int x2)]) (by decide +kernel) rfl (Nat.le_of_ble_eq_true rfl) ?_
  intro p e s m below meth c ls X hr hk hK hw hl htab
  have hx := X.1
  have hb := X.2.1
  have hown := X.2.2.2
  refine lv_aload_n hx hb dX7_inside_0 rfl (lv_at hl 0 rfl) ?_
  refine lv_iload_n hx hb dX7_inside_1 rfl (lv_at hl 1 rfl) ?_
  refine lv_iload_n hx hb dX7_inside_2 rfl (lv_at hl 2 rfl) ?_
  refine q_xR (k := 7) (fun _ _ => rfl) hf hw (fun u h => q_rxV (As := [.int x1, .int x2]) (rest := []) (q := (RX7, TX7, 5)) X hK hw rfl (Nat.le_of_ble_eq_true rfl : 0 < cnt (gn Γ) 0) (rfl : vwCl[9]? = _) (kX7_needView hfl h) mvX7_needView lk_X7_240 ⟨Nat.le_of_ble_eq_true rfl, Nat.le_of_ble_eq_true rfl⟩ rfl hl.1 rfl (Nat.le_of_ble_eq_true rfl) dX7_inside_3 ⟨Nat.le_of_ble_eq_true rfl, Nat.le_of_ble_eq_true rfl⟩) hk htab (Nat.le_of_ble_eq_true rfl) (Nat.le_of_ble_eq_true rfl) (fun u1 σ2 H locs hf hw hq => ?_)
  have ho_u1 : u1 < 3 := ltX7_needView hq
  refine lv_iload_n hx hb dX7_inside_6 rfl (lv_at hl 2 rfl) ?_
  refine q_pI hf hw (fun v h => q_rV (As := [.int x2]) (rest := []) (q := (RX6, TX6, 2)) X hK hw rfl (Nat.lt_of_lt_of_le ho_u1 (Nat.le_of_ble_eq_true rfl : 3 ≤ cnt (gn Γ) 7)) (rfl : vwCl[8]? = _) (kX6_countCovered (Nat.lt_of_lt_of_le ho_u1 (Nat.le_of_ble_eq_true rfl : 3 ≤ cnt (gn Γ) 7)) h) mvX6_countCovered lk_X7_277 ⟨Nat.le_of_ble_eq_true rfl, Nat.le_of_ble_eq_true rfl⟩ rfl hl.1 rfl (Nat.le_of_ble_eq_true rfl) dX7_inside_7 ⟨Nat.le_of_ble_eq_true rfl, Nat.le_of_ble_eq_true rfl⟩) (fun v3 H locs hf hw => ?_)
  exact q_xiret hf hx hb hr rfl hk hw dX7_inside_10 (Nat.le_of_ble_eq_true rfl) (Nat.le_of_ble_eq_true rfl)
set_option maxRecDepth 100000 in
theorem kX7_connectors {Γ : Gm} {l : Launch} (hfl : l.stackTraces = false) {N : Nat} {σ : St} {x1 : Int32} {r : (Int32 ⊕ String) × St}  (hf : fX7_connectors N σ x1 = some r) : CX Γ STR l yX7_connectors cX7_connectors 2 (some (.int)) 9 125 1 6 [.ref (ga Γ 0 0), .int x1] (rsI r) σ := by
  unfold fX7_connectors at hf
  refine cx_body (lv := [(0, .ref (ga Γ 0 0)), (1, .int x1)]) (by decide +kernel) rfl (Nat.le_of_ble_eq_true rfl) ?_
  intro p e s m below meth c ls X hr hk hK hw hl htab
  have hx := X.1
  have hb := X.2.1
  have hown := X.2.2.2
  refine lv_aload_n hx hb dX7_connectors_0 rfl (lv_at hl 0 rfl) ?_
  refine lv_iload_n hx hb dX7_connectors_1 rfl (lv_at hl 1 rfl) ?_
  refine q_xR (k := 4) (fun _ _ => rfl) hf hw (fun u h => q_rxV (As := [.int x1]) (rest := []) (q := (RX7, TX7, 5)) X hK hw rfl (Nat.le_of_ble_eq_true rfl : 0 < cnt (gn Γ) 0) (rfl : vwCl[9]? = _) (kX7_needUser hfl h) mvX7_needUser lk_X7_48 ⟨Nat.le_of_ble_eq_true rfl, Nat.le_of_ble_eq_true rfl⟩ rfl hl.1 rfl (Nat.le_of_ble_eq_true rfl) dX7_connectors_2 ⟨Nat.le_of_ble_eq_true rfl, Nat.le_of_ble_eq_true rfl⟩) hk htab (Nat.le_of_ble_eq_true rfl) (Nat.le_of_ble_eq_true rfl) (fun u1 σ2 H locs hf hw hq => ?_)
  have ho_u1 : u1 < 3 := ltX7_needUser hq
  refine q_get (v := .ref (ga Γ 7 u1)) hx hb hK hw hown in_X5 ins_X5 (rfl : vwCl[7]? = some (RX5, TX5, 8)) rfl ho_u1 3 (by decide) 301 fl_X7_79 rfl rfl dX7_connectors_5 ?_
  refine q_pI hf hw (fun v h => q_rV (As := []) (rest := []) (q := (RX6, TX6, 2)) X hK hw rfl (Nat.lt_of_lt_of_le ho_u1 (Nat.le_of_ble_eq_true rfl : 3 ≤ cnt (gn Γ) 7)) (rfl : vwCl[8]? = _) (kX6_countConnectors (Nat.lt_of_lt_of_le ho_u1 (Nat.le_of_ble_eq_true rfl : 3 ≤ cnt (gn Γ) 7)) h) mvX6_countConnectors lk_X7_180 ⟨Nat.le_of_ble_eq_true rfl, Nat.le_of_ble_eq_true rfl⟩ rfl hl.1 rfl (Nat.le_of_ble_eq_true rfl) dX7_connectors_8 ⟨Nat.le_of_ble_eq_true rfl, Nat.le_of_ble_eq_true rfl⟩) (fun v3 H locs hf hw => ?_)
  exact q_xiret hf hx hb hr rfl hk hw dX7_connectors_11 (Nat.le_of_ble_eq_true rfl) (Nat.le_of_ble_eq_true rfl)
set_option maxRecDepth 100000 in
theorem kX7_needMap {Γ : Gm} {l : Launch} (hfl : l.stackTraces = false) {N : Nat} {σ : St} {x1 : Int32} {x2 : Int32} {r : (Unit ⊕ String) × St}  (hf : fX7_needMap N σ x1 x2 = some r) : CX Γ STR l yX7_needMap cX7_needMap 4 none 9 125 2 12 [.ref (ga Γ 0 0), .int x1, .int x2] (rsV r) σ := by
  unfold fX7_needMap at hf
  refine cx_body (lv := [(0, .ref (ga Γ 0 0)), (1, .int x1), (2, .int x2)]) (by decide +kernel) rfl (Nat.le_of_ble_eq_true rfl) ?_
  intro p e s m below meth c ls X hr hk hK hw hl htab
  have hx := X.1
  have hb := X.2.1
  have hown := X.2.2.2
  refine lv_aload_n hx hb dX7_needMap_0 rfl (lv_at hl 0 rfl) ?_
  refine lv_iload_n hx hb dX7_needMap_1 rfl (lv_at hl 1 rfl) ?_
  refine q_xR (k := 4) (fun _ _ => rfl) hf hw (fun u h => q_rxV (As := [.int x1]) (rest := []) (q := (RX7, TX7, 5)) X hK hw rfl (Nat.le_of_ble_eq_true rfl : 0 < cnt (gn Γ) 0) (rfl : vwCl[9]? = _) (kX7_needUser hfl h) mvX7_needUser lk_X7_48 ⟨Nat.le_of_ble_eq_true rfl, Nat.le_of_ble_eq_true rfl⟩ rfl hl.1 rfl (Nat.le_of_ble_eq_true rfl) dX7_needMap_2 ⟨Nat.le_of_ble_eq_true rfl, Nat.le_of_ble_eq_true rfl⟩) hk htab (Nat.le_of_ble_eq_true rfl) (Nat.le_of_ble_eq_true rfl) (fun u1 σ2 H locs hf hw hq => ?_)
  have ho_u1 : u1 < 3 := ltX7_needUser hq
  refine lv_astore_n (lv' := [(3, .ref (ga Γ 4 u1)), (0, .ref (ga Γ 0 0)), (1, .int x1), (2, .int x2)]) hx hb dX7_needMap_5 rfl hl (by decide) rfl (fun ls hl => ?_)
  refine lv_aload_n hx hb dX7_needMap_6 rfl (lv_at hl 0 rfl) ?_
  refine lv_iload_n hx hb dX7_needMap_7 rfl (lv_at hl 3 rfl) ?_
  refine q_xV (fun _ _ => rfl) hf hw (fun u h => q_rxS (As := [.ref (ga Γ 4 u1), .int x2]) (rest := []) X hK hw (kX7_needSeenConnector hfl ho_u1 h) msX7_needSeenConnector lk_X7_177 ⟨Nat.le_of_ble_eq_true rfl, Nat.le_of_ble_eq_true rfl⟩ rfl hl.1 rfl (Nat.le_of_ble_eq_true rfl) dX7_needMap_8 ⟨Nat.le_of_ble_eq_true rfl, Nat.le_of_ble_eq_true rfl⟩) hk htab (Nat.le_of_ble_eq_true rfl) (Nat.le_of_ble_eq_true rfl) (fun _ σ3 H locs hf hw hq => ?_)
  refine lv_aload_n hx hb dX7_needMap_11 rfl (lv_at hl 1 rfl) ?_
  refine q_get (v := .ref (ga Γ 6 0)) hx hb hK hw hown in_X7 ins_X7 (rfl : vwCl[9]? = some (RX7, TX7, 5)) rfl (Nat.le_of_ble_eq_true rfl : 0 < cnt (gn Γ) 0) 4 (by decide) 328 fl_X7_41 rfl rfl dX7_needMap_12 ?_
  refine lv_aload_n hx hb dX7_needMap_15 rfl (lv_at hl 0 rfl) ?_
  refine q_get (v := .ref (ga Γ 7 u1)) hx hb hK hw hown in_X5 ins_X5 (rfl : vwCl[7]? = some (RX5, TX5, 8)) rfl ho_u1 3 (by decide) 301 fl_X7_79 rfl rfl dX7_needMap_16 ?_
  refine lv_iload_n hx hb dX7_needMap_19 rfl (lv_at hl 3 rfl) ?_
  refine q_eV hf hw (fun τ h => q_rV (As := [.ref (ga Γ 7 u1), .int x2]) (rest := []) (q := (RX4, TX4, 9)) X hK hw rfl (Nat.le_of_ble_eq_true rfl : 0 < cnt (gn Γ) 6) (rfl : vwCl[6]? = _) (kX4_draw (Nat.lt_of_lt_of_le ho_u1 (Nat.le_of_ble_eq_true rfl : 3 ≤ cnt (gn Γ) 7)) h) mvX4_draw lk_X7_342 ⟨Nat.le_of_ble_eq_true rfl, Nat.le_of_ble_eq_true rfl⟩ rfl hl.1 rfl (Nat.le_of_ble_eq_true rfl) dX7_needMap_20 ⟨Nat.le_of_ble_eq_true rfl, Nat.le_of_ble_eq_true rfl⟩) (fun σ4 H locs hf hw => ?_)
  exact q_xvret hx hb hr hk hw dX7_needMap_23 hf (Nat.le_of_ble_eq_true rfl) (Nat.le_of_ble_eq_true rfl)
set_option maxRecDepth 100000 in
theorem kX7_needWay {Γ : Gm} {l : Launch} (hfl : l.stackTraces = false) {N : Nat} {σ : St} {x1 : Int32} {r : (Int32 ⊕ String) × St}  (hf : fX7_needWay N σ x1 = some r) : CX Γ STR l yX7_needWay cX7_needWay 1 (some (.int)) 8 103 1 6 [.int x1] (rsI r) σ := by
  unfold fX7_needWay at hf
  refine cx_body (lv := [(0, .int x1)]) (by decide +kernel) rfl (Nat.le_of_ble_eq_true rfl) ?_
  intro p e s m below meth c ls X hr hk hK hw hl htab
  have hx := X.1
  have hb := X.2.1
  have hown := X.2.2.2
  refine lv_iload_n hx hb dX7_needWay_0 rfl (lv_at hl 0 rfl) ?_
  refine lv_iconst (v := (-1)) hx hb dX7_needWay_1 (by decide) ?_
  refine q_ic_ne (tgt := 16) hx hb hf dX7_needWay_2 (by decide) (fun hf => ?_) (fun hf => ?_)
  · refine lv_iload_n hx hb dX7_needWay_16 rfl (lv_at hl 0 rfl) ?_
    exact q_xiret hf hx hb hr rfl hk hw dX7_needWay_17 (Nat.le_of_ble_eq_true rfl) (Nat.le_of_ble_eq_true rfl)
  exact q_thrW (fun _ _ => rfl) hf hfl X hK hw hl.1 hk htab ax_UnsupportedOperationException (List.mem_of_getElem? (i := 26) rfl) dX7_needWay_5 dX7_needWay_8 dX7_needWay_9 dX7_needWay_12 dX7_needWay_15 (Nat.le_of_ble_eq_true rfl) (Nat.le_of_ble_eq_true rfl) (Nat.le_of_ble_eq_true rfl) (Nat.le_of_ble_eq_true rfl) (Nat.le_of_ble_eq_true rfl) (Nat.le_of_ble_eq_true rfl)
set_option maxRecDepth 100000 in
theorem kX7_bends {Γ : Gm} {l : Launch} (hfl : l.stackTraces = false) {N : Nat} {σ : St} {x1 : Int32} {x2 : Int32} {r : (Int32 ⊕ String) × St}  (hf : fX7_bends N σ x1 x2 = some r) : CX Γ STR l yX7_bends cX7_bends 3 (some (.int)) 10 148 3 18 [.ref (ga Γ 0 0), .int x1, .int x2] (rsI r) σ := by
  unfold fX7_bends at hf
  refine cx_body (lv := [(0, .ref (ga Γ 0 0)), (1, .int x1), (2, .int x2)]) (by decide +kernel) rfl (Nat.le_of_ble_eq_true rfl) ?_
  intro p e s m below meth c ls X hr hk hK hw hl htab
  have hx := X.1
  have hb := X.2.1
  have hown := X.2.2.2
  refine lv_aload_n hx hb dX7_bends_0 rfl (lv_at hl 0 rfl) ?_
  refine lv_iload_n hx hb dX7_bends_1 rfl (lv_at hl 1 rfl) ?_
  refine lv_iload_n hx hb dX7_bends_2 rfl (lv_at hl 2 rfl) ?_
  refine q_xV (fun _ _ => rfl) hf hw (fun u h => q_rxV (As := [.int x1, .int x2]) (rest := []) (q := (RX7, TX7, 5)) X hK hw rfl (Nat.le_of_ble_eq_true rfl : 0 < cnt (gn Γ) 0) (rfl : vwCl[9]? = _) (kX7_needMap hfl h) mvX7_needMap lk_X7_280 ⟨Nat.le_of_ble_eq_true rfl, Nat.le_of_ble_eq_true rfl⟩ rfl hl.1 rfl (Nat.le_of_ble_eq_true rfl) dX7_bends_3 ⟨Nat.le_of_ble_eq_true rfl, Nat.le_of_ble_eq_true rfl⟩) hk htab (Nat.le_of_ble_eq_true rfl) (Nat.le_of_ble_eq_true rfl) (fun _ σ1 H locs hf hw hq => ?_)
  refine lv_aload_n hx hb dX7_bends_6 rfl (lv_at hl 0 rfl) ?_
  refine q_get (v := .ref (ga Γ 6 0)) hx hb hK hw hown in_X7 ins_X7 (rfl : vwCl[9]? = some (RX7, TX7, 5)) rfl (Nat.le_of_ble_eq_true rfl : 0 < cnt (gn Γ) 0) 4 (by decide) 328 fl_X7_41 rfl rfl dX7_bends_7 ?_
  refine q_eI hf hw (fun v τ h => q_rV (As := []) (rest := []) (q := (RX4, TX4, 9)) X hK hw rfl (Nat.le_of_ble_eq_true rfl : 0 < cnt (gn Γ) 6) (rfl : vwCl[6]? = _) (kX4_fewestTurns h) mvX4_fewestTurns lk_X7_284 ⟨Nat.le_of_ble_eq_true rfl, Nat.le_of_ble_eq_true rfl⟩ rfl hl.1 rfl (Nat.le_of_ble_eq_true rfl) dX7_bends_10 ⟨Nat.le_of_ble_eq_true rfl, Nat.le_of_ble_eq_true rfl⟩) (fun v3 σ2 H locs hf hw => ?_)
  refine q_xI (fun _ _ => rfl) hf hw (fun u h => q_rxS (As := [.int v3]) (rest := []) X hK hw (kX7_needWay hfl h) msX7_needWay lk_X7_287 ⟨Nat.le_of_ble_eq_true rfl, Nat.le_of_ble_eq_true rfl⟩ rfl hl.1 rfl (Nat.le_of_ble_eq_true rfl) dX7_bends_13 ⟨Nat.le_of_ble_eq_true rfl, Nat.le_of_ble_eq_true rfl⟩) hk htab (Nat.le_of_ble_eq_true rfl) (Nat.le_of_ble_eq_true rfl) (fun v4 σ5 H locs hf hw hq => ?_)
  exact q_xiret hf hx hb hr rfl hk hw dX7_bends_16 (Nat.le_of_ble_eq_true rfl) (Nat.le_of_ble_eq_true rfl)
set_option maxRecDepth 100000 in
theorem kX7_bendsByRounds {Γ : Gm} {l : Launch} (hfl : l.stackTraces = false) {N : Nat} {σ : St} {x1 : Int32} {x2 : Int32} {r : (Int32 ⊕ String) × St}  (hf : fX7_bendsByRounds N σ x1 x2 = some r) : CX Γ STR l yX7_bendsByRounds cX7_bendsByRounds 3 (some (.int)) 10 148 3 18 [.ref (ga Γ 0 0), .int x1, .int x2] (rsI r) σ := by
  unfold fX7_bendsByRounds at hf
  refine cx_body (lv := [(0, .ref (ga Γ 0 0)), (1, .int x1), (2, .int x2)]) (by decide +kernel) rfl (Nat.le_of_ble_eq_true rfl) ?_
  intro p e s m below meth c ls X hr hk hK hw hl htab
  have hx := X.1
  have hb := X.2.1
  have hown := X.2.2.2
  refine lv_aload_n hx hb dX7_bendsByRounds_0 rfl (lv_at hl 0 rfl) ?_
  refine lv_iload_n hx hb dX7_bendsByRounds_1 rfl (lv_at hl 1 rfl) ?_
  refine lv_iload_n hx hb dX7_bendsByRounds_2 rfl (lv_at hl 2 rfl) ?_
  refine q_xV (fun _ _ => rfl) hf hw (fun u h => q_rxV (As := [.int x1, .int x2]) (rest := []) (q := (RX7, TX7, 5)) X hK hw rfl (Nat.le_of_ble_eq_true rfl : 0 < cnt (gn Γ) 0) (rfl : vwCl[9]? = _) (kX7_needMap hfl h) mvX7_needMap lk_X7_280 ⟨Nat.le_of_ble_eq_true rfl, Nat.le_of_ble_eq_true rfl⟩ rfl hl.1 rfl (Nat.le_of_ble_eq_true rfl) dX7_bendsByRounds_3 ⟨Nat.le_of_ble_eq_true rfl, Nat.le_of_ble_eq_true rfl⟩) hk htab (Nat.le_of_ble_eq_true rfl) (Nat.le_of_ble_eq_true rfl) (fun _ σ1 H locs hf hw hq => ?_)
  refine lv_aload_n hx hb dX7_bendsByRounds_6 rfl (lv_at hl 0 rfl) ?_
  refine q_get (v := .ref (ga Γ 6 0)) hx hb hK hw hown in_X7 ins_X7 (rfl : vwCl[9]? = some (RX7, TX7, 5)) rfl (Nat.le_of_ble_eq_true rfl : 0 < cnt (gn Γ) 0) 4 (by decide) 328 fl_X7_41 rfl rfl dX7_bendsByRounds_7 ?_
  refine q_eI hf hw (fun v τ h => q_rV (As := []) (rest := []) (q := (RX4, TX4, 9)) X hK hw rfl (Nat.le_of_ble_eq_true rfl : 0 < cnt (gn Γ) 6) (rfl : vwCl[6]? = _) (kX4_fewestTurnsByRounds h) mvX4_fewestTurnsByRounds lk_X7_290 ⟨Nat.le_of_ble_eq_true rfl, Nat.le_of_ble_eq_true rfl⟩ rfl hl.1 rfl (Nat.le_of_ble_eq_true rfl) dX7_bendsByRounds_10 ⟨Nat.le_of_ble_eq_true rfl, Nat.le_of_ble_eq_true rfl⟩) (fun v3 σ2 H locs hf hw => ?_)
  refine q_xI (fun _ _ => rfl) hf hw (fun u h => q_rxS (As := [.int v3]) (rest := []) X hK hw (kX7_needWay hfl h) msX7_needWay lk_X7_287 ⟨Nat.le_of_ble_eq_true rfl, Nat.le_of_ble_eq_true rfl⟩ rfl hl.1 rfl (Nat.le_of_ble_eq_true rfl) dX7_bendsByRounds_13 ⟨Nat.le_of_ble_eq_true rfl, Nat.le_of_ble_eq_true rfl⟩) hk htab (Nat.le_of_ble_eq_true rfl) (Nat.le_of_ble_eq_true rfl) (fun v4 σ5 H locs hf hw hq => ?_)
  exact q_xiret hf hx hb hr rfl hk hw dX7_bendsByRounds_16 (Nat.le_of_ble_eq_true rfl) (Nat.le_of_ble_eq_true rfl)
set_option maxRecDepth 100000 in
theorem kX7_routeLength {Γ : Gm} {l : Launch} (hfl : l.stackTraces = false) {N : Nat} {σ : St} {x1 : Int32} {x2 : Int32} {r : (Int32 ⊕ String) × St}  (hf : fX7_routeLength N σ x1 x2 = some r) : CX Γ STR l yX7_routeLength cX7_routeLength 3 (some (.int)) 10 148 3 18 [.ref (ga Γ 0 0), .int x1, .int x2] (rsI r) σ := by
  unfold fX7_routeLength at hf
  refine cx_body (lv := [(0, .ref (ga Γ 0 0)), (1, .int x1), (2, .int x2)]) (by decide +kernel) rfl (Nat.le_of_ble_eq_true rfl) ?_
  intro p e s m below meth c ls X hr hk hK hw hl htab
  have hx := X.1
  have hb := X.2.1
  have hown := X.2.2.2
  refine lv_aload_n hx hb dX7_routeLength_0 rfl (lv_at hl 0 rfl) ?_
  refine lv_iload_n hx hb dX7_routeLength_1 rfl (lv_at hl 1 rfl) ?_
  refine lv_iload_n hx hb dX7_routeLength_2 rfl (lv_at hl 2 rfl) ?_
  refine q_xV (fun _ _ => rfl) hf hw (fun u h => q_rxV (As := [.int x1, .int x2]) (rest := []) (q := (RX7, TX7, 5)) X hK hw rfl (Nat.le_of_ble_eq_true rfl : 0 < cnt (gn Γ) 0) (rfl : vwCl[9]? = _) (kX7_needMap hfl h) mvX7_needMap lk_X7_280 ⟨Nat.le_of_ble_eq_true rfl, Nat.le_of_ble_eq_true rfl⟩ rfl hl.1 rfl (Nat.le_of_ble_eq_true rfl) dX7_routeLength_3 ⟨Nat.le_of_ble_eq_true rfl, Nat.le_of_ble_eq_true rfl⟩) hk htab (Nat.le_of_ble_eq_true rfl) (Nat.le_of_ble_eq_true rfl) (fun _ σ1 H locs hf hw hq => ?_)
  refine lv_aload_n hx hb dX7_routeLength_6 rfl (lv_at hl 0 rfl) ?_
  refine q_get (v := .ref (ga Γ 6 0)) hx hb hK hw hown in_X7 ins_X7 (rfl : vwCl[9]? = some (RX7, TX7, 5)) rfl (Nat.le_of_ble_eq_true rfl : 0 < cnt (gn Γ) 0) 4 (by decide) 328 fl_X7_41 rfl rfl dX7_routeLength_7 ?_
  refine q_eI hf hw (fun v τ h => q_rV (As := []) (rest := []) (q := (RX4, TX4, 9)) X hK hw rfl (Nat.le_of_ble_eq_true rfl : 0 < cnt (gn Γ) 6) (rfl : vwCl[6]? = _) (kX4_fewestCells h) mvX4_fewestCells lk_X7_293 ⟨Nat.le_of_ble_eq_true rfl, Nat.le_of_ble_eq_true rfl⟩ rfl hl.1 rfl (Nat.le_of_ble_eq_true rfl) dX7_routeLength_10 ⟨Nat.le_of_ble_eq_true rfl, Nat.le_of_ble_eq_true rfl⟩) (fun v3 σ2 H locs hf hw => ?_)
  refine q_xI (fun _ _ => rfl) hf hw (fun u h => q_rxS (As := [.int v3]) (rest := []) X hK hw (kX7_needWay hfl h) msX7_needWay lk_X7_287 ⟨Nat.le_of_ble_eq_true rfl, Nat.le_of_ble_eq_true rfl⟩ rfl hl.1 rfl (Nat.le_of_ble_eq_true rfl) dX7_routeLength_13 ⟨Nat.le_of_ble_eq_true rfl, Nat.le_of_ble_eq_true rfl⟩) hk htab (Nat.le_of_ble_eq_true rfl) (Nat.le_of_ble_eq_true rfl) (fun v4 σ5 H locs hf hw hq => ?_)
  exact q_xiret hf hx hb hr rfl hk hw dX7_routeLength_16 (Nat.le_of_ble_eq_true rfl) (Nat.le_of_ble_eq_true rfl)
set_option maxRecDepth 100000 in
theorem kX7_ownVotes {Γ : Gm} {l : Launch} (hfl : l.stackTraces = false) {N : Nat} {σ : St} {x1 : Int32} {x2 : Int32} {r : (Int32 ⊕ String) × St}  (hf : fX7_ownVotes N σ x1 x2 = some r) : CX Γ STR l yX7_ownVotes cX7_ownVotes 3 (some (.int)) 10 148 2 12 [.ref (ga Γ 0 0), .int x1, .int x2] (rsI r) σ := by
  unfold fX7_ownVotes at hf
  refine cx_body (lv := [(0, .ref (ga Γ 0 0)), (1, .int x1), (2, .int x2)]) (by decide +kernel) rfl (Nat.le_of_ble_eq_true rfl) ?_
  intro p e s m below meth c ls X hr hk hK hw hl htab
  have hx := X.1
  have hb := X.2.1
  have hown := X.2.2.2
  refine lv_aload_n hx hb dX7_ownVotes_0 rfl (lv_at hl 0 rfl) ?_
  refine lv_iload_n hx hb dX7_ownVotes_1 rfl (lv_at hl 1 rfl) ?_
  refine lv_iload_n hx hb dX7_ownVotes_2 rfl (lv_at hl 2 rfl) ?_
  refine q_xR (k := 7) (fun _ _ => rfl) hf hw (fun u h => q_rxV (As := [.int x1, .int x2]) (rest := []) (q := (RX7, TX7, 5)) X hK hw rfl (Nat.le_of_ble_eq_true rfl : 0 < cnt (gn Γ) 0) (rfl : vwCl[9]? = _) (kX7_needView hfl h) mvX7_needView lk_X7_240 ⟨Nat.le_of_ble_eq_true rfl, Nat.le_of_ble_eq_true rfl⟩ rfl hl.1 rfl (Nat.le_of_ble_eq_true rfl) dX7_ownVotes_3 ⟨Nat.le_of_ble_eq_true rfl, Nat.le_of_ble_eq_true rfl⟩) hk htab (Nat.le_of_ble_eq_true rfl) (Nat.le_of_ble_eq_true rfl) (fun u1 σ2 H locs hf hw hq => ?_)
  have ho_u1 : u1 < 3 := ltX7_needView hq
  refine lv_iload_n hx hb dX7_ownVotes_6 rfl (lv_at hl 1 rfl) ?_
  refine lv_iload_n hx hb dX7_ownVotes_7 rfl (lv_at hl 2 rfl) ?_
  refine q_pI hf hw (fun v h => q_rV (As := [.int x1, .int x2]) (rest := []) (q := (RX6, TX6, 2)) X hK hw rfl (Nat.lt_of_lt_of_le ho_u1 (Nat.le_of_ble_eq_true rfl : 3 ≤ cnt (gn Γ) 7)) (rfl : vwCl[8]? = _) (kX6_votesBy (Nat.lt_of_lt_of_le ho_u1 (Nat.le_of_ble_eq_true rfl : 3 ≤ cnt (gn Γ) 7)) h) mvX6_votesBy lk_X7_185 ⟨Nat.le_of_ble_eq_true rfl, Nat.le_of_ble_eq_true rfl⟩ rfl hl.1 rfl (Nat.le_of_ble_eq_true rfl) dX7_ownVotes_8 ⟨Nat.le_of_ble_eq_true rfl, Nat.le_of_ble_eq_true rfl⟩) (fun v3 H locs hf hw => ?_)
  exact q_xiret hf hx hb hr rfl hk hw dX7_ownVotes_11 (Nat.le_of_ble_eq_true rfl) (Nat.le_of_ble_eq_true rfl)
set_option maxRecDepth 100000 in
theorem kX7_needShown {Γ : Gm} {l : Launch} (hfl : l.stackTraces = false) {N : Nat} {σ : St} {o1 : Nat} {r : (Unit ⊕ String) × St} (ho1 : o1 < 4) (hf : fX7_needShown N σ o1 = some r) : CX Γ STR l yX7_needShown cX7_needShown 1 none 8 103 1 6 [.ref (ga Γ 7 o1)] (rsV r) σ := by
  unfold fX7_needShown at hf
  refine cx_body (lv := [(0, .ref (ga Γ 7 o1))]) (by decide +kernel) rfl (Nat.le_of_ble_eq_true rfl) ?_
  intro p e s m below meth c ls X hr hk hK hw hl htab
  have hx := X.1
  have hb := X.2.1
  have hown := X.2.2.2
  refine lv_aload_n hx hb dX7_needShown_0 rfl (lv_at hl 0 rfl) ?_
  refine q_pI hf hw (fun v h => q_rV (As := []) (rest := []) (q := (RX6, TX6, 2)) X hK hw rfl ho1 (rfl : vwCl[8]? = _) (kX6_areVotesShown ho1 h) mvX6_areVotesShown lk_X7_188 ⟨Nat.le_of_ble_eq_true rfl, Nat.le_of_ble_eq_true rfl⟩ rfl hl.1 rfl (Nat.le_of_ble_eq_true rfl) dX7_needShown_1 ⟨Nat.le_of_ble_eq_true rfl, Nat.le_of_ble_eq_true rfl⟩) (fun v1 H locs hf hw => ?_)
  refine q_if_ne (tgt := 18) hx hb hf dX7_needShown_4 (by decide) (fun hf => ?_) (fun hf => ?_)
  · exact q_xvret hx hb hr hk hw dX7_needShown_18 hf (Nat.le_of_ble_eq_true rfl) (Nat.le_of_ble_eq_true rfl)
  exact q_thrW (fun _ _ => rfl) hf hfl X hK hw hl.1 hk htab ax_UnsupportedOperationException (List.mem_of_getElem? (i := 25) rfl) dX7_needShown_7 dX7_needShown_10 dX7_needShown_11 dX7_needShown_14 dX7_needShown_17 (Nat.le_of_ble_eq_true rfl) (Nat.le_of_ble_eq_true rfl) (Nat.le_of_ble_eq_true rfl) (Nat.le_of_ble_eq_true rfl) (Nat.le_of_ble_eq_true rfl) (Nat.le_of_ble_eq_true rfl)
set_option maxRecDepth 100000 in
theorem kX7_votesFor {Γ : Gm} {l : Launch} (hfl : l.stackTraces = false) {N : Nat} {σ : St} {x1 : Int32} {x2 : Int32} {r : (Int32 ⊕ String) × St}  (hf : fX7_votesFor N σ x1 x2 = some r) : CX Γ STR l yX7_votesFor cX7_votesFor 4 (some (.int)) 10 148 3 18 [.ref (ga Γ 0 0), .int x1, .int x2] (rsI r) σ := by
  unfold fX7_votesFor at hf
  refine cx_body (lv := [(0, .ref (ga Γ 0 0)), (1, .int x1), (2, .int x2)]) (by decide +kernel) rfl (Nat.le_of_ble_eq_true rfl) ?_
  intro p e s m below meth c ls X hr hk hK hw hl htab
  have hx := X.1
  have hb := X.2.1
  have hown := X.2.2.2
  refine lv_aload_n hx hb dX7_votesFor_0 rfl (lv_at hl 0 rfl) ?_
  refine lv_iload_n hx hb dX7_votesFor_1 rfl (lv_at hl 1 rfl) ?_
  refine lv_iload_n hx hb dX7_votesFor_2 rfl (lv_at hl 2 rfl) ?_
  refine q_xR (k := 7) (fun _ _ => rfl) hf hw (fun u h => q_rxV (As := [.int x1, .int x2]) (rest := []) (q := (RX7, TX7, 5)) X hK hw rfl (Nat.le_of_ble_eq_true rfl : 0 < cnt (gn Γ) 0) (rfl : vwCl[9]? = _) (kX7_needView hfl h) mvX7_needView lk_X7_240 ⟨Nat.le_of_ble_eq_true rfl, Nat.le_of_ble_eq_true rfl⟩ rfl hl.1 rfl (Nat.le_of_ble_eq_true rfl) dX7_votesFor_3 ⟨Nat.le_of_ble_eq_true rfl, Nat.le_of_ble_eq_true rfl⟩) hk htab (Nat.le_of_ble_eq_true rfl) (Nat.le_of_ble_eq_true rfl) (fun u1 σ2 H locs hf hw hq => ?_)
  have ho_u1 : u1 < 3 := ltX7_needView hq
  refine lv_astore_n (lv' := [(3, .ref (ga Γ 7 u1)), (0, .ref (ga Γ 0 0)), (1, .int x1), (2, .int x2)]) hx hb dX7_votesFor_6 rfl hl (by decide) rfl (fun ls hl => ?_)
  refine lv_aload_n hx hb dX7_votesFor_7 rfl (lv_at hl 0 rfl) ?_
  refine q_xV (fun _ _ => rfl) hf hw (fun u h => q_rxS (As := [.ref (ga Γ 7 u1)]) (rest := []) X hK hw (kX7_needShown hfl (Nat.lt_of_lt_of_le ho_u1 (Nat.le_of_ble_eq_true rfl : 3 ≤ cnt (gn Γ) 7)) h) msX7_needShown lk_X7_296 ⟨Nat.le_of_ble_eq_true rfl, Nat.le_of_ble_eq_true rfl⟩ rfl hl.1 rfl (Nat.le_of_ble_eq_true rfl) dX7_votesFor_8 ⟨Nat.le_of_ble_eq_true rfl, Nat.le_of_ble_eq_true rfl⟩) hk htab (Nat.le_of_ble_eq_true rfl) (Nat.le_of_ble_eq_true rfl) (fun _ σ3 H locs hf hw hq => ?_)
  refine lv_aload_n hx hb dX7_votesFor_11 rfl (lv_at hl 0 rfl) ?_
  refine lv_iload_n hx hb dX7_votesFor_12 rfl (lv_at hl 3 rfl) ?_
  refine q_pI hf hw (fun v h => q_rV (As := [.int x2]) (rest := []) (q := (RX6, TX6, 2)) X hK hw rfl (Nat.lt_of_lt_of_le ho_u1 (Nat.le_of_ble_eq_true rfl : 3 ≤ cnt (gn Γ) 7)) (rfl : vwCl[8]? = _) (kX6_allVotesFor (Nat.lt_of_lt_of_le ho_u1 (Nat.le_of_ble_eq_true rfl : 3 ≤ cnt (gn Γ) 7)) h) mvX6_allVotesFor lk_X7_300 ⟨Nat.le_of_ble_eq_true rfl, Nat.le_of_ble_eq_true rfl⟩ rfl hl.1 rfl (Nat.le_of_ble_eq_true rfl) dX7_votesFor_13 ⟨Nat.le_of_ble_eq_true rfl, Nat.le_of_ble_eq_true rfl⟩) (fun v4 H locs hf hw => ?_)
  exact q_xiret hf hx hb hr rfl hk hw dX7_votesFor_16 (Nat.le_of_ble_eq_true rfl) (Nat.le_of_ble_eq_true rfl)
set_option maxRecDepth 100000 in
theorem kX7_winner {Γ : Gm} {l : Launch} (hfl : l.stackTraces = false) {N : Nat} {σ : St} {x1 : Int32} {r : (Int32 ⊕ String) × St}  (hf : fX7_winner N σ x1 = some r) : CX Γ STR l yX7_winner cX7_winner 4 (some (.int)) 9 125 3 18 [.ref (ga Γ 0 0), .int x1] (rsI r) σ := by
  unfold fX7_winner at hf
  refine cx_body (lv := [(0, .ref (ga Γ 0 0)), (1, .int x1)]) (by decide +kernel) rfl (Nat.le_of_ble_eq_true rfl) ?_
  intro p e s m below meth c ls X hr hk hK hw hl htab
  have hx := X.1
  have hb := X.2.1
  have hown := X.2.2.2
  refine lv_aload_n hx hb dX7_winner_0 rfl (lv_at hl 0 rfl) ?_
  refine lv_iload_n hx hb dX7_winner_1 rfl (lv_at hl 1 rfl) ?_
  refine q_xR (k := 4) (fun _ _ => rfl) hf hw (fun u h => q_rxV (As := [.int x1]) (rest := []) (q := (RX7, TX7, 5)) X hK hw rfl (Nat.le_of_ble_eq_true rfl : 0 < cnt (gn Γ) 0) (rfl : vwCl[9]? = _) (kX7_needUser hfl h) mvX7_needUser lk_X7_48 ⟨Nat.le_of_ble_eq_true rfl, Nat.le_of_ble_eq_true rfl⟩ rfl hl.1 rfl (Nat.le_of_ble_eq_true rfl) dX7_winner_2 ⟨Nat.le_of_ble_eq_true rfl, Nat.le_of_ble_eq_true rfl⟩) hk htab (Nat.le_of_ble_eq_true rfl) (Nat.le_of_ble_eq_true rfl) (fun u1 σ2 H locs hf hw hq => ?_)
  have ho_u1 : u1 < 3 := ltX7_needUser hq
  refine q_get (v := .ref (ga Γ 7 u1)) hx hb hK hw hown in_X5 ins_X5 (rfl : vwCl[7]? = some (RX5, TX5, 8)) rfl ho_u1 3 (by decide) 301 fl_X7_79 rfl rfl dX7_winner_5 ?_
  refine lv_astore_n (lv' := [(2, .ref (ga Γ 7 u1)), (0, .ref (ga Γ 0 0)), (1, .int x1)]) hx hb dX7_winner_8 rfl hl (by decide) rfl (fun ls hl => ?_)
  refine lv_aload_n hx hb dX7_winner_9 rfl (lv_at hl 0 rfl) ?_
  refine q_xV (fun _ _ => rfl) hf hw (fun u h => q_rxS (As := [.ref (ga Γ 7 u1)]) (rest := []) X hK hw (kX7_needShown hfl (Nat.lt_of_lt_of_le ho_u1 (Nat.le_of_ble_eq_true rfl : 3 ≤ cnt (gn Γ) 7)) h) msX7_needShown lk_X7_296 ⟨Nat.le_of_ble_eq_true rfl, Nat.le_of_ble_eq_true rfl⟩ rfl hl.1 rfl (Nat.le_of_ble_eq_true rfl) dX7_winner_10 ⟨Nat.le_of_ble_eq_true rfl, Nat.le_of_ble_eq_true rfl⟩) hk htab (Nat.le_of_ble_eq_true rfl) (Nat.le_of_ble_eq_true rfl) (fun _ σ3 H locs hf hw hq => ?_)
  refine lv_aload_n hx hb dX7_winner_13 rfl (lv_at hl 0 rfl) ?_
  refine q_pI hf hw (fun v h => q_rV (As := []) (rest := []) (q := (RX6, TX6, 2)) X hK hw rfl (Nat.lt_of_lt_of_le ho_u1 (Nat.le_of_ble_eq_true rfl : 3 ≤ cnt (gn Γ) 7)) (rfl : vwCl[8]? = _) (kX6_mostVoted (Nat.lt_of_lt_of_le ho_u1 (Nat.le_of_ble_eq_true rfl : 3 ≤ cnt (gn Γ) 7)) h) mvX6_mostVoted lk_X7_303 ⟨Nat.le_of_ble_eq_true rfl, Nat.le_of_ble_eq_true rfl⟩ rfl hl.1 rfl (Nat.le_of_ble_eq_true rfl) dX7_winner_14 ⟨Nat.le_of_ble_eq_true rfl, Nat.le_of_ble_eq_true rfl⟩) (fun v4 H locs hf hw => ?_)
  refine lv_istore_n (lv' := [(3, .int v4), (2, .ref (ga Γ 7 u1)), (0, .ref (ga Γ 0 0)), (1, .int x1)]) hx hb dX7_winner_17 rfl hl (by decide) rfl (fun ls hl => ?_)
  refine lv_iload_n hx hb dX7_winner_18 rfl (lv_at hl 0 rfl) ?_
  refine lv_iconst (v := (-1)) hx hb dX7_winner_19 (by decide) ?_
  refine q_ic_ne (tgt := 34) hx hb hf dX7_winner_20 (by decide) (fun hf => ?_) (fun hf => ?_)
  · refine lv_iload_n hx hb dX7_winner_34 rfl (lv_at hl 0 rfl) ?_
    exact q_xiret hf hx hb hr rfl hk hw dX7_winner_35 (Nat.le_of_ble_eq_true rfl) (Nat.le_of_ble_eq_true rfl)
  exact q_thrNW (fun _ _ => rfl) hf hfl X hK hw hl.1 hk htab ax_NoSuchElementException (List.mem_of_getElem? (i := 15) rfl) dX7_winner_23 dX7_winner_26 dX7_winner_27 dX7_winner_30 dX7_winner_33 (Nat.le_of_ble_eq_true rfl) (Nat.le_of_ble_eq_true rfl) (Nat.le_of_ble_eq_true rfl) (Nat.le_of_ble_eq_true rfl) (Nat.le_of_ble_eq_true rfl) (Nat.le_of_ble_eq_true rfl)
set_option maxRecDepth 100000 in
theorem kX7_outcome {Γ : Gm} {l : Launch} (hfl : l.stackTraces = false) {N : Nat} {σ : St} {x1 : Int32} {r : (Int32 ⊕ String) × St}  (hf : fX7_outcome N σ x1 = some r) : CX Γ STR l yX7_outcome cX7_outcome 2 (some (.int)) 9 125 1 6 [.ref (ga Γ 0 0), .int x1] (rsI r) σ := by
  unfold fX7_outcome at hf
  refine cx_body (lv := [(0, .ref (ga Γ 0 0)), (1, .int x1)]) (by decide +kernel) rfl (Nat.le_of_ble_eq_true rfl) ?_
  intro p e s m below meth c ls X hr hk hK hw hl htab
  have hx := X.1
  have hb := X.2.1
  have hown := X.2.2.2
  refine lv_aload_n hx hb dX7_outcome_0 rfl (lv_at hl 0 rfl) ?_
  refine lv_iload_n hx hb dX7_outcome_1 rfl (lv_at hl 1 rfl) ?_
  refine q_xR (k := 4) (fun _ _ => rfl) hf hw (fun u h => q_rxV (As := [.int x1]) (rest := []) (q := (RX7, TX7, 5)) X hK hw rfl (Nat.le_of_ble_eq_true rfl : 0 < cnt (gn Γ) 0) (rfl : vwCl[9]? = _) (kX7_needUser hfl h) mvX7_needUser lk_X7_48 ⟨Nat.le_of_ble_eq_true rfl, Nat.le_of_ble_eq_true rfl⟩ rfl hl.1 rfl (Nat.le_of_ble_eq_true rfl) dX7_outcome_2 ⟨Nat.le_of_ble_eq_true rfl, Nat.le_of_ble_eq_true rfl⟩) hk htab (Nat.le_of_ble_eq_true rfl) (Nat.le_of_ble_eq_true rfl) (fun u1 σ2 H locs hf hw hq => ?_)
  have ho_u1 : u1 < 3 := ltX7_needUser hq
  refine q_get (v := .ref (ga Γ 7 u1)) hx hb hK hw hown in_X5 ins_X5 (rfl : vwCl[7]? = some (RX5, TX5, 8)) rfl ho_u1 3 (by decide) 301 fl_X7_79 rfl rfl dX7_outcome_5 ?_
  refine q_pI hf hw (fun v h => q_rV (As := []) (rest := []) (q := (RX6, TX6, 2)) X hK hw rfl (Nat.lt_of_lt_of_le ho_u1 (Nat.le_of_ble_eq_true rfl : 3 ≤ cnt (gn Γ) 7)) (rfl : vwCl[8]? = _) (kX6_sumUp (Nat.lt_of_lt_of_le ho_u1 (Nat.le_of_ble_eq_true rfl : 3 ≤ cnt (gn Γ) 7)) h) mvX6_sumUp lk_X7_308 ⟨Nat.le_of_ble_eq_true rfl, Nat.le_of_ble_eq_true rfl⟩ rfl hl.1 rfl (Nat.le_of_ble_eq_true rfl) dX7_outcome_8 ⟨Nat.le_of_ble_eq_true rfl, Nat.le_of_ble_eq_true rfl⟩) (fun v3 H locs hf hw => ?_)
  exact q_xiret hf hx hb hr rfl hk hw dX7_outcome_11 (Nat.le_of_ble_eq_true rfl) (Nat.le_of_ble_eq_true rfl)
set_option maxRecDepth 100000 in
theorem kX7_outcomeAnew {Γ : Gm} {l : Launch} (hfl : l.stackTraces = false) {N : Nat} {σ : St} {x1 : Int32} {r : (Int32 ⊕ String) × St}  (hf : fX7_outcomeAnew N σ x1 = some r) : CX Γ STR l yX7_outcomeAnew cX7_outcomeAnew 2 (some (.int)) 9 133 1 6 [.ref (ga Γ 0 0), .int x1] (rsI r) σ := by
  unfold fX7_outcomeAnew at hf
  refine cx_body (lv := [(0, .ref (ga Γ 0 0)), (1, .int x1)]) (by decide +kernel) rfl (Nat.le_of_ble_eq_true rfl) ?_
  intro p e s m below meth c ls X hr hk hK hw hl htab
  have hx := X.1
  have hb := X.2.1
  have hown := X.2.2.2
  refine lv_aload_n hx hb dX7_outcomeAnew_0 rfl (lv_at hl 0 rfl) ?_
  refine q_get (v := .ref (ga Γ 5 0)) hx hb hK hw hown in_X7 ins_X7 (rfl : vwCl[9]? = some (RX7, TX7, 5)) rfl (Nat.le_of_ble_eq_true rfl : 0 < cnt (gn Γ) 0) 3 (by decide) 327 fl_X7_34 rfl rfl dX7_outcomeAnew_1 ?_
  refine lv_aload_n hx hb dX7_outcomeAnew_4 rfl (lv_at hl 0 rfl) ?_
  refine lv_iload_n hx hb dX7_outcomeAnew_5 rfl (lv_at hl 1 rfl) ?_
  refine q_xR (k := 4) (fun _ _ => rfl) hf hw (fun u h => q_rxV (As := [.int x1]) (rest := [.ref (ga Γ 5 0)]) (q := (RX7, TX7, 5)) X hK hw rfl (Nat.le_of_ble_eq_true rfl : 0 < cnt (gn Γ) 0) (rfl : vwCl[9]? = _) (kX7_needUser hfl h) mvX7_needUser lk_X7_48 ⟨Nat.le_of_ble_eq_true rfl, Nat.le_of_ble_eq_true rfl⟩ rfl hl.1 rfl (Nat.le_of_ble_eq_true rfl) dX7_outcomeAnew_6 ⟨Nat.le_of_ble_eq_true rfl, Nat.le_of_ble_eq_true rfl⟩) hk htab (Nat.le_of_ble_eq_true rfl) (Nat.le_of_ble_eq_true rfl) (fun u1 σ2 H locs hf hw hq => ?_)
  have ho_u1 : u1 < 3 := ltX7_needUser hq
  refine q_eI hf hw (fun v τ h => q_rV (As := [.ref (ga Γ 4 u1)]) (rest := []) (q := (RX3, TX3, 8)) X hK hw rfl (Nat.le_of_ble_eq_true rfl : 0 < cnt (gn Γ) 5) (rfl : vwCl[5]? = _) (kX3_sumUpAnew ho_u1 h) mvX3_sumUpAnew lk_X7_311 ⟨Nat.le_of_ble_eq_true rfl, Nat.le_of_ble_eq_true rfl⟩ rfl hl.1 rfl (Nat.le_of_ble_eq_true rfl) dX7_outcomeAnew_9 ⟨Nat.le_of_ble_eq_true rfl, Nat.le_of_ble_eq_true rfl⟩) (fun v4 σ3 H locs hf hw => ?_)
  exact q_xiret hf hx hb hr rfl hk hw dX7_outcomeAnew_12 (Nat.le_of_ble_eq_true rfl) (Nat.le_of_ble_eq_true rfl)
