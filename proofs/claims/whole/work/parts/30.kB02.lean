/-! Contracts, by program. -/
set_option maxRecDepth 100000 in
theorem kX7_outcomes {Γ : Gm} {l : Launch} (hfl : l.stackTraces = false) {N : Nat} {σ : St} {x1 : Int32} {x2 : Int32} {r : (Int32 ⊕ String) × St}  (hf : fX7_outcomes N σ x1 x2 = some r) : CX Γ STR l yX7_outcomes cX7_outcomes 4 (some (.int)) 9 137 2 12 [.ref (ga Γ 0 0), .int x1, .int x2] (rsI r) σ := by
  unfold fX7_outcomes at hf
  refine cx_body (lv := [(0, .ref (ga Γ 0 0)), (1, .int x1), (2, .int x2)]) (by decide +kernel) rfl (Nat.le_of_ble_eq_true rfl) ?_
  intro p e s m below meth c ls X hr hk hK hw hl htab
  have hx := X.1
  have hb := X.2.1
  have hown := X.2.2.2
  refine lv_aload_n hx hb dX7_outcomes_0 rfl (lv_at hl 0 rfl) ?_
  refine lv_iload_n hx hb dX7_outcomes_1 rfl (lv_at hl 1 rfl) ?_
  refine q_xR (k := 4) (fun _ _ => rfl) hf hw (fun u h => q_rxV (As := [.int x1]) (rest := []) (q := (RX7, TX7, 5)) X hK hw rfl (Nat.le_of_ble_eq_true rfl : 0 < cnt (gn Γ) 0) (rfl : vwCl[9]? = _) (kX7_needUser hfl h) mvX7_needUser lk_X7_48 ⟨Nat.le_of_ble_eq_true rfl, Nat.le_of_ble_eq_true rfl⟩ rfl hl.1 rfl (Nat.le_of_ble_eq_true rfl) dX7_outcomes_2 ⟨Nat.le_of_ble_eq_true rfl, Nat.le_of_ble_eq_true rfl⟩) hk htab (Nat.le_of_ble_eq_true rfl) (Nat.le_of_ble_eq_true rfl) (fun u1 σ2 H locs hf hw hq => ?_)
  have ho_u1 : u1 < 3 := ltX7_needUser hq
  refine lv_astore_n (lv' := [(3, .ref (ga Γ 4 u1)), (0, .ref (ga Γ 0 0)), (1, .int x1), (2, .int x2)]) hx hb dX7_outcomes_5 rfl hl (by decide) rfl (fun ls hl => ?_)
  refine lv_iload_n hx hb dX7_outcomes_6 rfl (lv_at hl 3 rfl) ?_
  refine q_if_lt (tgt := 15) hx hb hf dX7_outcomes_7 (by decide) (fun hf => ?_) (fun hf => ?_)
  · exact q_thrW (fun _ _ => rfl) hf hfl X hK hw hl.1 hk htab ax_IllegalArgumentException (List.mem_of_getElem? (i := 16) rfl) dX7_outcomes_15 dX7_outcomes_18 dX7_outcomes_19 dX7_outcomes_22 dX7_outcomes_25 (Nat.le_of_ble_eq_true rfl) (Nat.le_of_ble_eq_true rfl) (Nat.le_of_ble_eq_true rfl) (Nat.le_of_ble_eq_true rfl) (Nat.le_of_ble_eq_true rfl) (Nat.le_of_ble_eq_true rfl)
  refine lv_iload_n hx hb dX7_outcomes_10 rfl (lv_at hl 3 rfl) ?_
  refine lv_iconst (v := 4) hx hb dX7_outcomes_11 (by decide) ?_
  refine q_ic_le (tgt := 26) hx hb hf dX7_outcomes_12 (by decide) (fun hf => ?_) (fun hf => ?_)
  · refine lv_aload_n hx hb dX7_outcomes_26 rfl (lv_at hl 1 rfl) ?_
    refine q_get (v := .ref (ga Γ 5 0)) hx hb hK hw hown in_X7 ins_X7 (rfl : vwCl[9]? = some (RX7, TX7, 5)) rfl (Nat.le_of_ble_eq_true rfl : 0 < cnt (gn Γ) 0) 3 (by decide) 327 fl_X7_34 rfl rfl dX7_outcomes_27 ?_
    refine lv_aload_n hx hb dX7_outcomes_30 rfl (lv_at hl 0 rfl) ?_
    refine lv_iload_n hx hb dX7_outcomes_31 rfl (lv_at hl 3 rfl) ?_
    refine q_eI hf hw (fun v τ h => q_rV (As := [.ref (ga Γ 4 u1), .int x2]) (rest := []) (q := (RX3, TX3, 8)) X hK hw rfl (Nat.le_of_ble_eq_true rfl : 0 < cnt (gn Γ) 5) (rfl : vwCl[5]? = _) (kX3_countDifferent ho_u1 h) mvX3_countDifferent lk_X7_317 ⟨Nat.le_of_ble_eq_true rfl, Nat.le_of_ble_eq_true rfl⟩ rfl hl.1 rfl (Nat.le_of_ble_eq_true rfl) dX7_outcomes_32 ⟨Nat.le_of_ble_eq_true rfl, Nat.le_of_ble_eq_true rfl⟩) (fun v4 σ3 H locs hf hw => ?_)
    exact q_xiret hf hx hb hr rfl hk hw dX7_outcomes_35 (Nat.le_of_ble_eq_true rfl) (Nat.le_of_ble_eq_true rfl)
  exact q_thrW (fun _ _ => rfl) hf hfl X hK hw hl.1 hk htab ax_IllegalArgumentException (List.mem_of_getElem? (i := 16) rfl) dX7_outcomes_15 dX7_outcomes_18 dX7_outcomes_19 dX7_outcomes_22 dX7_outcomes_25 (Nat.le_of_ble_eq_true rfl) (Nat.le_of_ble_eq_true rfl) (Nat.le_of_ble_eq_true rfl) (Nat.le_of_ble_eq_true rfl) (Nat.le_of_ble_eq_true rfl) (Nat.le_of_ble_eq_true rfl)
set_option maxRecDepth 100000 in
theorem kX7_areAlike {Γ : Gm} {l : Launch} (hfl : l.stackTraces = false) {N : Nat} {σ : St} {x1 : Int32} {x2 : Int32} {r : (Int32 ⊕ String) × St}  (hf : fX7_areAlike N σ x1 x2 = some r) : CX Γ STR l yX7_areAlike cX7_areAlike 5 (some (.boolean)) 9 125 2 12 [.ref (ga Γ 0 0), .int x1, .int x2] (rsI r) σ := by
  unfold fX7_areAlike at hf
  refine cx_body (lv := [(0, .ref (ga Γ 0 0)), (1, .int x1), (2, .int x2)]) (by decide +kernel) rfl (Nat.le_of_ble_eq_true rfl) ?_
  intro p e s m below meth c ls X hr hk hK hw hl htab
  have hx := X.1
  have hb := X.2.1
  have hown := X.2.2.2
  refine lv_aload_n hx hb dX7_areAlike_0 rfl (lv_at hl 0 rfl) ?_
  refine lv_iload_n hx hb dX7_areAlike_1 rfl (lv_at hl 1 rfl) ?_
  refine q_xR (k := 4) (fun _ _ => rfl) hf hw (fun u h => q_rxV (As := [.int x1]) (rest := []) (q := (RX7, TX7, 5)) X hK hw rfl (Nat.le_of_ble_eq_true rfl : 0 < cnt (gn Γ) 0) (rfl : vwCl[9]? = _) (kX7_needUser hfl h) mvX7_needUser lk_X7_48 ⟨Nat.le_of_ble_eq_true rfl, Nat.le_of_ble_eq_true rfl⟩ rfl hl.1 rfl (Nat.le_of_ble_eq_true rfl) dX7_areAlike_2 ⟨Nat.le_of_ble_eq_true rfl, Nat.le_of_ble_eq_true rfl⟩) hk htab (Nat.le_of_ble_eq_true rfl) (Nat.le_of_ble_eq_true rfl) (fun u1 σ2 H locs hf hw hq => ?_)
  have ho_u1 : u1 < 3 := ltX7_needUser hq
  refine lv_astore_n (lv' := [(3, .ref (ga Γ 4 u1)), (0, .ref (ga Γ 0 0)), (1, .int x1), (2, .int x2)]) hx hb dX7_areAlike_5 rfl hl (by decide) rfl (fun ls hl => ?_)
  refine lv_aload_n hx hb dX7_areAlike_6 rfl (lv_at hl 1 rfl) ?_
  refine lv_iload_n hx hb dX7_areAlike_7 rfl (lv_at hl 3 rfl) ?_
  refine q_xR (k := 4) (fun _ _ => rfl) hf hw (fun u h => q_rxV (As := [.int x2]) (rest := []) (q := (RX7, TX7, 5)) X hK hw rfl (Nat.le_of_ble_eq_true rfl : 0 < cnt (gn Γ) 0) (rfl : vwCl[9]? = _) (kX7_needUser hfl h) mvX7_needUser lk_X7_48 ⟨Nat.le_of_ble_eq_true rfl, Nat.le_of_ble_eq_true rfl⟩ rfl hl.1 rfl (Nat.le_of_ble_eq_true rfl) dX7_areAlike_8 ⟨Nat.le_of_ble_eq_true rfl, Nat.le_of_ble_eq_true rfl⟩) hk htab (Nat.le_of_ble_eq_true rfl) (Nat.le_of_ble_eq_true rfl) (fun u3 σ4 H locs hf hw hq => ?_)
  have ho_u3 : u3 < 3 := ltX7_needUser hq
  refine lv_astore (lv' := [(4, .ref (ga Γ 4 u3)), (3, .ref (ga Γ 4 u1)), (0, .ref (ga Γ 0 0)), (1, .int x1), (2, .int x2)]) hx hb dX7_areAlike_11 hl (by decide) rfl (fun ls hl => ?_)
  refine lv_aload_n hx hb dX7_areAlike_13 rfl (lv_at hl 1 rfl) ?_
  refine q_get (v := .ref (ga Γ 3 u1)) hx hb hK hw hown in_X5 ins_X5 (rfl : vwCl[7]? = some (RX5, TX5, 8)) rfl ho_u1 2 (by decide) 299 fl_X7_321 rfl rfl dX7_areAlike_14 ?_
  refine lv_aload hx hb dX7_areAlike_17 (lv_at hl 0 rfl) ?_
  refine q_get (v := .ref (ga Γ 3 u3)) hx hb hK hw hown in_X5 ins_X5 (rfl : vwCl[7]? = some (RX5, TX5, 8)) rfl ho_u3 2 (by decide) 299 fl_X7_321 rfl rfl dX7_areAlike_19 ?_
  refine q_pI hf hw (fun v h => q_rV (As := [.ref (ga Γ 3 u3)]) (rest := []) (q := (RX0, TX0, 4)) X hK hw rfl (Nat.lt_of_lt_of_le ho_u1 (Nat.le_of_ble_eq_true rfl : 3 ≤ cnt (gn Γ) 3)) (rfl : vwCl[2]? = _) (kX0_hasSameValues (Nat.lt_of_lt_of_le ho_u1 (Nat.le_of_ble_eq_true rfl : 3 ≤ cnt (gn Γ) 3)) (Nat.lt_of_lt_of_le ho_u3 (Nat.le_of_ble_eq_true rfl : 3 ≤ cnt (gn Γ) 3)) h) mvX0_hasSameValues lk_X7_325 ⟨Nat.le_of_ble_eq_true rfl, Nat.le_of_ble_eq_true rfl⟩ rfl hl.1 rfl (Nat.le_of_ble_eq_true rfl) dX7_areAlike_22 ⟨Nat.le_of_ble_eq_true rfl, Nat.le_of_ble_eq_true rfl⟩) (fun v5 H locs hf hw => ?_)
  exact q_xnret hf hx hb hr vn_Z hk hw dX7_areAlike_25 (Nat.le_of_ble_eq_true rfl) (Nat.le_of_ble_eq_true rfl)
set_option maxRecDepth 100000 in
theorem kX7_frameShare {Γ : Gm} {l : Launch} (hfl : l.stackTraces = false) {N : Nat} {σ : St} {x1 : Int32} {r : (UInt32 ⊕ String) × St}  (hf : fX7_frameShare N σ x1 = some r) : CX Γ STR l yX7_frameShare cX7_frameShare 4 (some (.float)) 9 125 2 12 [.ref (ga Γ 0 0), .int x1] (rsF r) σ := by
  unfold fX7_frameShare at hf
  refine cx_body (lv := [(0, .ref (ga Γ 0 0)), (1, .int x1)]) (by decide +kernel) rfl (Nat.le_of_ble_eq_true rfl) ?_
  intro p e s m below meth c ls X hr hk hK hw hl htab
  have hx := X.1
  have hb := X.2.1
  have hown := X.2.2.2
  refine lv_aload_n hx hb dX7_frameShare_0 rfl (lv_at hl 0 rfl) ?_
  refine lv_iload_n hx hb dX7_frameShare_1 rfl (lv_at hl 1 rfl) ?_
  refine q_xR (k := 4) (fun _ _ => rfl) hf hw (fun u h => q_rxV (As := [.int x1]) (rest := []) (q := (RX7, TX7, 5)) X hK hw rfl (Nat.le_of_ble_eq_true rfl : 0 < cnt (gn Γ) 0) (rfl : vwCl[9]? = _) (kX7_needUser hfl h) mvX7_needUser lk_X7_48 ⟨Nat.le_of_ble_eq_true rfl, Nat.le_of_ble_eq_true rfl⟩ rfl hl.1 rfl (Nat.le_of_ble_eq_true rfl) dX7_frameShare_2 ⟨Nat.le_of_ble_eq_true rfl, Nat.le_of_ble_eq_true rfl⟩) hk htab (Nat.le_of_ble_eq_true rfl) (Nat.le_of_ble_eq_true rfl) (fun u1 σ2 H locs hf hw hq => ?_)
  have ho_u1 : u1 < 3 := ltX7_needUser hq
  refine q_get (v := .ref (ga Γ 7 u1)) hx hb hK hw hown in_X5 ins_X5 (rfl : vwCl[7]? = some (RX5, TX5, 8)) rfl ho_u1 3 (by decide) 301 fl_X7_79 rfl rfl dX7_frameShare_5 ?_
  refine lv_astore_n (lv' := [(2, .ref (ga Γ 7 u1)), (0, .ref (ga Γ 0 0)), (1, .int x1)]) hx hb dX7_frameShare_8 rfl hl (by decide) rfl (fun ls hl => ?_)
  refine lv_aload_n hx hb dX7_frameShare_9 rfl (lv_at hl 0 rfl) ?_
  refine q_pI hf hw (fun v h => q_rV (As := []) (rest := []) (q := (RX6, TX6, 2)) X hK hw rfl (Nat.lt_of_lt_of_le ho_u1 (Nat.le_of_ble_eq_true rfl : 3 ≤ cnt (gn Γ) 7)) (rfl : vwCl[8]? = _) (kX6_countShapes (Nat.lt_of_lt_of_le ho_u1 (Nat.le_of_ble_eq_true rfl : 3 ≤ cnt (gn Γ) 7)) h) mvX6_countShapes lk_X7_83 ⟨Nat.le_of_ble_eq_true rfl, Nat.le_of_ble_eq_true rfl⟩ rfl hl.1 rfl (Nat.le_of_ble_eq_true rfl) dX7_frameShare_10 ⟨Nat.le_of_ble_eq_true rfl, Nat.le_of_ble_eq_true rfl⟩) (fun v3 H locs hf hw => ?_)
  refine lv_istore_n (lv' := [(3, .int v3), (2, .ref (ga Γ 7 u1)), (0, .ref (ga Γ 0 0)), (1, .int x1)]) hx hb dX7_frameShare_13 rfl hl (by decide) rfl (fun ls hl => ?_)
  refine lv_iload_n hx hb dX7_frameShare_14 rfl (lv_at hl 0 rfl) ?_
  refine q_if_ne (tgt := 29) hx hb hf dX7_frameShare_15 (by decide) (fun hf => ?_) (fun hf => ?_)
  · refine lv_aload_n hx hb dX7_frameShare_29 rfl (lv_at hl 1 rfl) ?_
    refine q_pI hf hw (fun v h => q_rV (As := []) (rest := []) (q := (RX6, TX6, 2)) X hK hw rfl (Nat.lt_of_lt_of_le ho_u1 (Nat.le_of_ble_eq_true rfl : 3 ≤ cnt (gn Γ) 7)) (rfl : vwCl[8]? = _) (kX6_countFrames (Nat.lt_of_lt_of_le ho_u1 (Nat.le_of_ble_eq_true rfl : 3 ≤ cnt (gn Γ) 7)) h) mvX6_countFrames lk_X7_336 ⟨Nat.le_of_ble_eq_true rfl, Nat.le_of_ble_eq_true rfl⟩ rfl hl.1 rfl (Nat.le_of_ble_eq_true rfl) dX7_frameShare_30 ⟨Nat.le_of_ble_eq_true rfl, Nat.le_of_ble_eq_true rfl⟩) (fun v4 H locs hf hw => ?_)
    refine lv_i2f hx hb dX7_frameShare_33 ?_
    refine lv_iload_n hx hb dX7_frameShare_34 rfl (lv_at hl 0 rfl) ?_
    refine lv_i2f hx hb dX7_frameShare_35 ?_
    refine q_fdiv hx hb hf dX7_frameShare_36 (fun hf => ?_)
    exact q_xfret hf hx hb hr hk hw dX7_frameShare_37 (Nat.le_of_ble_eq_true rfl) (Nat.le_of_ble_eq_true rfl)
  exact q_thrW (fun _ _ => rfl) hf hfl X hK hw hl.1 hk htab ax_ArithmeticException (List.mem_of_getElem? (i := 17) rfl) dX7_frameShare_18 dX7_frameShare_21 dX7_frameShare_22 dX7_frameShare_25 dX7_frameShare_28 (Nat.le_of_ble_eq_true rfl) (Nat.le_of_ble_eq_true rfl) (Nat.le_of_ble_eq_true rfl) (Nat.le_of_ble_eq_true rfl) (Nat.le_of_ble_eq_true rfl) (Nat.le_of_ble_eq_true rfl)
set_option maxRecDepth 100000 in
theorem kX7_meanRoute {Γ : Gm} {l : Launch} (hfl : l.stackTraces = false) {N : Nat} {σ : St} {x1 : Int32} {r : (UInt64 ⊕ String) × St}  (hf : fX7_meanRoute N σ x1 = some r) : CX Γ STR l yX7_meanRoute cX7_meanRoute 7 (some (.double)) 9 137 2 12 [.ref (ga Γ 0 0), .int x1] (rsD r) σ := by
  unfold fX7_meanRoute at hf
  refine cx_body (lv := [(0, .ref (ga Γ 0 0)), (1, .int x1)]) (by decide +kernel) rfl (Nat.le_of_ble_eq_true rfl) ?_
  intro p e s m below meth c ls X hr hk hK hw hl htab
  have hx := X.1
  have hb := X.2.1
  have hown := X.2.2.2
  refine lv_aload_n hx hb dX7_meanRoute_0 rfl (lv_at hl 0 rfl) ?_
  refine lv_iload_n hx hb dX7_meanRoute_1 rfl (lv_at hl 1 rfl) ?_
  refine q_xR (k := 4) (fun _ _ => rfl) hf hw (fun u h => q_rxV (As := [.int x1]) (rest := []) (q := (RX7, TX7, 5)) X hK hw rfl (Nat.le_of_ble_eq_true rfl : 0 < cnt (gn Γ) 0) (rfl : vwCl[9]? = _) (kX7_needUser hfl h) mvX7_needUser lk_X7_48 ⟨Nat.le_of_ble_eq_true rfl, Nat.le_of_ble_eq_true rfl⟩ rfl hl.1 rfl (Nat.le_of_ble_eq_true rfl) dX7_meanRoute_2 ⟨Nat.le_of_ble_eq_true rfl, Nat.le_of_ble_eq_true rfl⟩) hk htab (Nat.le_of_ble_eq_true rfl) (Nat.le_of_ble_eq_true rfl) (fun u1 σ2 H locs hf hw hq => ?_)
  have ho_u1 : u1 < 3 := ltX7_needUser hq
  refine q_get (v := .ref (ga Γ 7 u1)) hx hb hK hw hown in_X5 ins_X5 (rfl : vwCl[7]? = some (RX5, TX5, 8)) rfl ho_u1 3 (by decide) 301 fl_X7_79 rfl rfl dX7_meanRoute_5 ?_
  refine lv_astore_n (lv' := [(2, .ref (ga Γ 7 u1)), (0, .ref (ga Γ 0 0)), (1, .int x1)]) hx hb dX7_meanRoute_8 rfl hl (by decide) rfl (fun ls hl => ?_)
  refine lv_iconst (v := 0) hx hb dX7_meanRoute_9 (by decide) ?_
  refine lv_istore_n (lv' := [(3, .int (0 : Int32)), (2, .ref (ga Γ 7 u1)), (0, .ref (ga Γ 0 0)), (1, .int x1)]) hx hb dX7_meanRoute_10 rfl hl (by decide) rfl (fun ls hl => ?_)
  refine lv_iconst (v := 0) hx hb dX7_meanRoute_11 (by decide) ?_
  refine lv_istore (lv' := [(4, .int (0 : Int32)), (3, .int (0 : Int32)), (2, .ref (ga Γ 7 u1)), (0, .ref (ga Γ 0 0)), (1, .int x1)]) hx hb dX7_meanRoute_12 hl (by decide) rfl (fun ls hl => ?_)
  refine lv_iconst (v := 0) hx hb dX7_meanRoute_14 (by decide) ?_
  refine lv_istore (lv' := [(5, .int (0 : Int32)), (4, .int (0 : Int32)), (3, .int (0 : Int32)), (2, .ref (ga Γ 7 u1)), (0, .ref (ga Γ 0 0)), (1, .int x1)]) hx hb dX7_meanRoute_15 hl (by decide) rfl (fun ls hl => ?_)
  have L17 : ∀ (K : Int32 → Int32 → Int32 → St → Option (((UInt64 ⊕ String) × St))) (hkk : ∀ (y3 : Int32) (y4 : Int32) (y5 : Int32) (σq : St) (H : Heap) (locs : List Loc) (ls : Array Slot), K y3 y4 y5 σq = some r → Sit Γ σq s H locs → lv_has ls 7 [(3, .int y3), (4, .int y4)] → W p l e { frames := 9, cells := 2, slots := 12, locals := 137 } s m [.ref (ga Γ 0 0), .int x1].toArray below meth c H locs 1 6 (QZ Γ below (rsD r) [.ref (ga Γ 0 0), .int x1].toArray s 2 12) (F0 m 72 ls [])) (n : Nat) (v3 : Int32) (v4 : Int32) (v5 : Int32) (σ6 : St) (H : Heap) (locs : List Loc) (ls : Array Slot), fX7_meanRoute_L17 K N u1 n v3 v4 v5 σ6 = some r → Sit Γ σ6 s H locs → lv_has ls 7 [(0, .ref (ga Γ 0 0)), (2, .ref (ga Γ 7 u1)), (3, .int v3), (4, .int v4), (5, .int v5)] → W p l e { frames := 9, cells := 2, slots := 12, locals := 137 } s m [.ref (ga Γ 0 0), .int x1].toArray below meth c H locs 1 6 (QZ Γ below (rsD r) [.ref (ga Γ 0 0), .int x1].toArray s 2 12) (F0 m 17 ls []) := by
    intro K hkk n
    induction n with
    | zero =>
      intro _ _ _ _ _ _ _ hf
      exact nomatch hf
    | succ n ih =>
      intro v3 v4 v5 σ6 H locs ls hf hw hl
      refine lv_iload hx hb dX7_meanRoute_17 (lv_at hl 4 rfl) ?_
      refine lv_bipush (v := 8) hx hb dX7_meanRoute_19 (by decide) ?_
      refine q_ic_ge (tgt := 72) hx hb hf dX7_meanRoute_21 (by decide) (fun hf => ?_) (fun hf => ?_)
      · exact hkk _ _ _ _ _ _ _ hf hw (lv_sub hl [2, 3] rfl)
      refine lv_aload_n hx hb dX7_meanRoute_24 rfl (lv_at hl 1 rfl) ?_
      refine lv_iload hx hb dX7_meanRoute_25 (lv_at hl 4 rfl) ?_
      refine q_pI hf hw (fun v h => q_rV (As := [.int v5]) (rest := []) (q := (RX6, TX6, 2)) X hK hw rfl (Nat.lt_of_lt_of_le ho_u1 (Nat.le_of_ble_eq_true rfl : 3 ≤ cnt (gn Γ) 7)) (rfl : vwCl[8]? = _) (kX6_isSeenConnector (Nat.lt_of_lt_of_le ho_u1 (Nat.le_of_ble_eq_true rfl : 3 ≤ cnt (gn Γ) 7)) h) mvX6_isSeenConnector lk_X7_339 ⟨Nat.le_of_ble_eq_true rfl, Nat.le_of_ble_eq_true rfl⟩ rfl hl.1 rfl (Nat.le_of_ble_eq_true rfl) dX7_meanRoute_27 ⟨Nat.le_of_ble_eq_true rfl, Nat.le_of_ble_eq_true rfl⟩) (fun v7 H locs hf hw => ?_)
      refine q_if_eq (tgt := 66) hx hb hf dX7_meanRoute_30 (by decide) (fun hf => ?_) (fun hf => ?_)
      · refine q_iinc (lv1 := [(0, .ref (ga Γ 0 0)), (2, .ref (ga Γ 7 u1)), (3, .int v3), (4, .int v4)]) (d := 1) hx hb hf dX7_meanRoute_66 hl (k := 4) rfl (by decide) (by decide) rfl (fun v8 ls hf hl => ?_)
        refine lv_goto (tgt := 17) hx hb dX7_meanRoute_69 (by decide) ?_
        exact ih _ _ _ _ _ _ _ hf hw (lv_sub hl [1, 2, 3, 4, 0] rfl)
      refine lv_aload_n hx hb dX7_meanRoute_33 rfl (lv_at hl 0 rfl) ?_
      refine q_get (v := .ref (ga Γ 6 0)) hx hb hK hw hown in_X7 ins_X7 (rfl : vwCl[9]? = some (RX7, TX7, 5)) rfl (Nat.le_of_ble_eq_true rfl : 0 < cnt (gn Γ) 0) 4 (by decide) 328 fl_X7_41 rfl rfl dX7_meanRoute_34 ?_
      refine lv_aload_n hx hb dX7_meanRoute_37 rfl (lv_at hl 1 rfl) ?_
      refine lv_iload hx hb dX7_meanRoute_38 (lv_at hl 4 rfl) ?_
      refine q_eV hf hw (fun τ h => q_rV (As := [.ref (ga Γ 7 u1), .int v5]) (rest := []) (q := (RX4, TX4, 9)) X hK hw rfl (Nat.le_of_ble_eq_true rfl : 0 < cnt (gn Γ) 6) (rfl : vwCl[6]? = _) (kX4_draw (Nat.lt_of_lt_of_le ho_u1 (Nat.le_of_ble_eq_true rfl : 3 ≤ cnt (gn Γ) 7)) h) mvX4_draw lk_X7_342 ⟨Nat.le_of_ble_eq_true rfl, Nat.le_of_ble_eq_true rfl⟩ rfl hl.1 rfl (Nat.le_of_ble_eq_true rfl) dX7_meanRoute_40 ⟨Nat.le_of_ble_eq_true rfl, Nat.le_of_ble_eq_true rfl⟩) (fun σ9 H locs hf hw => ?_)
      refine lv_aload_n hx hb dX7_meanRoute_43 rfl (lv_at hl 0 rfl) ?_
      refine q_get (v := .ref (ga Γ 6 0)) hx hb hK hw hown in_X7 ins_X7 (rfl : vwCl[9]? = some (RX7, TX7, 5)) rfl (Nat.le_of_ble_eq_true rfl : 0 < cnt (gn Γ) 0) 4 (by decide) 328 fl_X7_41 rfl rfl dX7_meanRoute_44 ?_
      refine q_eI hf hw (fun v τ h => q_rV (As := []) (rest := []) (q := (RX4, TX4, 9)) X hK hw rfl (Nat.le_of_ble_eq_true rfl : 0 < cnt (gn Γ) 6) (rfl : vwCl[6]? = _) (kX4_fewestCells h) mvX4_fewestCells lk_X7_293 ⟨Nat.le_of_ble_eq_true rfl, Nat.le_of_ble_eq_true rfl⟩ rfl hl.1 rfl (Nat.le_of_ble_eq_true rfl) dX7_meanRoute_47 ⟨Nat.le_of_ble_eq_true rfl, Nat.le_of_ble_eq_true rfl⟩) (fun v11 σ10 H locs hf hw => ?_)
      refine lv_istore (lv' := [(6, .int v11), (0, .ref (ga Γ 0 0)), (2, .ref (ga Γ 7 u1)), (3, .int v3), (4, .int v4), (5, .int v5)]) hx hb dX7_meanRoute_50 hl (by decide) rfl (fun ls hl => ?_)
      refine lv_iload hx hb dX7_meanRoute_52 (lv_at hl 0 rfl) ?_
      refine lv_iconst (v := (-1)) hx hb dX7_meanRoute_54 (by decide) ?_
      refine q_ic_eq (tgt := 66) hx hb hf dX7_meanRoute_55 (by decide) (fun hf => ?_) (fun hf => ?_)
      · refine q_iinc (lv1 := [(6, .int v11), (0, .ref (ga Γ 0 0)), (2, .ref (ga Γ 7 u1)), (3, .int v3), (4, .int v4)]) (d := 1) hx hb hf dX7_meanRoute_66 hl (k := 5) rfl (by decide) (by decide) rfl (fun v12 ls hf hl => ?_)
        refine lv_goto (tgt := 17) hx hb dX7_meanRoute_69 (by decide) ?_
        exact ih _ _ _ _ _ _ _ hf hw (lv_sub hl [2, 3, 4, 5, 0] rfl)
      refine lv_iload_n hx hb dX7_meanRoute_58 rfl (lv_at hl 3 rfl) ?_
      refine lv_iload hx hb dX7_meanRoute_59 (lv_at hl 0 rfl) ?_
      refine lv_iadd hx hb dX7_meanRoute_61 ?_
      refine q_istore_n (lv1 := [(6, .int v11), (0, .ref (ga Γ 0 0)), (2, .ref (ga Γ 7 u1)), (4, .int v4), (5, .int v5)]) hx hb hf dX7_meanRoute_62 rfl hl (by decide) rfl (fun v13 ls hf hl => ?_)
      refine q_iinc (lv1 := [(3, .int v13), (6, .int v11), (0, .ref (ga Γ 0 0)), (2, .ref (ga Γ 7 u1)), (5, .int v5)]) (d := 1) hx hb hf dX7_meanRoute_63 hl (k := 4) rfl (by decide) (by decide) rfl (fun v14 ls hf hl => ?_)
      refine q_iinc (lv1 := [(4, .int v14), (3, .int v13), (6, .int v11), (0, .ref (ga Γ 0 0)), (2, .ref (ga Γ 7 u1))]) (d := 1) hx hb hf dX7_meanRoute_66 hl (k := 5) rfl (by decide) (by decide) rfl (fun v15 ls hf hl => ?_)
      refine lv_goto (tgt := 17) hx hb dX7_meanRoute_69 (by decide) ?_
      exact ih _ _ _ _ _ _ _ hf hw (lv_sub hl [4, 5, 2, 1, 0] rfl)
  refine L17 _ (fun v16 v17 _ σ18 H locs ls hf hw hl => ?_) N (0 : Int32) (0 : Int32) (0 : Int32) σ2 _ _ _ hf hw (lv_sub hl [4, 3, 2, 1, 0] rfl)
  refine lv_iload hx hb dX7_meanRoute_72 (lv_at hl 1 rfl) ?_
  refine q_if_ne (tgt := 88) hx hb hf dX7_meanRoute_74 (by decide) (fun hf => ?_) (fun hf => ?_)
  · refine lv_iload_n hx hb dX7_meanRoute_88 rfl (lv_at hl 0 rfl) ?_
    refine lv_i2d hx hb dX7_meanRoute_89 ?_
    refine lv_iload hx hb dX7_meanRoute_90 (lv_at hl 1 rfl) ?_
    refine lv_i2d hx hb dX7_meanRoute_92 ?_
    refine q_ddiv hx hb hf dX7_meanRoute_93 (fun hf => ?_)
    exact q_xdret hf hx hb hr hk hw dX7_meanRoute_94 (Nat.le_of_ble_eq_true rfl) (Nat.le_of_ble_eq_true rfl)
  exact q_thrW (fun _ _ => rfl) hf hfl X hK hw hl.1 hk htab ax_ArithmeticException (List.mem_of_getElem? (i := 18) rfl) dX7_meanRoute_77 dX7_meanRoute_80 dX7_meanRoute_81 dX7_meanRoute_84 dX7_meanRoute_87 (Nat.le_of_ble_eq_true rfl) (Nat.le_of_ble_eq_true rfl) (Nat.le_of_ble_eq_true rfl) (Nat.le_of_ble_eq_true rfl) (Nat.le_of_ble_eq_true rfl) (Nat.le_of_ble_eq_true rfl)
set_option maxRecDepth 100000 in
theorem kX7_area {Γ : Gm} {l : Launch} (hfl : l.stackTraces = false) {N : Nat} {σ : St} {x1 : Int32} {r : (Int64 ⊕ String) × St}  (hf : fX7_area N σ x1 = some r) : CX Γ STR l yX7_area cX7_area 2 (some (.long)) 9 125 1 6 [.ref (ga Γ 0 0), .int x1] (rsJ r) σ := by
  unfold fX7_area at hf
  refine cx_body (lv := [(0, .ref (ga Γ 0 0)), (1, .int x1)]) (by decide +kernel) rfl (Nat.le_of_ble_eq_true rfl) ?_
  intro p e s m below meth c ls X hr hk hK hw hl htab
  have hx := X.1
  have hb := X.2.1
  have hown := X.2.2.2
  refine lv_aload_n hx hb dX7_area_0 rfl (lv_at hl 0 rfl) ?_
  refine lv_iload_n hx hb dX7_area_1 rfl (lv_at hl 1 rfl) ?_
  refine q_xR (k := 4) (fun _ _ => rfl) hf hw (fun u h => q_rxV (As := [.int x1]) (rest := []) (q := (RX7, TX7, 5)) X hK hw rfl (Nat.le_of_ble_eq_true rfl : 0 < cnt (gn Γ) 0) (rfl : vwCl[9]? = _) (kX7_needUser hfl h) mvX7_needUser lk_X7_48 ⟨Nat.le_of_ble_eq_true rfl, Nat.le_of_ble_eq_true rfl⟩ rfl hl.1 rfl (Nat.le_of_ble_eq_true rfl) dX7_area_2 ⟨Nat.le_of_ble_eq_true rfl, Nat.le_of_ble_eq_true rfl⟩) hk htab (Nat.le_of_ble_eq_true rfl) (Nat.le_of_ble_eq_true rfl) (fun u1 σ2 H locs hf hw hq => ?_)
  have ho_u1 : u1 < 3 := ltX7_needUser hq
  refine q_get (v := .ref (ga Γ 7 u1)) hx hb hK hw hown in_X5 ins_X5 (rfl : vwCl[7]? = some (RX5, TX5, 8)) rfl ho_u1 3 (by decide) 301 fl_X7_79 rfl rfl dX7_area_5 ?_
  refine q_pJ hf hw (fun v h => q_rV (As := []) (rest := []) (q := (RX6, TX6, 2)) X hK hw rfl (Nat.lt_of_lt_of_le ho_u1 (Nat.le_of_ble_eq_true rfl : 3 ≤ cnt (gn Γ) 7)) (rfl : vwCl[8]? = _) (kX6_sumOfAreas (Nat.lt_of_lt_of_le ho_u1 (Nat.le_of_ble_eq_true rfl : 3 ≤ cnt (gn Γ) 7)) h) mvX6_sumOfAreas lk_X7_348 ⟨Nat.le_of_ble_eq_true rfl, Nat.le_of_ble_eq_true rfl⟩ rfl hl.1 rfl (Nat.le_of_ble_eq_true rfl) dX7_area_8 ⟨Nat.le_of_ble_eq_true rfl, Nat.le_of_ble_eq_true rfl⟩) (fun v3 H locs hf hw => ?_)
  exact q_xlret hf hx hb hr hk hw dX7_area_11 (Nat.le_of_ble_eq_true rfl) (Nat.le_of_ble_eq_true rfl)
