/-! Contracts, by program. -/
set_option maxRecDepth 100000 in
theorem kX2_hasConnector {Γ : Gm} {S : List (String × Nat × String)} {l : Launch} {N : Nat} {σ : St} {x1 : Int32} {r : Int32}  (hf : fX2_hasConnector N σ x1 = some r) : CT Γ S l yX2_hasConnector cX2_hasConnector 2 (some (.boolean)) 0 0 0 0 [.ref (ga Γ 2 0), .int x1] (some (.int r)) σ σ := by
  unfold fX2_hasConnector at hf
  refine ct_body (lv := [(0, .ref (ga Γ 2 0)), (1, .int x1)]) (by decide +kernel) rfl (Nat.le_of_ble_eq_true rfl) ?_
  intro p e s m below meth c ls X hr hk hK hw hl
  have hx := X.1
  have hb := X.2.1
  have hown := X.2.2.2
  refine lv_iload_n hx hb dX2_hasConnector_0 rfl (lv_at hl 1 rfl) ?_
  refine q_if_lt (tgt := 16) hx hb hf dX2_hasConnector_1 (by decide) (fun hf => ?_) (fun hf => ?_)
  · refine lv_iconst (v := 0) hx hb dX2_hasConnector_16 (by decide) ?_
    exact q_iret hf hx hb hr rfl hk hw dX2_hasConnector_17 (Nat.le_of_ble_eq_true rfl) (Nat.le_of_ble_eq_true rfl)
  refine lv_iload_n hx hb dX2_hasConnector_4 rfl (lv_at hl 1 rfl) ?_
  refine lv_aload_n hx hb dX2_hasConnector_5 rfl (lv_at hl 0 rfl) ?_
  refine q_get (v := .int (gI σ 2 0 8)) hx hb hK hw hown in_X2 ins_X2 (rfl : vwCl[4]? = some (RX2, TX2, 9)) rfl (Nat.le_of_ble_eq_true rfl : 0 < cnt (gn Γ) 2) 8 (by decide) 164 fl_X2_39 rfl rfl dX2_hasConnector_6 ?_
  refine q_ic_ge (tgt := 16) hx hb hf dX2_hasConnector_9 (by decide) (fun hf => ?_) (fun hf => ?_)
  · refine lv_iconst (v := 0) hx hb dX2_hasConnector_16 (by decide) ?_
    exact q_iret hf hx hb hr rfl hk hw dX2_hasConnector_17 (Nat.le_of_ble_eq_true rfl) (Nat.le_of_ble_eq_true rfl)
  refine lv_iconst (v := 1) hx hb dX2_hasConnector_12 (by decide) ?_
  refine lv_goto (tgt := 17) hx hb dX2_hasConnector_13 (by decide) ?_
  exact q_iret hf hx hb hr rfl hk hw dX2_hasConnector_17 (Nat.le_of_ble_eq_true rfl) (Nat.le_of_ble_eq_true rfl)
set_option maxRecDepth 100000 in
theorem kX2_shapeOfEnd {Γ : Gm} {S : List (String × Nat × String)} {l : Launch} {N : Nat} {σ : St} {x1 : Int32} {x2 : Int32} {r : Int32}  (hf : fX2_shapeOfEnd N σ x1 x2 = some r) : CT Γ S l yX2_shapeOfEnd cX2_shapeOfEnd 3 (some (.int)) 1 22 0 0 [.ref (ga Γ 2 0), .int x1, .int x2] (some (.int r)) σ σ := by
  unfold fX2_shapeOfEnd at hf
  refine ct_body (lv := [(0, .ref (ga Γ 2 0)), (1, .int x1), (2, .int x2)]) (by decide +kernel) rfl (Nat.le_of_ble_eq_true rfl) ?_
  intro p e s m below meth c ls X hr hk hK hw hl
  have hx := X.1
  have hb := X.2.1
  have hown := X.2.2.2
  refine lv_iload_n hx hb dX2_shapeOfEnd_0 rfl (lv_at hl 2 rfl) ?_
  refine q_if_eq (tgt := 11) hx hb hf dX2_shapeOfEnd_1 (by decide) (fun hf => ?_) (fun hf => ?_)
  · refine lv_aload_n hx hb dX2_shapeOfEnd_11 rfl (lv_at hl 0 rfl) ?_
    refine q_get (v := .ref (ga Γ 115 0)) hx hb hK hw hown in_X2 ins_X2 (rfl : vwCl[4]? = some (RX2, TX2, 9)) rfl (Nat.le_of_ble_eq_true rfl : 0 < cnt (gn Γ) 2) 4 (by decide) 159 fl_X2_25 rfl rfl dX2_shapeOfEnd_12 ?_
    refine lv_iload_n hx hb dX2_shapeOfEnd_15 rfl (lv_at hl 1 rfl) ?_
    refine lv_iconst (v := (-1)) hx hb dX2_shapeOfEnd_16 (by decide) ?_
    refine q_pI hf hw (fun v h => q_rSN (As := [.ref (ga Γ 115 0), .int x1, .int ((-1) : Int32)]) (rest := []) X hK hw (kX7_intAt (fun _ _ _ => rfl) (Nat.le_of_ble_eq_true rfl : 0 < cnt (gn Γ) 115) h) msX7_intAt lk_X2_42 ⟨Nat.le_of_ble_eq_true rfl, Nat.le_of_ble_eq_true rfl⟩ rfl hl.1 rfl (Nat.le_of_ble_eq_true rfl) dX2_shapeOfEnd_17 ⟨Nat.le_of_ble_eq_true rfl, Nat.le_of_ble_eq_true rfl⟩) (fun v1 H locs hf hw => ?_)
    exact q_iret hf hx hb hr rfl hk hw dX2_shapeOfEnd_20 (Nat.le_of_ble_eq_true rfl) (Nat.le_of_ble_eq_true rfl)
  refine lv_aload_n hx hb dX2_shapeOfEnd_4 rfl (lv_at hl 0 rfl) ?_
  refine q_get (v := .ref (ga Γ 114 0)) hx hb hK hw hown in_X2 ins_X2 (rfl : vwCl[4]? = some (RX2, TX2, 9)) rfl (Nat.le_of_ble_eq_true rfl : 0 < cnt (gn Γ) 2) 3 (by decide) 158 fl_X2_22 rfl rfl dX2_shapeOfEnd_5 ?_
  refine lv_goto (tgt := 15) hx hb dX2_shapeOfEnd_8 (by decide) ?_
  refine lv_iload_n hx hb dX2_shapeOfEnd_15 rfl (lv_at hl 1 rfl) ?_
  refine lv_iconst (v := (-1)) hx hb dX2_shapeOfEnd_16 (by decide) ?_
  refine q_pI hf hw (fun v h => q_rSN (As := [.ref (ga Γ 114 0), .int x1, .int ((-1) : Int32)]) (rest := []) X hK hw (kX7_intAt (fun _ _ _ => rfl) (Nat.le_of_ble_eq_true rfl : 0 < cnt (gn Γ) 114) h) msX7_intAt lk_X2_42 ⟨Nat.le_of_ble_eq_true rfl, Nat.le_of_ble_eq_true rfl⟩ rfl hl.1 rfl (Nat.le_of_ble_eq_true rfl) dX2_shapeOfEnd_17 ⟨Nat.le_of_ble_eq_true rfl, Nat.le_of_ble_eq_true rfl⟩) (fun v2 H locs hf hw => ?_)
  exact q_iret hf hx hb hr rfl hk hw dX2_shapeOfEnd_20 (Nat.le_of_ble_eq_true rfl) (Nat.le_of_ble_eq_true rfl)
set_option maxRecDepth 100000 in
theorem kX6_isSeenConnector {Γ : Gm} {S : List (String × Nat × String)} {l : Launch} {N : Nat} {σ : St} {o : Nat} {x1 : Int32} {r : Int32} (ho : o < 4) (hf : fX6_isSeenConnector N σ o x1 = some r) : CT Γ S l yX6_isSeenConnector cX6_isSeenConnector 2 (some (.boolean)) 2 44 0 0 [.ref (ga Γ 7 o), .int x1] (some (.int r)) σ σ := by
  unfold fX6_isSeenConnector at hf
  refine ct_body (lv := [(0, .ref (ga Γ 7 o)), (1, .int x1)]) (by decide +kernel) rfl (Nat.le_of_ble_eq_true rfl) ?_
  intro p e s m below meth c ls X hr hk hK hw hl
  have hx := X.1
  have hb := X.2.1
  have hown := X.2.2.2
  refine lv_aload_n hx hb dX6_isSeenConnector_0 rfl (lv_at hl 0 rfl) ?_
  refine q_get (v := .ref (ga Γ 2 0)) hx hb hK hw hown in_X6 ins_X6 (rfl : vwCl[8]? = some (RX6, TX6, 2)) rfl ho 1 (by decide) 220 fl_X6_15 rfl rfl dX6_isSeenConnector_1 ?_
  refine lv_iload_n hx hb dX6_isSeenConnector_4 rfl (lv_at hl 1 rfl) ?_
  refine q_pI hf hw (fun v h => q_rV (As := [.int x1]) (rest := []) (q := (RX2, TX2, 9)) X hK hw rfl (Nat.le_of_ble_eq_true rfl : 0 < cnt (gn Γ) 2) (rfl : vwCl[4]? = _) (kX2_hasConnector h) mvX2_hasConnector lk_X6_80 ⟨Nat.le_of_ble_eq_true rfl, Nat.le_of_ble_eq_true rfl⟩ rfl hl.1 rfl (Nat.le_of_ble_eq_true rfl) dX6_isSeenConnector_5 ⟨Nat.le_of_ble_eq_true rfl, Nat.le_of_ble_eq_true rfl⟩) (fun v1 H locs hf hw => ?_)
  refine q_if_eq (tgt := 63) hx hb hf dX6_isSeenConnector_8 (by decide) (fun hf => ?_) (fun hf => ?_)
  · refine lv_iconst (v := 0) hx hb dX6_isSeenConnector_63 (by decide) ?_
    exact q_iret hf hx hb hr rfl hk hw dX6_isSeenConnector_64 (Nat.le_of_ble_eq_true rfl) (Nat.le_of_ble_eq_true rfl)
  refine lv_aload_n hx hb dX6_isSeenConnector_11 rfl (lv_at hl 0 rfl) ?_
  refine q_get (v := .ref (ga Γ 3 o)) hx hb hK hw hown in_X6 ins_X6 (rfl : vwCl[8]? = some (RX6, TX6, 2)) rfl ho 0 (by decide) 219 fl_X6_9 rfl rfl dX6_isSeenConnector_12 ?_
  refine lv_bipush (v := 48) hx hb dX6_isSeenConnector_15 (by decide) ?_
  refine lv_iload_n hx hb dX6_isSeenConnector_17 rfl (lv_at hl 1 rfl) ?_
  refine lv_iadd hx hb dX6_isSeenConnector_18 ?_
  refine q_pF hf hw (fun v h => q_rV (As := [.int ((48 : Int32) + x1)]) (rest := []) (q := (RX0, TX0, 4)) X hK hw rfl (Nat.lt_of_lt_of_le ho (Nat.le_of_ble_eq_true rfl : 4 ≤ cnt (gn Γ) 3)) (rfl : vwCl[2]? = _) (kX0_valueAt (Nat.lt_of_lt_of_le ho (Nat.le_of_ble_eq_true rfl : 4 ≤ cnt (gn Γ) 3)) h) mvX0_valueAt lk_X6_25 ⟨Nat.le_of_ble_eq_true rfl, Nat.le_of_ble_eq_true rfl⟩ rfl hl.1 rfl (Nat.le_of_ble_eq_true rfl) dX6_isSeenConnector_19 ⟨Nat.le_of_ble_eq_true rfl, Nat.le_of_ble_eq_true rfl⟩) (fun v2 H locs hf hw => ?_)
  refine lv_fconst0 hx hb dX6_isSeenConnector_22 ?_
  refine lv_fcmp hx hb dX6_isSeenConnector_23 ?_
  refine q_if_eq (tgt := 63) hx hb hf dX6_isSeenConnector_24 (by decide) (fun hf => ?_) (fun hf => ?_)
  · refine lv_iconst (v := 0) hx hb dX6_isSeenConnector_63 (by decide) ?_
    exact q_iret hf hx hb hr rfl hk hw dX6_isSeenConnector_64 (Nat.le_of_ble_eq_true rfl) (Nat.le_of_ble_eq_true rfl)
  refine lv_aload_n hx hb dX6_isSeenConnector_27 rfl (lv_at hl 0 rfl) ?_
  refine lv_aload_n hx hb dX6_isSeenConnector_28 rfl (lv_at hl 0 rfl) ?_
  refine q_get (v := .ref (ga Γ 2 0)) hx hb hK hw hown in_X6 ins_X6 (rfl : vwCl[8]? = some (RX6, TX6, 2)) rfl ho 1 (by decide) 220 fl_X6_15 rfl rfl dX6_isSeenConnector_29 ?_
  refine lv_iload_n hx hb dX6_isSeenConnector_32 rfl (lv_at hl 1 rfl) ?_
  refine lv_iconst (v := 1) hx hb dX6_isSeenConnector_33 (by decide) ?_
  refine q_pI hf hw (fun v h => q_rV (As := [.int x1, .int (1 : Int32)]) (rest := [.ref (ga Γ 7 o)]) (q := (RX2, TX2, 9)) X hK hw rfl (Nat.le_of_ble_eq_true rfl : 0 < cnt (gn Γ) 2) (rfl : vwCl[4]? = _) (kX2_shapeOfEnd h) mvX2_shapeOfEnd lk_X6_83 ⟨Nat.le_of_ble_eq_true rfl, Nat.le_of_ble_eq_true rfl⟩ rfl hl.1 rfl (Nat.le_of_ble_eq_true rfl) dX6_isSeenConnector_34 ⟨Nat.le_of_ble_eq_true rfl, Nat.le_of_ble_eq_true rfl⟩) (fun v3 H locs hf hw => ?_)
  refine q_pI hf hw (fun v h => q_rV (As := [.int v3]) (rest := []) (q := (RX6, TX6, 2)) X hK hw rfl ho (rfl : vwCl[8]? = _) (kX6_isSeen ho h) mvX6_isSeen lk_X6_31 ⟨Nat.le_of_ble_eq_true rfl, Nat.le_of_ble_eq_true rfl⟩ rfl hl.1 rfl (Nat.le_of_ble_eq_true rfl) dX6_isSeenConnector_37 ⟨Nat.le_of_ble_eq_true rfl, Nat.le_of_ble_eq_true rfl⟩) (fun v4 H locs hf hw => ?_)
  refine q_if_eq (tgt := 63) hx hb hf dX6_isSeenConnector_40 (by decide) (fun hf => ?_) (fun hf => ?_)
  · refine lv_iconst (v := 0) hx hb dX6_isSeenConnector_63 (by decide) ?_
    exact q_iret hf hx hb hr rfl hk hw dX6_isSeenConnector_64 (Nat.le_of_ble_eq_true rfl) (Nat.le_of_ble_eq_true rfl)
  refine lv_aload_n hx hb dX6_isSeenConnector_43 rfl (lv_at hl 0 rfl) ?_
  refine lv_aload_n hx hb dX6_isSeenConnector_44 rfl (lv_at hl 0 rfl) ?_
  refine q_get (v := .ref (ga Γ 2 0)) hx hb hK hw hown in_X6 ins_X6 (rfl : vwCl[8]? = some (RX6, TX6, 2)) rfl ho 1 (by decide) 220 fl_X6_15 rfl rfl dX6_isSeenConnector_45 ?_
  refine lv_iload_n hx hb dX6_isSeenConnector_48 rfl (lv_at hl 1 rfl) ?_
  refine lv_iconst (v := 0) hx hb dX6_isSeenConnector_49 (by decide) ?_
  refine q_pI hf hw (fun v h => q_rV (As := [.int x1, .int (0 : Int32)]) (rest := [.ref (ga Γ 7 o)]) (q := (RX2, TX2, 9)) X hK hw rfl (Nat.le_of_ble_eq_true rfl : 0 < cnt (gn Γ) 2) (rfl : vwCl[4]? = _) (kX2_shapeOfEnd h) mvX2_shapeOfEnd lk_X6_83 ⟨Nat.le_of_ble_eq_true rfl, Nat.le_of_ble_eq_true rfl⟩ rfl hl.1 rfl (Nat.le_of_ble_eq_true rfl) dX6_isSeenConnector_50 ⟨Nat.le_of_ble_eq_true rfl, Nat.le_of_ble_eq_true rfl⟩) (fun v5 H locs hf hw => ?_)
  refine q_pI hf hw (fun v h => q_rV (As := [.int v5]) (rest := []) (q := (RX6, TX6, 2)) X hK hw rfl ho (rfl : vwCl[8]? = _) (kX6_isSeen ho h) mvX6_isSeen lk_X6_31 ⟨Nat.le_of_ble_eq_true rfl, Nat.le_of_ble_eq_true rfl⟩ rfl hl.1 rfl (Nat.le_of_ble_eq_true rfl) dX6_isSeenConnector_53 ⟨Nat.le_of_ble_eq_true rfl, Nat.le_of_ble_eq_true rfl⟩) (fun v6 H locs hf hw => ?_)
  refine q_if_eq (tgt := 63) hx hb hf dX6_isSeenConnector_56 (by decide) (fun hf => ?_) (fun hf => ?_)
  · refine lv_iconst (v := 0) hx hb dX6_isSeenConnector_63 (by decide) ?_
    exact q_iret hf hx hb hr rfl hk hw dX6_isSeenConnector_64 (Nat.le_of_ble_eq_true rfl) (Nat.le_of_ble_eq_true rfl)
  refine lv_iconst (v := 1) hx hb dX6_isSeenConnector_59 (by decide) ?_
  refine lv_goto (tgt := 64) hx hb dX6_isSeenConnector_60 (by decide) ?_
  exact q_iret hf hx hb hr rfl hk hw dX6_isSeenConnector_64 (Nat.le_of_ble_eq_true rfl) (Nat.le_of_ble_eq_true rfl)
set_option maxRecDepth 100000 in
theorem kX6_countConnectors {Γ : Gm} {S : List (String × Nat × String)} {l : Launch} {N : Nat} {σ : St} {o : Nat} {r : Int32} (ho : o < 4) (hf : fX6_countConnectors N σ o = some r) : CT Γ S l yX6_countConnectors cX6_countConnectors 3 (some (.int)) 3 65 0 0 [.ref (ga Γ 7 o)] (some (.int r)) σ σ := by
  unfold fX6_countConnectors at hf
  refine ct_body (lv := [(0, .ref (ga Γ 7 o))]) (by decide +kernel) rfl (Nat.le_of_ble_eq_true rfl) ?_
  intro p e s m below meth c ls X hr hk hK hw hl
  have hx := X.1
  have hb := X.2.1
  have hown := X.2.2.2
  refine lv_iconst (v := 0) hx hb dX6_countConnectors_0 (by decide) ?_
  refine lv_istore_n (lv' := [(1, .int (0 : Int32)), (0, .ref (ga Γ 7 o))]) hx hb dX6_countConnectors_1 rfl hl (by decide) rfl (fun ls hl => ?_)
  refine lv_iconst (v := 0) hx hb dX6_countConnectors_2 (by decide) ?_
  refine lv_istore_n (lv' := [(2, .int (0 : Int32)), (1, .int (0 : Int32)), (0, .ref (ga Γ 7 o))]) hx hb dX6_countConnectors_3 rfl hl (by decide) rfl (fun ls hl => ?_)
  have L4 : ∀ (K : Int32 → Int32 → Option (Int32)) (hkk : ∀ (y1 : Int32) (y2 : Int32) (H : Heap) (locs : List Loc) (ls : Array Slot), K y1 y2 = some r → Sit Γ σ s H locs → lv_has ls 3 [(1, .int y1)] → W p l e { frames := 3, cells := 0, slots := 0, locals := 65 } s m [.ref (ga Γ 7 o)].toArray below meth c H locs 0 0 (MQ below (Qg Γ (some (.int r)) σ (AA Γ s.heap.size)) [.ref (ga Γ 7 o)].toArray s 0 0 (AA Γ s.heap.size)) (F0 m 27 ls [])) (n : Nat) (v1 : Int32) (v2 : Int32) (H : Heap) (locs : List Loc) (ls : Array Slot), fX6_countConnectors_L4 K N σ o n v1 v2 = some r → Sit Γ σ s H locs → lv_has ls 3 [(0, .ref (ga Γ 7 o)), (1, .int v1), (2, .int v2)] → W p l e { frames := 3, cells := 0, slots := 0, locals := 65 } s m [.ref (ga Γ 7 o)].toArray below meth c H locs 0 0 (MQ below (Qg Γ (some (.int r)) σ (AA Γ s.heap.size)) [.ref (ga Γ 7 o)].toArray s 0 0 (AA Γ s.heap.size)) (F0 m 4 ls []) := by
    intro K hkk n
    induction n with
    | zero =>
      intro _ _ _ _ _ hf
      exact nomatch hf
    | succ n ih =>
      intro v1 v2 H locs ls hf hw hl
      refine lv_iload_n hx hb dX6_countConnectors_4 rfl (lv_at hl 2 rfl) ?_
      refine lv_bipush (v := 8) hx hb dX6_countConnectors_5 (by decide) ?_
      refine q_ic_ge (tgt := 27) hx hb hf dX6_countConnectors_7 (by decide) (fun hf => ?_) (fun hf => ?_)
      · exact hkk _ _ _ _ _ hf hw (lv_sub hl [1] rfl)
      refine lv_aload_n hx hb dX6_countConnectors_10 rfl (lv_at hl 0 rfl) ?_
      refine lv_iload_n hx hb dX6_countConnectors_11 rfl (lv_at hl 2 rfl) ?_
      refine q_pI hf hw (fun v h => q_rV (As := [.int v2]) (rest := []) (q := (RX6, TX6, 2)) X hK hw rfl ho (rfl : vwCl[8]? = _) (kX6_isSeenConnector ho h) mvX6_isSeenConnector lk_X6_87 ⟨Nat.le_of_ble_eq_true rfl, Nat.le_of_ble_eq_true rfl⟩ rfl hl.1 rfl (Nat.le_of_ble_eq_true rfl) dX6_countConnectors_12 ⟨Nat.le_of_ble_eq_true rfl, Nat.le_of_ble_eq_true rfl⟩) (fun v3 H locs hf hw => ?_)
      refine q_if_eq (tgt := 21) hx hb hf dX6_countConnectors_15 (by decide) (fun hf => ?_) (fun hf => ?_)
      · refine q_iinc (lv1 := [(0, .ref (ga Γ 7 o)), (1, .int v1)]) (d := 1) hx hb hf dX6_countConnectors_21 hl (k := 2) rfl (by decide) (by decide) rfl (fun v4 ls hf hl => ?_)
        refine lv_goto (tgt := 4) hx hb dX6_countConnectors_24 (by decide) ?_
        exact ih _ _ _ _ _ hf hw (lv_sub hl [1, 2, 0] rfl)
      refine q_iinc (lv1 := [(0, .ref (ga Γ 7 o)), (2, .int v2)]) (d := 1) hx hb hf dX6_countConnectors_18 hl (k := 1) rfl (by decide) (by decide) rfl (fun v5 ls hf hl => ?_)
      refine q_iinc (lv1 := [(1, .int v5), (0, .ref (ga Γ 7 o))]) (d := 1) hx hb hf dX6_countConnectors_21 hl (k := 2) rfl (by decide) (by decide) rfl (fun v6 ls hf hl => ?_)
      refine lv_goto (tgt := 4) hx hb dX6_countConnectors_24 (by decide) ?_
      exact ih _ _ _ _ _ hf hw (lv_sub hl [2, 1, 0] rfl)
  refine L4 _ (fun v7 _ H locs ls hf hw hl => ?_) N (0 : Int32) (0 : Int32) _ _ _ hf hw (lv_sub hl [2, 1, 0] rfl)
  refine lv_iload_n hx hb dX6_countConnectors_27 rfl (lv_at hl 0 rfl) ?_
  exact q_iret hf hx hb hr rfl hk hw dX6_countConnectors_28 (Nat.le_of_ble_eq_true rfl) (Nat.le_of_ble_eq_true rfl)
set_option maxRecDepth 100000 in
theorem kX7_voteField {Γ : Gm} {S : List (String × Nat × String)} {l : Launch} {N : Nat} {σ : St} {x1 : Int32} {x2 : Int32} {r : Int32}  (hf : fX7_voteField N σ x1 x2 = some r) : CT Γ S l yX7_voteField cX7_voteField 2 (some (.int)) 0 0 0 0 [.int x1, .int x2] (some (.int r)) σ σ := by
  unfold fX7_voteField at hf
  refine ct_body (lv := [(0, .int x1), (1, .int x2)]) (by decide +kernel) rfl (Nat.le_of_ble_eq_true rfl) ?_
  intro p e s m below meth c ls X hr hk hK hw hl
  have hx := X.1
  have hb := X.2.1
  have hown := X.2.2.2
  refine lv_bipush (v := 56) hx hb dX7_voteField_0 (by decide) ?_
  refine lv_iload_n hx hb dX7_voteField_2 rfl (lv_at hl 0 rfl) ?_
  refine lv_bipush (v := 12) hx hb dX7_voteField_3 (by decide) ?_
  refine lv_imul hx hb dX7_voteField_5 ?_
  refine lv_iadd hx hb dX7_voteField_6 ?_
  refine lv_iload_n hx hb dX7_voteField_7 rfl (lv_at hl 1 rfl) ?_
  refine lv_iadd hx hb dX7_voteField_8 ?_
  exact q_iret hf hx hb hr rfl hk hw dX7_voteField_9 (Nat.le_of_ble_eq_true rfl) (Nat.le_of_ble_eq_true rfl)
set_option maxRecDepth 100000 in
theorem kX6_votesBy {Γ : Gm} {S : List (String × Nat × String)} {l : Launch} {N : Nat} {σ : St} {o : Nat} {x1 : Int32} {x2 : Int32} {r : Int32} (ho : o < 4) (hf : fX6_votesBy N σ o x1 x2 = some r) : CT Γ S l yX6_votesBy cX6_votesBy 3 (some (.int)) 1 21 0 0 [.ref (ga Γ 7 o), .int x1, .int x2] (some (.int r)) σ σ := by
  unfold fX6_votesBy at hf
  refine ct_body (lv := [(0, .ref (ga Γ 7 o)), (1, .int x1), (2, .int x2)]) (by decide +kernel) rfl (Nat.le_of_ble_eq_true rfl) ?_
  intro p e s m below meth c ls X hr hk hK hw hl
  have hx := X.1
  have hb := X.2.1
  have hown := X.2.2.2
  refine lv_aload_n hx hb dX6_votesBy_0 rfl (lv_at hl 0 rfl) ?_
  refine q_get (v := .ref (ga Γ 3 o)) hx hb hK hw hown in_X6 ins_X6 (rfl : vwCl[8]? = some (RX6, TX6, 2)) rfl ho 0 (by decide) 219 fl_X6_9 rfl rfl dX6_votesBy_1 ?_
  refine lv_iload_n hx hb dX6_votesBy_4 rfl (lv_at hl 1 rfl) ?_
  refine lv_iload_n hx hb dX6_votesBy_5 rfl (lv_at hl 2 rfl) ?_
  refine q_pI hf hw (fun v h => q_rSN (As := [.int x1, .int x2]) (rest := [.ref (ga Γ 3 o)]) X hK hw (kX7_voteField h) msX7_voteField lk_X6_98 ⟨Nat.le_of_ble_eq_true rfl, Nat.le_of_ble_eq_true rfl⟩ rfl hl.1 rfl (Nat.le_of_ble_eq_true rfl) dX6_votesBy_6 ⟨Nat.le_of_ble_eq_true rfl, Nat.le_of_ble_eq_true rfl⟩) (fun v1 H locs hf hw => ?_)
  refine q_pF hf hw (fun v h => q_rV (As := [.int v1]) (rest := []) (q := (RX0, TX0, 4)) X hK hw rfl (Nat.lt_of_lt_of_le ho (Nat.le_of_ble_eq_true rfl : 4 ≤ cnt (gn Γ) 3)) (rfl : vwCl[2]? = _) (kX0_valueAt (Nat.lt_of_lt_of_le ho (Nat.le_of_ble_eq_true rfl : 4 ≤ cnt (gn Γ) 3)) h) mvX0_valueAt lk_X6_25 ⟨Nat.le_of_ble_eq_true rfl, Nat.le_of_ble_eq_true rfl⟩ rfl hl.1 rfl (Nat.le_of_ble_eq_true rfl) dX6_votesBy_9 ⟨Nat.le_of_ble_eq_true rfl, Nat.le_of_ble_eq_true rfl⟩) (fun v2 H locs hf hw => ?_)
  refine lv_f2i hx hb dX6_votesBy_12 ?_
  exact q_iret hf hx hb hr rfl hk hw dX6_votesBy_13 (Nat.le_of_ble_eq_true rfl) (Nat.le_of_ble_eq_true rfl)
set_option maxRecDepth 100000 in
theorem kX6_areVotesShown {Γ : Gm} {S : List (String × Nat × String)} {l : Launch} {N : Nat} {σ : St} {o : Nat} {r : Int32} (ho : o < 4) (hf : fX6_areVotesShown N σ o = some r) : CT Γ S l yX6_areVotesShown cX6_areVotesShown 1 (some (.boolean)) 1 21 0 0 [.ref (ga Γ 7 o)] (some (.int r)) σ σ := by
  unfold fX6_areVotesShown at hf
  refine ct_body (lv := [(0, .ref (ga Γ 7 o))]) (by decide +kernel) rfl (Nat.le_of_ble_eq_true rfl) ?_
  intro p e s m below meth c ls X hr hk hK hw hl
  have hx := X.1
  have hb := X.2.1
  have hown := X.2.2.2
  refine lv_aload_n hx hb dX6_areVotesShown_0 rfl (lv_at hl 0 rfl) ?_
  refine q_get (v := .ref (ga Γ 3 o)) hx hb hK hw hown in_X6 ins_X6 (rfl : vwCl[8]? = some (RX6, TX6, 2)) rfl ho 0 (by decide) 219 fl_X6_9 rfl rfl dX6_areVotesShown_1 ?_
  refine lv_bipush (v := 92) hx hb dX6_areVotesShown_4 (by decide) ?_
  refine q_pF hf hw (fun v h => q_rV (As := [.int (92 : Int32)]) (rest := []) (q := (RX0, TX0, 4)) X hK hw rfl (Nat.lt_of_lt_of_le ho (Nat.le_of_ble_eq_true rfl : 4 ≤ cnt (gn Γ) 3)) (rfl : vwCl[2]? = _) (kX0_valueAt (Nat.lt_of_lt_of_le ho (Nat.le_of_ble_eq_true rfl : 4 ≤ cnt (gn Γ) 3)) h) mvX0_valueAt lk_X6_25 ⟨Nat.le_of_ble_eq_true rfl, Nat.le_of_ble_eq_true rfl⟩ rfl hl.1 rfl (Nat.le_of_ble_eq_true rfl) dX6_areVotesShown_6 ⟨Nat.le_of_ble_eq_true rfl, Nat.le_of_ble_eq_true rfl⟩) (fun v1 H locs hf hw => ?_)
  refine lv_fconst0 hx hb dX6_areVotesShown_9 ?_
  refine lv_fcmp hx hb dX6_areVotesShown_10 ?_
  refine q_if_eq (tgt := 18) hx hb hf dX6_areVotesShown_11 (by decide) (fun hf => ?_) (fun hf => ?_)
  · refine lv_iconst (v := 0) hx hb dX6_areVotesShown_18 (by decide) ?_
    exact q_iret hf hx hb hr rfl hk hw dX6_areVotesShown_19 (Nat.le_of_ble_eq_true rfl) (Nat.le_of_ble_eq_true rfl)
  refine lv_iconst (v := 1) hx hb dX6_areVotesShown_14 (by decide) ?_
  refine lv_goto (tgt := 19) hx hb dX6_areVotesShown_15 (by decide) ?_
  exact q_iret hf hx hb hr rfl hk hw dX6_areVotesShown_19 (Nat.le_of_ble_eq_true rfl) (Nat.le_of_ble_eq_true rfl)
set_option maxRecDepth 100000 in
theorem kX6_allVotesBy {Γ : Gm} {S : List (String × Nat × String)} {l : Launch} {N : Nat} {σ : St} {o : Nat} {x1 : Int32} {r : Int32} (ho : o < 4) (hf : fX6_allVotesBy N σ o x1 = some r) : CT Γ S l yX6_allVotesBy cX6_allVotesBy 4 (some (.int)) 2 43 0 0 [.ref (ga Γ 7 o), .int x1] (some (.int r)) σ σ := by
  unfold fX6_allVotesBy at hf
  refine ct_body (lv := [(0, .ref (ga Γ 7 o)), (1, .int x1)]) (by decide +kernel) rfl (Nat.le_of_ble_eq_true rfl) ?_
  intro p e s m below meth c ls X hr hk hK hw hl
  have hx := X.1
  have hb := X.2.1
  have hown := X.2.2.2
  refine lv_iconst (v := 0) hx hb dX6_allVotesBy_0 (by decide) ?_
  refine lv_istore_n (lv' := [(2, .int (0 : Int32)), (0, .ref (ga Γ 7 o)), (1, .int x1)]) hx hb dX6_allVotesBy_1 rfl hl (by decide) rfl (fun ls hl => ?_)
  refine lv_iconst (v := 0) hx hb dX6_allVotesBy_2 (by decide) ?_
  refine lv_istore_n (lv' := [(3, .int (0 : Int32)), (2, .int (0 : Int32)), (0, .ref (ga Γ 7 o)), (1, .int x1)]) hx hb dX6_allVotesBy_3 rfl hl (by decide) rfl (fun ls hl => ?_)
  have L4 : ∀ (K : Int32 → Int32 → Option (Int32)) (hkk : ∀ (y2 : Int32) (y3 : Int32) (H : Heap) (locs : List Loc) (ls : Array Slot), K y2 y3 = some r → Sit Γ σ s H locs → lv_has ls 4 [(2, .int y2)] → W p l e { frames := 2, cells := 0, slots := 0, locals := 43 } s m [.ref (ga Γ 7 o), .int x1].toArray below meth c H locs 0 0 (MQ below (Qg Γ (some (.int r)) σ (AA Γ s.heap.size)) [.ref (ga Γ 7 o), .int x1].toArray s 0 0 (AA Γ s.heap.size)) (F0 m 25 ls [])) (n : Nat) (v1 : Int32) (v2 : Int32) (H : Heap) (locs : List Loc) (ls : Array Slot), fX6_allVotesBy_L4 K N σ o x1 n v1 v2 = some r → Sit Γ σ s H locs → lv_has ls 4 [(0, .ref (ga Γ 7 o)), (1, .int x1), (2, .int v1), (3, .int v2)] → W p l e { frames := 2, cells := 0, slots := 0, locals := 43 } s m [.ref (ga Γ 7 o), .int x1].toArray below meth c H locs 0 0 (MQ below (Qg Γ (some (.int r)) σ (AA Γ s.heap.size)) [.ref (ga Γ 7 o), .int x1].toArray s 0 0 (AA Γ s.heap.size)) (F0 m 4 ls []) := by
    intro K hkk n
    induction n with
    | zero =>
      intro _ _ _ _ _ hf
      exact nomatch hf
    | succ n ih =>
      intro v1 v2 H locs ls hf hw hl
      refine lv_iload_n hx hb dX6_allVotesBy_4 rfl (lv_at hl 3 rfl) ?_
      refine lv_bipush (v := 12) hx hb dX6_allVotesBy_5 (by decide) ?_
      refine q_ic_ge (tgt := 25) hx hb hf dX6_allVotesBy_7 (by decide) (fun hf => ?_) (fun hf => ?_)
      · exact hkk _ _ _ _ _ hf hw (lv_sub hl [2] rfl)
      refine lv_iload_n hx hb dX6_allVotesBy_10 rfl (lv_at hl 2 rfl) ?_
      refine lv_aload_n hx hb dX6_allVotesBy_11 rfl (lv_at hl 0 rfl) ?_
      refine lv_iload_n hx hb dX6_allVotesBy_12 rfl (lv_at hl 1 rfl) ?_
      refine lv_iload_n hx hb dX6_allVotesBy_13 rfl (lv_at hl 3 rfl) ?_
      refine q_pI hf hw (fun v h => q_rV (As := [.int x1, .int v2]) (rest := [.int v1]) (q := (RX6, TX6, 2)) X hK hw rfl ho (rfl : vwCl[8]? = _) (kX6_votesBy ho h) mvX6_votesBy lk_X6_101 ⟨Nat.le_of_ble_eq_true rfl, Nat.le_of_ble_eq_true rfl⟩ rfl hl.1 rfl (Nat.le_of_ble_eq_true rfl) dX6_allVotesBy_14 ⟨Nat.le_of_ble_eq_true rfl, Nat.le_of_ble_eq_true rfl⟩) (fun v3 H locs hf hw => ?_)
      refine lv_iadd hx hb dX6_allVotesBy_17 ?_
      refine q_istore_n (lv1 := [(0, .ref (ga Γ 7 o)), (1, .int x1), (3, .int v2)]) hx hb hf dX6_allVotesBy_18 rfl hl (by decide) rfl (fun v4 ls hf hl => ?_)
      refine q_iinc (lv1 := [(2, .int v4), (0, .ref (ga Γ 7 o)), (1, .int x1)]) (d := 1) hx hb hf dX6_allVotesBy_19 hl (k := 3) rfl (by decide) (by decide) rfl (fun v5 ls hf hl => ?_)
      refine lv_goto (tgt := 4) hx hb dX6_allVotesBy_22 (by decide) ?_
      exact ih _ _ _ _ _ hf hw (lv_sub hl [2, 3, 1, 0] rfl)
  refine L4 _ (fun v6 _ H locs ls hf hw hl => ?_) N (0 : Int32) (0 : Int32) _ _ _ hf hw (lv_sub hl [2, 3, 1, 0] rfl)
  refine lv_iload_n hx hb dX6_allVotesBy_25 rfl (lv_at hl 0 rfl) ?_
  exact q_iret hf hx hb hr rfl hk hw dX6_allVotesBy_26 (Nat.le_of_ble_eq_true rfl) (Nat.le_of_ble_eq_true rfl)
set_option maxRecDepth 100000 in
theorem kX1_userAt {Γ : Gm} {S : List (String × Nat × String)} {l : Launch} {N : Nat} {σ : St} {x1 : Int32} {r : Int32}  (hf : fX1_userAt N σ x1 = some r) : CT Γ S l yX1_userAt cX1_userAt 2 (some (.int)) 1 22 0 0 [.ref (ga Γ 1 0), .int x1] (some (.int r)) σ σ := by
  unfold fX1_userAt at hf
  refine ct_body (lv := [(0, .ref (ga Γ 1 0)), (1, .int x1)]) (by decide +kernel) rfl (Nat.le_of_ble_eq_true rfl) ?_
  intro p e s m below meth c ls X hr hk hK hw hl
  have hx := X.1
  have hb := X.2.1
  have hown := X.2.2.2
  refine lv_aload_n hx hb dX1_userAt_0 rfl (lv_at hl 0 rfl) ?_
  refine q_get (v := .ref (ga Γ 100 0)) hx hb hK hw hown in_X1 ins_X1 (rfl : vwCl[3]? = some (RX1, TX1, 13)) rfl (Nat.le_of_ble_eq_true rfl : 0 < cnt (gn Γ) 1) 0 (by decide) 98 fl_X1_9 rfl rfl dX1_userAt_1 ?_
  refine lv_iload_n hx hb dX1_userAt_4 rfl (lv_at hl 1 rfl) ?_
  refine lv_iconst (v := (-1)) hx hb dX1_userAt_5 (by decide) ?_
  refine q_pI hf hw (fun v h => q_rSN (As := [.ref (ga Γ 100 0), .int x1, .int ((-1) : Int32)]) (rest := []) X hK hw (kX7_intAt (fun _ _ _ => rfl) (Nat.le_of_ble_eq_true rfl : 0 < cnt (gn Γ) 100) h) msX7_intAt lk_X1_70 ⟨Nat.le_of_ble_eq_true rfl, Nat.le_of_ble_eq_true rfl⟩ rfl hl.1 rfl (Nat.le_of_ble_eq_true rfl) dX1_userAt_6 ⟨Nat.le_of_ble_eq_true rfl, Nat.le_of_ble_eq_true rfl⟩) (fun v1 H locs hf hw => ?_)
  exact q_iret hf hx hb hr rfl hk hw dX1_userAt_9 (Nat.le_of_ble_eq_true rfl) (Nat.le_of_ble_eq_true rfl)
set_option maxRecDepth 100000 in
theorem kX1_lastOpenStepOf {Γ : Gm} {S : List (String × Nat × String)} {l : Launch} {N : Nat} {σ : St} {x1 : Int32} {r : Int32}  (hf : fX1_lastOpenStepOf N σ x1 = some r) : CT Γ S l yX1_lastOpenStepOf cX1_lastOpenStepOf 3 (some (.int)) 2 43 0 0 [.ref (ga Γ 1 0), .int x1] (some (.int r)) σ σ := by
  unfold fX1_lastOpenStepOf at hf
  refine ct_body (lv := [(0, .ref (ga Γ 1 0)), (1, .int x1)]) (by decide +kernel) rfl (Nat.le_of_ble_eq_true rfl) ?_
  intro p e s m below meth c ls X hr hk hK hw hl
  have hx := X.1
  have hb := X.2.1
  have hown := X.2.2.2
  refine lv_aload_n hx hb dX1_lastOpenStepOf_0 rfl (lv_at hl 0 rfl) ?_
  refine q_get (v := .int (gI σ 1 0 11)) hx hb hK hw hown in_X1 ins_X1 (rfl : vwCl[3]? = some (RX1, TX1, 13)) rfl (Nat.le_of_ble_eq_true rfl : 0 < cnt (gn Γ) 1) 11 (by decide) 115 fl_X1_47 rfl rfl dX1_lastOpenStepOf_1 ?_
  refine lv_iconst (v := 1) hx hb dX1_lastOpenStepOf_4 (by decide) ?_
  refine lv_isub hx hb dX1_lastOpenStepOf_5 ?_
  refine q_istore_n (lv1 := [(0, .ref (ga Γ 1 0)), (1, .int x1)]) hx hb hf dX1_lastOpenStepOf_6 rfl hl (by decide) rfl (fun v1 ls hf hl => ?_)
  have L7 : ∀ (K : Int32 → Option (Int32)) (hkk : ∀ (y2 : Int32) (H : Heap) (locs : List Loc) (ls : Array Slot), K y2 = some r → Sit Γ σ s H locs → lv_has ls 3 [] → W p l e { frames := 2, cells := 0, slots := 0, locals := 43 } s m [.ref (ga Γ 1 0), .int x1].toArray below meth c H locs 0 0 (MQ below (Qg Γ (some (.int r)) σ (AA Γ s.heap.size)) [.ref (ga Γ 1 0), .int x1].toArray s 0 0 (AA Γ s.heap.size)) (F0 m 39 ls [])) (n : Nat) (v2 : Int32) (H : Heap) (locs : List Loc) (ls : Array Slot), fX1_lastOpenStepOf_L7 K N σ x1 n v2 = some r → Sit Γ σ s H locs → lv_has ls 3 [(0, .ref (ga Γ 1 0)), (1, .int x1), (2, .int v2)] → W p l e { frames := 2, cells := 0, slots := 0, locals := 43 } s m [.ref (ga Γ 1 0), .int x1].toArray below meth c H locs 0 0 (MQ below (Qg Γ (some (.int r)) σ (AA Γ s.heap.size)) [.ref (ga Γ 1 0), .int x1].toArray s 0 0 (AA Γ s.heap.size)) (F0 m 7 ls []) := by
    intro K hkk n
    induction n with
    | zero =>
      intro _ _ _ _ hf
      exact nomatch hf
    | succ n ih =>
      intro v2 H locs ls hf hw hl
      refine lv_iload_n hx hb dX1_lastOpenStepOf_7 rfl (lv_at hl 2 rfl) ?_
      refine q_if_lt (tgt := 39) hx hb hf dX1_lastOpenStepOf_8 (by decide) (fun hf => ?_) (fun hf => ?_)
      · exact hkk _ _ _ _ hf hw (lv_sub hl [] rfl)
      refine lv_aload_n hx hb dX1_lastOpenStepOf_11 rfl (lv_at hl 0 rfl) ?_
      refine q_get (v := .ref (ga Γ 102 0)) hx hb hK hw hown in_X1 ins_X1 (rfl : vwCl[3]? = some (RX1, TX1, 13)) rfl (Nat.le_of_ble_eq_true rfl : 0 < cnt (gn Γ) 1) 2 (by decide) 100 fl_X1_18 rfl rfl dX1_lastOpenStepOf_12 ?_
      refine lv_iload_n hx hb dX1_lastOpenStepOf_15 rfl (lv_at hl 2 rfl) ?_
      refine q_pI hf hw (fun v h => q_rSN (As := [.ref (ga Γ 102 0), .int v2]) (rest := []) X hK hw (kX7_isAt (fun _ _ _ => rfl) (Nat.le_of_ble_eq_true rfl : 0 < cnt (gn Γ) 102) h) msX7_isAt lk_X1_62 ⟨Nat.le_of_ble_eq_true rfl, Nat.le_of_ble_eq_true rfl⟩ rfl hl.1 rfl (Nat.le_of_ble_eq_true rfl) dX1_lastOpenStepOf_16 ⟨Nat.le_of_ble_eq_true rfl, Nat.le_of_ble_eq_true rfl⟩) (fun v3 H locs hf hw => ?_)
      refine q_if_eq (tgt := 33) hx hb hf dX1_lastOpenStepOf_19 (by decide) (fun hf => ?_) (fun hf => ?_)
      · refine q_iinc (lv1 := [(0, .ref (ga Γ 1 0)), (1, .int x1)]) (d := (-1)) hx hb hf dX1_lastOpenStepOf_33 hl (k := 2) rfl (by decide) (by decide) rfl (fun v4 ls hf hl => ?_)
        refine lv_goto (tgt := 7) hx hb dX1_lastOpenStepOf_36 (by decide) ?_
        exact ih _ _ _ _ hf hw (lv_sub hl [1, 2, 0] rfl)
      refine lv_aload_n hx hb dX1_lastOpenStepOf_22 rfl (lv_at hl 0 rfl) ?_
      refine lv_iload_n hx hb dX1_lastOpenStepOf_23 rfl (lv_at hl 2 rfl) ?_
      refine q_pI hf hw (fun v h => q_rV (As := [.int v2]) (rest := []) (q := (RX1, TX1, 13)) X hK hw rfl (Nat.le_of_ble_eq_true rfl : 0 < cnt (gn Γ) 1) (rfl : vwCl[3]? = _) (kX1_userAt h) mvX1_userAt lk_X1_66 ⟨Nat.le_of_ble_eq_true rfl, Nat.le_of_ble_eq_true rfl⟩ rfl hl.1 rfl (Nat.le_of_ble_eq_true rfl) dX1_lastOpenStepOf_24 ⟨Nat.le_of_ble_eq_true rfl, Nat.le_of_ble_eq_true rfl⟩) (fun v5 H locs hf hw => ?_)
      refine lv_iload_n hx hb dX1_lastOpenStepOf_27 rfl (lv_at hl 1 rfl) ?_
      refine q_ic_ne (tgt := 33) hx hb hf dX1_lastOpenStepOf_28 (by decide) (fun hf => ?_) (fun hf => ?_)
      · refine q_iinc (lv1 := [(0, .ref (ga Γ 1 0)), (1, .int x1)]) (d := (-1)) hx hb hf dX1_lastOpenStepOf_33 hl (k := 2) rfl (by decide) (by decide) rfl (fun v6 ls hf hl => ?_)
        refine lv_goto (tgt := 7) hx hb dX1_lastOpenStepOf_36 (by decide) ?_
        exact ih _ _ _ _ hf hw (lv_sub hl [1, 2, 0] rfl)
      refine lv_iload_n hx hb dX1_lastOpenStepOf_31 rfl (lv_at hl 2 rfl) ?_
      exact q_iret hf hx hb hr rfl hk hw dX1_lastOpenStepOf_32 (Nat.le_of_ble_eq_true rfl) (Nat.le_of_ble_eq_true rfl)
  refine L7 _ (fun _ H locs ls hf hw hl => ?_) N v1 _ _ _ hf hw (lv_sub hl [1, 2, 0] rfl)
  refine lv_iconst (v := (-1)) hx hb dX1_lastOpenStepOf_39 (by decide) ?_
  exact q_iret hf hx hb hr rfl hk hw dX1_lastOpenStepOf_40 (Nat.le_of_ble_eq_true rfl) (Nat.le_of_ble_eq_true rfl)
set_option maxRecDepth 100000 in
theorem kX1_close {Γ : Gm} {S : List (String × Nat × String)} {l : Launch} {N : Nat} {σ τ : St} {x1 : Int32}  (hf : fX1_close N σ x1 = some τ) : CT Γ S l yX1_close cX1_close 2 none 0 0 0 0 [.ref (ga Γ 1 0), .int x1] none σ τ := by
  unfold fX1_close at hf
  refine ct_body (lv := [(0, .ref (ga Γ 1 0)), (1, .int x1)]) (by decide +kernel) rfl (Nat.le_of_ble_eq_true rfl) ?_
  intro p e s m below meth c ls X hr hk hK hw hl
  have hx := X.1
  have hb := X.2.1
  have hown := X.2.2.2
  refine lv_iload_n hx hb dX1_close_0 rfl (lv_at hl 1 rfl) ?_
  refine q_if_lt (tgt := 18) hx hb hf dX1_close_1 (by decide) (fun hf => ?_) (fun hf => ?_)
  · exact q_vret hx hb hr hk hw dX1_close_18 hf (Nat.le_of_ble_eq_true rfl) (Nat.le_of_ble_eq_true rfl)
  refine lv_iload_n hx hb dX1_close_4 rfl (lv_at hl 1 rfl) ?_
  refine lv_sipush (v := 250) hx hb dX1_close_5 (by decide) ?_
  refine q_ic_ge (tgt := 18) hx hb hf dX1_close_8 (by decide) (fun hf => ?_) (fun hf => ?_)
  · exact q_vret hx hb hr hk hw dX1_close_18 hf (Nat.le_of_ble_eq_true rfl) (Nat.le_of_ble_eq_true rfl)
  refine lv_aload_n hx hb dX1_close_11 rfl (lv_at hl 0 rfl) ?_
  refine q_get (v := .ref (ga Γ 102 0)) hx hb hK hw hown in_X1 ins_X1 (rfl : vwCl[3]? = some (RX1, TX1, 13)) rfl (Nat.le_of_ble_eq_true rfl : 0 < cnt (gn Γ) 1) 2 (by decide) 100 fl_X1_18 rfl rfl dX1_close_12 ?_
  refine lv_iload_n hx hb dX1_close_15 rfl (lv_at hl 1 rfl) ?_
  refine lv_iconst (v := 0) hx hb dX1_close_16 (by decide) ?_
  refine q_zast hx hb hK hw (k := 102) (o := 0) (fun _ _ _ => rfl) (Nat.le_of_ble_eq_true rfl : 0 < cnt (gn Γ) 102) hf dX1_close_17 (fun σ1 H locs hf hw => ?_)
  exact q_vret hx hb hr hk hw dX1_close_18 hf (Nat.le_of_ble_eq_true rfl) (Nat.le_of_ble_eq_true rfl)
set_option maxRecDepth 100000 in
theorem kX5_undo {Γ : Gm} {S : List (String × Nat × String)} {l : Launch} {N : Nat} {σ τ : St} {o : Nat} {x1 : Int32} {r : Int32} (ho : o < 3) (hf : fX5_undo N σ o x1 = some (r, τ)) : CT Γ S l yX5_undo cX5_undo 6 (some (.int)) 4 101 0 0 [.ref (ga Γ 4 o), .int x1] (some (.int r)) σ τ := by
  unfold fX5_undo at hf
  refine ct_body (lv := [(0, .ref (ga Γ 4 o)), (1, .int x1)]) (by decide +kernel) rfl (Nat.le_of_ble_eq_true rfl) ?_
  intro p e s m below meth c ls X hr hk hK hw hl
  have hx := X.1
  have hb := X.2.1
  have hown := X.2.2.2
  refine lv_iconst (v := 0) hx hb dX5_undo_0 (by decide) ?_
  refine lv_istore_n (lv' := [(2, .int (0 : Int32)), (0, .ref (ga Γ 4 o)), (1, .int x1)]) hx hb dX5_undo_1 rfl hl (by decide) rfl (fun ls hl => ?_)
  refine lv_aload_n hx hb dX5_undo_2 rfl (lv_at hl 1 rfl) ?_
  refine q_get (v := .ref (ga Γ 1 0)) hx hb hK hw hown in_X5 ins_X5 (rfl : vwCl[7]? = some (RX5, TX5, 8)) rfl ho 1 (by decide) 297 fl_X5_22 rfl rfl dX5_undo_3 ?_
  refine lv_iload_n hx hb dX5_undo_6 rfl (lv_at hl 2 rfl) ?_
  refine q_eV hf hw (fun τ h => q_rV (As := [.int x1]) (rest := []) (q := (RX1, TX1, 13)) X hK hw rfl (Nat.le_of_ble_eq_true rfl : 0 < cnt (gn Γ) 1) (rfl : vwCl[3]? = _) (kX1_close h) mvX1_close lk_X5_103 ⟨Nat.le_of_ble_eq_true rfl, Nat.le_of_ble_eq_true rfl⟩ rfl hl.1 rfl (Nat.le_of_ble_eq_true rfl) dX5_undo_7 ⟨Nat.le_of_ble_eq_true rfl, Nat.le_of_ble_eq_true rfl⟩) (fun σ1 H locs hf hw => ?_)
  refine lv_aload_n hx hb dX5_undo_10 rfl (lv_at hl 1 rfl) ?_
  refine lv_iconst (v := 0) hx hb dX5_undo_11 (by decide) ?_
  refine q_eV hf hw (fun τ h => q_rV (As := [.int (0 : Int32)]) (rest := []) (q := (RX5, TX5, 8)) X hK hw rfl ho (rfl : vwCl[7]? = _) (kX5_begin ho h) mvX5_begin lk_X5_92 ⟨Nat.le_of_ble_eq_true rfl, Nat.le_of_ble_eq_true rfl⟩ rfl hl.1 rfl (Nat.le_of_ble_eq_true rfl) dX5_undo_12 ⟨Nat.le_of_ble_eq_true rfl, Nat.le_of_ble_eq_true rfl⟩) (fun σ2 H locs hf hw => ?_)
  refine lv_aload_n hx hb dX5_undo_15 rfl (lv_at hl 1 rfl) ?_
  refine q_get (v := .ref (ga Γ 1 0)) hx hb hK hw hown in_X5 ins_X5 (rfl : vwCl[7]? = some (RX5, TX5, 8)) rfl ho 1 (by decide) 297 fl_X5_22 rfl rfl dX5_undo_16 ?_
  refine lv_iload_n hx hb dX5_undo_19 rfl (lv_at hl 2 rfl) ?_
  refine q_pI hf hw (fun v h => q_rV (As := [.int x1]) (rest := []) (q := (RX1, TX1, 13)) X hK hw rfl (Nat.le_of_ble_eq_true rfl : 0 < cnt (gn Γ) 1) (rfl : vwCl[3]? = _) (kX1_endRowOf h) mvX1_endRowOf lk_X5_106 ⟨Nat.le_of_ble_eq_true rfl, Nat.le_of_ble_eq_true rfl⟩ rfl hl.1 rfl (Nat.le_of_ble_eq_true rfl) dX5_undo_20 ⟨Nat.le_of_ble_eq_true rfl, Nat.le_of_ble_eq_true rfl⟩) (fun v3 H locs hf hw => ?_)
  refine lv_istore_n (lv' := [(3, .int v3), (2, .int (0 : Int32)), (0, .ref (ga Γ 4 o)), (1, .int x1)]) hx hb dX5_undo_23 rfl hl (by decide) rfl (fun ls hl => ?_)
  refine lv_aload_n hx hb dX5_undo_24 rfl (lv_at hl 2 rfl) ?_
  refine q_get (v := .ref (ga Γ 1 0)) hx hb hK hw hown in_X5 ins_X5 (rfl : vwCl[7]? = some (RX5, TX5, 8)) rfl ho 1 (by decide) 297 fl_X5_22 rfl rfl dX5_undo_25 ?_
  refine lv_iload_n hx hb dX5_undo_28 rfl (lv_at hl 3 rfl) ?_
  refine q_pI hf hw (fun v h => q_rV (As := [.int x1]) (rest := []) (q := (RX1, TX1, 13)) X hK hw rfl (Nat.le_of_ble_eq_true rfl : 0 < cnt (gn Γ) 1) (rfl : vwCl[3]? = _) (kX1_firstRowOf h) mvX1_firstRowOf lk_X5_109 ⟨Nat.le_of_ble_eq_true rfl, Nat.le_of_ble_eq_true rfl⟩ rfl hl.1 rfl (Nat.le_of_ble_eq_true rfl) dX5_undo_29 ⟨Nat.le_of_ble_eq_true rfl, Nat.le_of_ble_eq_true rfl⟩) (fun v4 H locs hf hw => ?_)
  refine lv_istore (lv' := [(4, .int v4), (3, .int v3), (2, .int (0 : Int32)), (0, .ref (ga Γ 4 o)), (1, .int x1)]) hx hb dX5_undo_32 hl (by decide) rfl (fun ls hl => ?_)
  have L34 : ∀ (K : Int32 → Int32 → St → Option ((Int32 × St))) (hkk : ∀ (y2 : Int32) (y4 : Int32) (σq : St) (H : Heap) (locs : List Loc) (ls : Array Slot), K y2 y4 σq = some (r, τ) → Sit Γ σq s H locs → lv_has ls 6 [(0, .ref (ga Γ 4 o)), (2, .int y2)] → W p l e { frames := 4, cells := 0, slots := 0, locals := 101 } s m [.ref (ga Γ 4 o), .int x1].toArray below meth c H locs 0 0 (MQ below (Qg Γ (some (.int r)) τ (AA Γ s.heap.size)) [.ref (ga Γ 4 o), .int x1].toArray s 0 0 (AA Γ s.heap.size)) (F0 m 111 ls [])) (n : Nat) (v5 : Int32) (v6 : Int32) (σ7 : St) (H : Heap) (locs : List Loc) (ls : Array Slot), fX5_undo_L34 K N o x1 v3 n v5 v6 σ7 = some (r, τ) → Sit Γ σ7 s H locs → lv_has ls 6 [(0, .ref (ga Γ 4 o)), (1, .int x1), (2, .int v5), (3, .int v3), (4, .int v6)] → W p l e { frames := 4, cells := 0, slots := 0, locals := 101 } s m [.ref (ga Γ 4 o), .int x1].toArray below meth c H locs 0 0 (MQ below (Qg Γ (some (.int r)) τ (AA Γ s.heap.size)) [.ref (ga Γ 4 o), .int x1].toArray s 0 0 (AA Γ s.heap.size)) (F0 m 34 ls []) := by
    intro K hkk n
    induction n with
    | zero =>
      intro _ _ _ _ _ _ hf
      exact nomatch hf
    | succ n ih =>
      intro v5 v6 σ7 H locs ls hf hw hl
      refine lv_iload hx hb dX5_undo_34 (lv_at hl 4 rfl) ?_
      refine lv_iload_n hx hb dX5_undo_36 rfl (lv_at hl 3 rfl) ?_
      refine q_ic_ge (tgt := 111) hx hb hf dX5_undo_37 (by decide) (fun hf => ?_) (fun hf => ?_)
      · exact hkk _ _ _ _ _ _ hf hw (lv_sub hl [0, 2] rfl)
      refine lv_aload_n hx hb dX5_undo_40 rfl (lv_at hl 0 rfl) ?_
      refine q_get (v := .ref (ga Γ 1 0)) hx hb hK hw hown in_X5 ins_X5 (rfl : vwCl[7]? = some (RX5, TX5, 8)) rfl ho 1 (by decide) 297 fl_X5_22 rfl rfl dX5_undo_41 ?_
      refine q_get (v := .ref (ga Γ 106 0)) hx hb hK hw hown in_X1 ins_X1 (rfl : vwCl[3]? = some (RX1, TX1, 13)) rfl (Nat.le_of_ble_eq_true rfl : 0 < cnt (gn Γ) 1) 6 (by decide) 106 fl_X5_112 rfl rfl dX5_undo_44 ?_
      refine lv_iload hx hb dX5_undo_47 (lv_at hl 4 rfl) ?_
      refine lv_iconst (v := (-1)) hx hb dX5_undo_49 (by decide) ?_
      refine q_pI hf hw (fun v h => q_rSN (As := [.ref (ga Γ 106 0), .int v6, .int ((-1) : Int32)]) (rest := []) X hK hw (kX7_intAt (fun _ _ _ => rfl) (Nat.le_of_ble_eq_true rfl : 0 < cnt (gn Γ) 106) h) msX7_intAt lk_X5_116 ⟨Nat.le_of_ble_eq_true rfl, Nat.le_of_ble_eq_true rfl⟩ rfl hl.1 rfl (Nat.le_of_ble_eq_true rfl) dX5_undo_50 ⟨Nat.le_of_ble_eq_true rfl, Nat.le_of_ble_eq_true rfl⟩) (fun v8 H locs hf hw => ?_)
      refine lv_istore (lv' := [(5, .int v8), (0, .ref (ga Γ 4 o)), (1, .int x1), (2, .int v5), (3, .int v3), (4, .int v6)]) hx hb dX5_undo_53 hl (by decide) rfl (fun ls hl => ?_)
      refine lv_aload_n hx hb dX5_undo_55 rfl (lv_at hl 1 rfl) ?_
      refine q_get (v := .ref (ga Γ 3 o)) hx hb hK hw hown in_X5 ins_X5 (rfl : vwCl[7]? = some (RX5, TX5, 8)) rfl ho 2 (by decide) 298 fl_X5_31 rfl rfl dX5_undo_56 ?_
      refine lv_iload hx hb dX5_undo_59 (lv_at hl 0 rfl) ?_
      refine q_pI hf hw (fun v h => q_rV (As := [.int v8]) (rest := []) (q := (RX0, TX0, 4)) X hK hw rfl (Nat.lt_of_lt_of_le ho (Nat.le_of_ble_eq_true rfl : 3 ≤ cnt (gn Γ) 3)) (rfl : vwCl[2]? = _) (kX0_stemAt (Nat.lt_of_lt_of_le ho (Nat.le_of_ble_eq_true rfl : 3 ≤ cnt (gn Γ) 3)) h) mvX0_stemAt lk_X5_82 ⟨Nat.le_of_ble_eq_true rfl, Nat.le_of_ble_eq_true rfl⟩ rfl hl.1 rfl (Nat.le_of_ble_eq_true rfl) dX5_undo_61 ⟨Nat.le_of_ble_eq_true rfl, Nat.le_of_ble_eq_true rfl⟩) (fun v9 H locs hf hw => ?_)
      refine lv_iload_n hx hb dX5_undo_64 rfl (lv_at hl 2 rfl) ?_
      refine q_ic_ne (tgt := 105) hx hb hf dX5_undo_65 (by decide) (fun hf => ?_) (fun hf => ?_)
      · refine q_iinc (lv1 := [(5, .int v8), (0, .ref (ga Γ 4 o)), (1, .int x1), (2, .int v5), (3, .int v3)]) (d := 1) hx hb hf dX5_undo_105 hl (k := 5) rfl (by decide) (by decide) rfl (fun v10 ls hf hl => ?_)
        refine lv_goto (tgt := 34) hx hb dX5_undo_108 (by decide) ?_
        exact ih _ _ _ _ _ _ hf hw (lv_sub hl [2, 3, 4, 5, 0] rfl)
      refine lv_aload_n hx hb dX5_undo_68 rfl (lv_at hl 1 rfl) ?_
      refine q_get (v := .ref (ga Γ 1 0)) hx hb hK hw hown in_X5 ins_X5 (rfl : vwCl[7]? = some (RX5, TX5, 8)) rfl ho 1 (by decide) 297 fl_X5_22 rfl rfl dX5_undo_69 ?_
      refine lv_iload hx hb dX5_undo_72 (lv_at hl 0 rfl) ?_
      refine lv_aload_n hx hb dX5_undo_74 rfl (lv_at hl 1 rfl) ?_
      refine q_get (v := .ref (ga Γ 1 0)) hx hb hK hw hown in_X5 ins_X5 (rfl : vwCl[7]? = some (RX5, TX5, 8)) rfl ho 1 (by decide) 297 fl_X5_22 rfl rfl dX5_undo_75 ?_
      refine q_get (v := .ref (ga Γ 109 0)) hx hb hK hw hown in_X1 ins_X1 (rfl : vwCl[3]? = some (RX1, TX1, 13)) rfl (Nat.le_of_ble_eq_true rfl : 0 < cnt (gn Γ) 1) 9 (by decide) 112 fl_X5_120 rfl rfl dX5_undo_78 ?_
      refine lv_iload hx hb dX5_undo_81 (lv_at hl 5 rfl) ?_
      refine q_pF hf hw (fun v h => q_rSN (As := [.ref (ga Γ 109 0), .int v6]) (rest := [.int v8, .ref (ga Γ 1 0)]) X hK hw (kX7_floatAt (fun _ _ _ => rfl) (Nat.le_of_ble_eq_true rfl : 0 < cnt (gn Γ) 109) h) msX7_floatAt lk_X5_124 ⟨Nat.le_of_ble_eq_true rfl, Nat.le_of_ble_eq_true rfl⟩ rfl hl.1 rfl (Nat.le_of_ble_eq_true rfl) dX5_undo_83 ⟨Nat.le_of_ble_eq_true rfl, Nat.le_of_ble_eq_true rfl⟩) (fun v11 H locs hf hw => ?_)
      refine lv_aload_n hx hb dX5_undo_86 rfl (lv_at hl 1 rfl) ?_
      refine q_get (v := .ref (ga Γ 1 0)) hx hb hK hw hown in_X5 ins_X5 (rfl : vwCl[7]? = some (RX5, TX5, 8)) rfl ho 1 (by decide) 297 fl_X5_22 rfl rfl dX5_undo_87 ?_
      refine q_get (v := .ref (ga Γ 110 0)) hx hb hK hw hown in_X1 ins_X1 (rfl : vwCl[3]? = some (RX1, TX1, 13)) rfl (Nat.le_of_ble_eq_true rfl : 0 < cnt (gn Γ) 1) 10 (by decide) 114 fl_X5_128 rfl rfl dX5_undo_90 ?_
      refine lv_iload hx hb dX5_undo_93 (lv_at hl 5 rfl) ?_
      refine lv_iconst (v := (-1)) hx hb dX5_undo_95 (by decide) ?_
      refine q_pI hf hw (fun v h => q_rSN (As := [.ref (ga Γ 110 0), .int v6, .int ((-1) : Int32)]) (rest := [.float v11, .int v8, .ref (ga Γ 1 0)]) X hK hw (kX7_intAt (fun _ _ _ => rfl) (Nat.le_of_ble_eq_true rfl : 0 < cnt (gn Γ) 110) h) msX7_intAt lk_X5_116 ⟨Nat.le_of_ble_eq_true rfl, Nat.le_of_ble_eq_true rfl⟩ rfl hl.1 rfl (Nat.le_of_ble_eq_true rfl) dX5_undo_96 ⟨Nat.le_of_ble_eq_true rfl, Nat.le_of_ble_eq_true rfl⟩) (fun v12 H locs hf hw => ?_)
      refine q_eV hf hw (fun τ h => q_rV (As := [.int v8, .float v11, .int v12]) (rest := []) (q := (RX1, TX1, 13)) X hK hw rfl (Nat.le_of_ble_eq_true rfl : 0 < cnt (gn Γ) 1) (rfl : vwCl[3]? = _) (kX1_add h) mvX1_add lk_X5_74 ⟨Nat.le_of_ble_eq_true rfl, Nat.le_of_ble_eq_true rfl⟩ rfl hl.1 rfl (Nat.le_of_ble_eq_true rfl) dX5_undo_99 ⟨Nat.le_of_ble_eq_true rfl, Nat.le_of_ble_eq_true rfl⟩) (fun σ13 H locs hf hw => ?_)
      refine q_iinc (lv1 := [(5, .int v8), (0, .ref (ga Γ 4 o)), (1, .int x1), (3, .int v3), (4, .int v6)]) (d := 1) hx hb hf dX5_undo_102 hl (k := 3) rfl (by decide) (by decide) rfl (fun v14 ls hf hl => ?_)
      refine q_iinc (lv1 := [(2, .int v14), (5, .int v8), (0, .ref (ga Γ 4 o)), (1, .int x1), (3, .int v3)]) (d := 1) hx hb hf dX5_undo_105 hl (k := 5) rfl (by decide) (by decide) rfl (fun v15 ls hf hl => ?_)
      refine lv_goto (tgt := 34) hx hb dX5_undo_108 (by decide) ?_
      exact ih _ _ _ _ _ _ hf hw (lv_sub hl [3, 4, 1, 5, 0] rfl)
  refine L34 _ (fun v16 _ σ17 H locs ls hf hw hl => ?_) N (0 : Int32) v4 σ2 _ _ _ hf hw (lv_sub hl [3, 4, 2, 1, 0] rfl)
  refine lv_aload_n hx hb dX5_undo_111 rfl (lv_at hl 0 rfl) ?_
  refine q_eV hf hw (fun τ h => q_rV (As := []) (rest := []) (q := (RX5, TX5, 8)) X hK hw rfl ho (rfl : vwCl[7]? = _) (kX5_end ho h) mvX5_end lk_X5_100 ⟨Nat.le_of_ble_eq_true rfl, Nat.le_of_ble_eq_true rfl⟩ rfl hl.1 rfl (Nat.le_of_ble_eq_true rfl) dX5_undo_112 ⟨Nat.le_of_ble_eq_true rfl, Nat.le_of_ble_eq_true rfl⟩) (fun σ18 H locs hf hw => ?_)
  refine lv_iload_n hx hb dX5_undo_115 rfl (lv_at hl 1 rfl) ?_
  exact q_eiret hf hx hb hr rfl hk hw dX5_undo_116 (Nat.le_of_ble_eq_true rfl) (Nat.le_of_ble_eq_true rfl)
set_option maxRecDepth 100000 in
theorem kX5_isKnown {Γ : Gm} {S : List (String × Nat × String)} {l : Launch} {N : Nat} {σ : St} {o : Nat} {x1 : Int32} {r : Int32} (ho : o < 3) (hf : fX5_isKnown N σ o x1 = some r) : CT Γ S l yX5_isKnown cX5_isKnown 2 (some (.boolean)) 1 21 0 0 [.ref (ga Γ 4 o), .int x1] (some (.int r)) σ σ := by
  unfold fX5_isKnown at hf
  refine ct_body (lv := [(0, .ref (ga Γ 4 o)), (1, .int x1)]) (by decide +kernel) rfl (Nat.le_of_ble_eq_true rfl) ?_
  intro p e s m below meth c ls X hr hk hK hw hl
  have hx := X.1
  have hb := X.2.1
  have hown := X.2.2.2
  refine lv_aload_n hx hb dX5_isKnown_0 rfl (lv_at hl 0 rfl) ?_
  refine q_get (v := .ref (ga Γ 123 o)) hx hb hK hw hown in_X5 ins_X5 (rfl : vwCl[7]? = some (RX5, TX5, 8)) rfl ho 4 (by decide) 302 fl_X5_9 rfl rfl dX5_isKnown_1 ?_
  refine lv_iload_n hx hb dX5_isKnown_4 rfl (lv_at hl 1 rfl) ?_
  refine q_pI hf hw (fun v h => q_rSN (As := [.ref (ga Γ 123 o), .int x1]) (rest := []) X hK hw (kX7_isAt (fun _ _ _ => rfl) ho h) msX7_isAt lk_X5_44 ⟨Nat.le_of_ble_eq_true rfl, Nat.le_of_ble_eq_true rfl⟩ rfl hl.1 rfl (Nat.le_of_ble_eq_true rfl) dX5_isKnown_5 ⟨Nat.le_of_ble_eq_true rfl, Nat.le_of_ble_eq_true rfl⟩) (fun v1 H locs hf hw => ?_)
  exact q_nret hf hx hb hr vn_Z hk hw dX5_isKnown_8 (Nat.le_of_ble_eq_true rfl) (Nat.le_of_ble_eq_true rfl)
set_option maxRecDepth 100000 in
theorem kX7_operations {Γ : Gm} {S : List (String × Nat × String)} {l : Launch} {N : Nat} {σ : St} {r : Int32}  (hf : fX7_operations N σ = some r) : CT Γ S l yX7_operations cX7_operations 1 (some (.int)) 0 0 0 0 [.ref (ga Γ 0 0)] (some (.int r)) σ σ := by
  unfold fX7_operations at hf
  refine ct_body (lv := [(0, .ref (ga Γ 0 0))]) (by decide +kernel) rfl (Nat.le_of_ble_eq_true rfl) ?_
  intro p e s m below meth c ls X hr hk hK hw hl
  have hx := X.1
  have hb := X.2.1
  have hown := X.2.2.2
  refine lv_aload_n hx hb dX7_operations_0 rfl (lv_at hl 0 rfl) ?_
  refine q_get (v := .ref (ga Γ 1 0)) hx hb hK hw hown in_X7 ins_X7 (rfl : vwCl[9]? = some (RX7, TX7, 5)) rfl (Nat.le_of_ble_eq_true rfl : 0 < cnt (gn Γ) 0) 0 (by decide) 324 fl_X7_12 rfl rfl dX7_operations_1 ?_
  refine q_get (v := .int (gI σ 1 0 11)) hx hb hK hw hown in_X1 ins_X1 (rfl : vwCl[3]? = some (RX1, TX1, 13)) rfl (Nat.le_of_ble_eq_true rfl : 0 < cnt (gn Γ) 1) 11 (by decide) 117 fl_X7_228 rfl rfl dX7_operations_4 ?_
  exact q_iret hf hx hb hr rfl hk hw dX7_operations_7 (Nat.le_of_ble_eq_true rfl) (Nat.le_of_ble_eq_true rfl)
set_option maxRecDepth 100000 in
theorem kX7_isNegativeZero {Γ : Gm} {S : List (String × Nat × String)} {l : Launch} {N : Nat} {σ : St} {x1 : UInt32} {r : Int32}  (hf : fX7_isNegativeZero N σ x1 = some r) : CT Γ S l yX7_isNegativeZero cX7_isNegativeZero 1 (some (.boolean)) 0 0 0 0 [.float x1] (some (.int r)) σ σ := by
  unfold fX7_isNegativeZero at hf
  refine ct_body (lv := [(0, .float x1)]) (by decide +kernel) rfl (Nat.le_of_ble_eq_true rfl) ?_
  intro p e s m below meth c ls X hr hk hK hw hl
  have hx := X.1
  have hb := X.2.1
  have hown := X.2.2.2
  refine lv_fload_n hx hb dX7_isNegativeZero_0 rfl (lv_at hl 0 rfl) ?_
  refine lv_fconst0 hx hb dX7_isNegativeZero_1 ?_
  refine lv_fcmp hx hb dX7_isNegativeZero_2 ?_
  refine q_if_ne (tgt := 18) hx hb hf dX7_isNegativeZero_3 (by decide) (fun hf => ?_) (fun hf => ?_)
  · refine lv_iconst (v := 0) hx hb dX7_isNegativeZero_18 (by decide) ?_
    exact q_iret hf hx hb hr rfl hk hw dX7_isNegativeZero_19 (Nat.le_of_ble_eq_true rfl) (Nat.le_of_ble_eq_true rfl)
  refine lv_fconst1 hx hb dX7_isNegativeZero_6 ?_
  refine lv_fload_n hx hb dX7_isNegativeZero_7 rfl (lv_at hl 0 rfl) ?_
  refine q_fdiv hx hb hf dX7_isNegativeZero_8 (fun hf => ?_)
  refine lv_fconst0 hx hb dX7_isNegativeZero_9 ?_
  refine lv_fcmp hx hb dX7_isNegativeZero_10 ?_
  refine q_if_ge (tgt := 18) hx hb hf dX7_isNegativeZero_11 (by decide) (fun hf => ?_) (fun hf => ?_)
  · refine lv_iconst (v := 0) hx hb dX7_isNegativeZero_18 (by decide) ?_
    exact q_iret hf hx hb hr rfl hk hw dX7_isNegativeZero_19 (Nat.le_of_ble_eq_true rfl) (Nat.le_of_ble_eq_true rfl)
  refine lv_iconst (v := 1) hx hb dX7_isNegativeZero_14 (by decide) ?_
  refine lv_goto (tgt := 19) hx hb dX7_isNegativeZero_15 (by decide) ?_
  exact q_iret hf hx hb hr rfl hk hw dX7_isNegativeZero_19 (Nat.le_of_ble_eq_true rfl) (Nat.le_of_ble_eq_true rfl)
set_option maxRecDepth 100000 in
theorem kX7_bitsOf {Γ : Gm} {S : List (String × Nat × String)} {l : Launch} {N : Nat} {σ : St} {x1 : UInt32} {r : Int32}  (hf : fX7_bitsOf N σ x1 = some r) : CT Γ S l yX7_bitsOf cX7_bitsOf 6 (some (.int)) 1 20 0 0 [.float x1] (some (.int r)) σ σ := by
  unfold fX7_bitsOf at hf
  refine ct_body (lv := [(0, .float x1)]) (by decide +kernel) rfl (Nat.le_of_ble_eq_true rfl) ?_
  intro p e s m below meth c ls X hr hk hK hw hl
  have hx := X.1
  have hb := X.2.1
  have hown := X.2.2.2
  refine lv_fload_n hx hb dX7_bitsOf_0 rfl (lv_at hl 0 rfl) ?_
  refine lv_fconst0 hx hb dX7_bitsOf_1 ?_
  refine lv_fcmp hx hb dX7_bitsOf_2 ?_
  refine q_if_ne (tgt := 21) hx hb hf dX7_bitsOf_3 (by decide) (fun hf => ?_) (fun hf => ?_)
  · refine lv_fload_n hx hb dX7_bitsOf_21 rfl (lv_at hl 0 rfl) ?_
    refine lv_fconst0 hx hb dX7_bitsOf_22 ?_
    refine lv_fcmp hx hb dX7_bitsOf_23 ?_
    refine q_if_ge (tgt := 33) hx hb hf dX7_bitsOf_24 (by decide) (fun hf => ?_) (fun hf => ?_)
    · refine lv_iconst (v := 0) hx hb dX7_bitsOf_33 (by decide) ?_
      refine lv_istore_n (lv' := [(1, .int (0 : Int32)), (0, .float x1)]) hx hb dX7_bitsOf_34 rfl hl (by decide) rfl (fun ls hl => ?_)
      refine lv_fload_n hx hb dX7_bitsOf_35 rfl (lv_at hl 1 rfl) ?_
      refine lv_fconst0 hx hb dX7_bitsOf_36 ?_
      refine lv_fcmp hx hb dX7_bitsOf_37 ?_
      refine q_if_ge (tgt := 47) hx hb hf dX7_bitsOf_38 (by decide) (fun hf => ?_) (fun hf => ?_)
      · refine lv_fload_n hx hb dX7_bitsOf_47 rfl (lv_at hl 1 rfl) ?_
        refine q_f2d hx hb hf dX7_bitsOf_48 (fun hf => ?_)
        refine q_dstore_n (lv1 := [(1, .int (0 : Int32)), (0, .float x1)]) hx hb hf dX7_bitsOf_49 rfl hl (by decide) rfl (fun v1 ls hf hl => ?_)
        refine lv_iconst (v := 0) hx hb dX7_bitsOf_50 (by decide) ?_
        refine lv_istore (lv' := [(4, .int (0 : Int32)), (2, .double v1), (1, .int (0 : Int32)), (0, .float x1)]) hx hb dX7_bitsOf_51 hl (by decide) rfl (fun ls hl => ?_)
        refine lv_iconst (v := 0) hx hb dX7_bitsOf_53 (by decide) ?_
        refine lv_istore (lv' := [(5, .int (0 : Int32)), (4, .int (0 : Int32)), (2, .double v1), (1, .int (0 : Int32)), (0, .float x1)]) hx hb dX7_bitsOf_54 hl (by decide) rfl (fun ls hl => ?_)
        have L56 : ∀ (K : UInt64 → Int32 → Int32 → Option (Int32)) (hkk : ∀ (y2 : UInt64) (y4 : Int32) (y5 : Int32) (H : Heap) (locs : List Loc) (ls : Array Slot), K y2 y4 y5 = some r → Sit Γ σ s H locs → lv_has ls 6 [(1, .int (0 : Int32)), (2, .double y2), (4, .int y4)] → W p l e { frames := 1, cells := 0, slots := 0, locals := 20 } s m [.float x1].toArray below meth c H locs 0 0 (MQ below (Qg Γ (some (.int r)) σ (AA Γ s.heap.size)) [.float x1].toArray s 0 0 (AA Γ s.heap.size)) (F0 m 87 ls [])) (n : Nat) (v2 : UInt64) (v3 : Int32) (v4 : Int32) (H : Heap) (locs : List Loc) (ls : Array Slot), fX7_bitsOf_L56 K N n v2 v3 v4 = some r → Sit Γ σ s H locs → lv_has ls 6 [(1, .int (0 : Int32)), (2, .double v2), (4, .int v3), (5, .int v4)] → W p l e { frames := 1, cells := 0, slots := 0, locals := 20 } s m [.float x1].toArray below meth c H locs 0 0 (MQ below (Qg Γ (some (.int r)) σ (AA Γ s.heap.size)) [.float x1].toArray s 0 0 (AA Γ s.heap.size)) (F0 m 56 ls []) := by
          intro K hkk n
          induction n with
          | zero =>
            intro _ _ _ _ _ _ hf
            exact nomatch hf
          | succ n ih =>
            intro v2 v3 v4 H locs ls hf hw hl
            refine lv_iload hx hb dX7_bitsOf_56 (lv_at hl 3 rfl) ?_
            refine lv_sipush (v := 128) hx hb dX7_bitsOf_58 (by decide) ?_
            refine q_ic_ge (tgt := 87) hx hb hf dX7_bitsOf_61 (by decide) (fun hf => ?_) (fun hf => ?_)
            · exact hkk _ _ _ _ _ _ hf hw (lv_sub hl [0, 1, 2] rfl)
            refine lv_dload_n hx hb dX7_bitsOf_64 rfl (lv_at hl 1 rfl) ?_
            refine lv_ldc2d (v := 4611686018427387904) hx hb hown (kw_at hK.2.2.2.2.1 1014 (by decide +kernel) rfl) dX7_bitsOf_65 ?_
            refine lv_dcmp hx hb dX7_bitsOf_68 ?_
            refine q_if_lt (tgt := 87) hx hb hf dX7_bitsOf_69 (by decide) (fun hf => ?_) (fun hf => ?_)
            · exact hkk _ _ _ _ _ _ hf hw (lv_sub hl [0, 1, 2] rfl)
            refine lv_dload_n hx hb dX7_bitsOf_72 rfl (lv_at hl 1 rfl) ?_
            refine lv_ldc2d (v := 4611686018427387904) hx hb hown (kw_at hK.2.2.2.2.1 1014 (by decide +kernel) rfl) dX7_bitsOf_73 ?_
            refine q_ddiv hx hb hf dX7_bitsOf_76 (fun hf => ?_)
            refine q_dstore_n (lv1 := [(1, .int (0 : Int32)), (4, .int v3), (5, .int v4)]) hx hb hf dX7_bitsOf_77 rfl hl (by decide) rfl (fun v5 ls hf hl => ?_)
            refine q_iinc (lv1 := [(2, .double v5), (1, .int (0 : Int32)), (5, .int v4)]) (d := 1) hx hb hf dX7_bitsOf_78 hl (k := 2) rfl (by decide) (by decide) rfl (fun v6 ls hf hl => ?_)
            refine q_iinc (lv1 := [(4, .int v6), (2, .double v5), (1, .int (0 : Int32))]) (d := 1) hx hb hf dX7_bitsOf_81 hl (k := 3) rfl (by decide) (by decide) rfl (fun v7 ls hf hl => ?_)
            refine lv_goto (tgt := 56) hx hb dX7_bitsOf_84 (by decide) ?_
            exact ih _ _ _ _ _ _ hf hw (lv_sub hl [3, 2, 1, 0] rfl)
        refine L56 _ (fun v8 v9 _ H locs ls hf hw hl => ?_) N v1 (0 : Int32) (0 : Int32) _ _ _ hf hw (lv_sub hl [3, 2, 1, 0] rfl)
        refine lv_iconst (v := 0) hx hb dX7_bitsOf_87 (by decide) ?_
        refine lv_istore (lv' := [(5, .int (0 : Int32)), (1, .int (0 : Int32)), (2, .double v8), (4, .int v9)]) hx hb dX7_bitsOf_88 hl (by decide) rfl (fun ls hl => ?_)
        have L90 : ∀ (K : UInt64 → Int32 → Int32 → Option (Int32)) (hkk : ∀ (y2 : UInt64) (y4 : Int32) (y5 : Int32) (H : Heap) (locs : List Loc) (ls : Array Slot), K y2 y4 y5 = some r → Sit Γ σ s H locs → lv_has ls 6 [(1, .int (0 : Int32)), (2, .double y2), (4, .int y4)] → W p l e { frames := 1, cells := 0, slots := 0, locals := 20 } s m [.float x1].toArray below meth c H locs 0 0 (MQ below (Qg Γ (some (.int r)) σ (AA Γ s.heap.size)) [.float x1].toArray s 0 0 (AA Γ s.heap.size)) (F0 m 119 ls [])) (n : Nat) (v10 : UInt64) (v11 : Int32) (v12 : Int32) (H : Heap) (locs : List Loc) (ls : Array Slot), fX7_bitsOf_L90 K N n v10 v11 v12 = some r → Sit Γ σ s H locs → lv_has ls 6 [(1, .int (0 : Int32)), (2, .double v10), (4, .int v11), (5, .int v12)] → W p l e { frames := 1, cells := 0, slots := 0, locals := 20 } s m [.float x1].toArray below meth c H locs 0 0 (MQ below (Qg Γ (some (.int r)) σ (AA Γ s.heap.size)) [.float x1].toArray s 0 0 (AA Γ s.heap.size)) (F0 m 90 ls []) := by
          intro K hkk n
          induction n with
          | zero =>
            intro _ _ _ _ _ _ hf
            exact nomatch hf
          | succ n ih =>
            intro v10 v11 v12 H locs ls hf hw hl
            refine lv_iload hx hb dX7_bitsOf_90 (lv_at hl 3 rfl) ?_
            refine lv_sipush (v := 149) hx hb dX7_bitsOf_92 (by decide) ?_
            refine q_ic_ge (tgt := 119) hx hb hf dX7_bitsOf_95 (by decide) (fun hf => ?_) (fun hf => ?_)
            · exact hkk _ _ _ _ _ _ hf hw (lv_sub hl [0, 1, 2] rfl)
            refine lv_dload_n hx hb dX7_bitsOf_98 rfl (lv_at hl 1 rfl) ?_
            refine lv_dconst1 hx hb dX7_bitsOf_99 ?_
            refine lv_dcmp hx hb dX7_bitsOf_100 ?_
            refine q_if_ge (tgt := 119) hx hb hf dX7_bitsOf_101 (by decide) (fun hf => ?_) (fun hf => ?_)
            · exact hkk _ _ _ _ _ _ hf hw (lv_sub hl [0, 1, 2] rfl)
            refine lv_dload_n hx hb dX7_bitsOf_104 rfl (lv_at hl 1 rfl) ?_
            refine lv_ldc2d (v := 4611686018427387904) hx hb hown (kw_at hK.2.2.2.2.1 1014 (by decide +kernel) rfl) dX7_bitsOf_105 ?_
            refine q_dmul hx hb hf dX7_bitsOf_108 (fun hf => ?_)
            refine q_dstore_n (lv1 := [(1, .int (0 : Int32)), (4, .int v11), (5, .int v12)]) hx hb hf dX7_bitsOf_109 rfl hl (by decide) rfl (fun v13 ls hf hl => ?_)
            refine q_iinc (lv1 := [(2, .double v13), (1, .int (0 : Int32)), (5, .int v12)]) (d := (-1)) hx hb hf dX7_bitsOf_110 hl (k := 2) rfl (by decide) (by decide) rfl (fun v14 ls hf hl => ?_)
            refine q_iinc (lv1 := [(4, .int v14), (2, .double v13), (1, .int (0 : Int32))]) (d := 1) hx hb hf dX7_bitsOf_113 hl (k := 3) rfl (by decide) (by decide) rfl (fun v15 ls hf hl => ?_)
            refine lv_goto (tgt := 90) hx hb dX7_bitsOf_116 (by decide) ?_
            exact ih _ _ _ _ _ _ hf hw (lv_sub hl [3, 2, 1, 0] rfl)
        refine L90 _ (fun v16 v17 _ H locs ls hf hw hl => ?_) N v8 v9 (0 : Int32) _ _ _ hf hw (lv_sub hl [1, 2, 3, 0] rfl)
        refine lv_iload hx hb dX7_bitsOf_119 (lv_at hl 2 rfl) ?_
        refine lv_bipush (v := (-126)) hx hb dX7_bitsOf_121 (by decide) ?_
        refine q_ic_ge (tgt := 141) hx hb hf dX7_bitsOf_123 (by decide) (fun hf => ?_) (fun hf => ?_)
        · refine lv_iload_n hx hb dX7_bitsOf_141 rfl (lv_at hl 0 rfl) ?_
          refine lv_iload hx hb dX7_bitsOf_142 (lv_at hl 2 rfl) ?_
          refine lv_bipush (v := 127) hx hb dX7_bitsOf_144 (by decide) ?_
          refine lv_iadd hx hb dX7_bitsOf_146 ?_
          refine lv_bipush (v := 23) hx hb dX7_bitsOf_147 (by decide) ?_
          refine lv_ishl hx hb dX7_bitsOf_149 ?_
          refine lv_ior hx hb dX7_bitsOf_150 ?_
          refine lv_dload_n hx hb dX7_bitsOf_151 rfl (lv_at hl 1 rfl) ?_
          refine lv_dconst1 hx hb dX7_bitsOf_152 ?_
          refine q_dsub hx hb hf dX7_bitsOf_153 (fun hf => ?_)
          refine lv_ldc2d (v := 4710765210229538816) hx hb hown (kw_at hK.2.2.2.2.1 1015 (by decide +kernel) rfl) dX7_bitsOf_154 ?_
          refine q_dmul hx hb hf dX7_bitsOf_157 (fun hf => ?_)
          refine lv_d2i hx hb dX7_bitsOf_158 ?_
          refine lv_ior hx hb dX7_bitsOf_159 ?_
          exact q_iret hf hx hb hr rfl hk hw dX7_bitsOf_160 (Nat.le_of_ble_eq_true rfl) (Nat.le_of_ble_eq_true rfl)
        refine lv_iload_n hx hb dX7_bitsOf_126 rfl (lv_at hl 0 rfl) ?_
        refine lv_dload_n hx hb dX7_bitsOf_127 rfl (lv_at hl 1 rfl) ?_
        refine lv_iconst (v := 1) hx hb dX7_bitsOf_128 (by decide) ?_
        refine lv_iload hx hb dX7_bitsOf_129 (lv_at hl 2 rfl) ?_
        refine lv_sipush (v := 149) hx hb dX7_bitsOf_131 (by decide) ?_
        refine lv_iadd hx hb dX7_bitsOf_134 ?_
        refine lv_ishl hx hb dX7_bitsOf_135 ?_
        refine lv_i2d hx hb dX7_bitsOf_136 ?_
        refine q_dmul hx hb hf dX7_bitsOf_137 (fun hf => ?_)
        refine lv_d2i hx hb dX7_bitsOf_138 ?_
        refine lv_ior hx hb dX7_bitsOf_139 ?_
        exact q_iret hf hx hb hr rfl hk hw dX7_bitsOf_140 (Nat.le_of_ble_eq_true rfl) (Nat.le_of_ble_eq_true rfl)
      refine lv_fload_n hx hb dX7_bitsOf_41 rfl (lv_at hl 1 rfl) ?_
      refine q_f2d hx hb hf dX7_bitsOf_42 (fun hf => ?_)
      refine lv_dneg hx hb dX7_bitsOf_43 ?_
      refine lv_goto (tgt := 49) hx hb dX7_bitsOf_44 (by decide) ?_
      refine q_dstore_n (lv1 := [(1, .int (0 : Int32)), (0, .float x1)]) hx hb hf dX7_bitsOf_49 rfl hl (by decide) rfl (fun v18 ls hf hl => ?_)
      refine lv_iconst (v := 0) hx hb dX7_bitsOf_50 (by decide) ?_
      refine lv_istore (lv' := [(4, .int (0 : Int32)), (2, .double v18), (1, .int (0 : Int32)), (0, .float x1)]) hx hb dX7_bitsOf_51 hl (by decide) rfl (fun ls hl => ?_)
      refine lv_iconst (v := 0) hx hb dX7_bitsOf_53 (by decide) ?_
      refine lv_istore (lv' := [(5, .int (0 : Int32)), (4, .int (0 : Int32)), (2, .double v18), (1, .int (0 : Int32)), (0, .float x1)]) hx hb dX7_bitsOf_54 hl (by decide) rfl (fun ls hl => ?_)
      have L56 : ∀ (K : UInt64 → Int32 → Int32 → Option (Int32)) (hkk : ∀ (y2 : UInt64) (y4 : Int32) (y5 : Int32) (H : Heap) (locs : List Loc) (ls : Array Slot), K y2 y4 y5 = some r → Sit Γ σ s H locs → lv_has ls 6 [(1, .int (0 : Int32)), (2, .double y2), (4, .int y4)] → W p l e { frames := 1, cells := 0, slots := 0, locals := 20 } s m [.float x1].toArray below meth c H locs 0 0 (MQ below (Qg Γ (some (.int r)) σ (AA Γ s.heap.size)) [.float x1].toArray s 0 0 (AA Γ s.heap.size)) (F0 m 87 ls [])) (n : Nat) (v19 : UInt64) (v20 : Int32) (v21 : Int32) (H : Heap) (locs : List Loc) (ls : Array Slot), fX7_bitsOf_L56_3 K N n v19 v20 v21 = some r → Sit Γ σ s H locs → lv_has ls 6 [(1, .int (0 : Int32)), (2, .double v19), (4, .int v20), (5, .int v21)] → W p l e { frames := 1, cells := 0, slots := 0, locals := 20 } s m [.float x1].toArray below meth c H locs 0 0 (MQ below (Qg Γ (some (.int r)) σ (AA Γ s.heap.size)) [.float x1].toArray s 0 0 (AA Γ s.heap.size)) (F0 m 56 ls []) := by
        intro K hkk n
        induction n with
        | zero =>
          intro _ _ _ _ _ _ hf
          exact nomatch hf
        | succ n ih =>
          intro v19 v20 v21 H locs ls hf hw hl
          refine lv_iload hx hb dX7_bitsOf_56 (lv_at hl 3 rfl) ?_
          refine lv_sipush (v := 128) hx hb dX7_bitsOf_58 (by decide) ?_
          refine q_ic_ge (tgt := 87) hx hb hf dX7_bitsOf_61 (by decide) (fun hf => ?_) (fun hf => ?_)
          · exact hkk _ _ _ _ _ _ hf hw (lv_sub hl [0, 1, 2] rfl)
          refine lv_dload_n hx hb dX7_bitsOf_64 rfl (lv_at hl 1 rfl) ?_
          refine lv_ldc2d (v := 4611686018427387904) hx hb hown (kw_at hK.2.2.2.2.1 1014 (by decide +kernel) rfl) dX7_bitsOf_65 ?_
          refine lv_dcmp hx hb dX7_bitsOf_68 ?_
          refine q_if_lt (tgt := 87) hx hb hf dX7_bitsOf_69 (by decide) (fun hf => ?_) (fun hf => ?_)
          · exact hkk _ _ _ _ _ _ hf hw (lv_sub hl [0, 1, 2] rfl)
          refine lv_dload_n hx hb dX7_bitsOf_72 rfl (lv_at hl 1 rfl) ?_
          refine lv_ldc2d (v := 4611686018427387904) hx hb hown (kw_at hK.2.2.2.2.1 1014 (by decide +kernel) rfl) dX7_bitsOf_73 ?_
          refine q_ddiv hx hb hf dX7_bitsOf_76 (fun hf => ?_)
          refine q_dstore_n (lv1 := [(1, .int (0 : Int32)), (4, .int v20), (5, .int v21)]) hx hb hf dX7_bitsOf_77 rfl hl (by decide) rfl (fun v22 ls hf hl => ?_)
          refine q_iinc (lv1 := [(2, .double v22), (1, .int (0 : Int32)), (5, .int v21)]) (d := 1) hx hb hf dX7_bitsOf_78 hl (k := 2) rfl (by decide) (by decide) rfl (fun v23 ls hf hl => ?_)
          refine q_iinc (lv1 := [(4, .int v23), (2, .double v22), (1, .int (0 : Int32))]) (d := 1) hx hb hf dX7_bitsOf_81 hl (k := 3) rfl (by decide) (by decide) rfl (fun v24 ls hf hl => ?_)
          refine lv_goto (tgt := 56) hx hb dX7_bitsOf_84 (by decide) ?_
          exact ih _ _ _ _ _ _ hf hw (lv_sub hl [3, 2, 1, 0] rfl)
      refine L56 _ (fun v25 v26 _ H locs ls hf hw hl => ?_) N v18 (0 : Int32) (0 : Int32) _ _ _ hf hw (lv_sub hl [3, 2, 1, 0] rfl)
      refine lv_iconst (v := 0) hx hb dX7_bitsOf_87 (by decide) ?_
      refine lv_istore (lv' := [(5, .int (0 : Int32)), (1, .int (0 : Int32)), (2, .double v25), (4, .int v26)]) hx hb dX7_bitsOf_88 hl (by decide) rfl (fun ls hl => ?_)
      have L90 : ∀ (K : UInt64 → Int32 → Int32 → Option (Int32)) (hkk : ∀ (y2 : UInt64) (y4 : Int32) (y5 : Int32) (H : Heap) (locs : List Loc) (ls : Array Slot), K y2 y4 y5 = some r → Sit Γ σ s H locs → lv_has ls 6 [(1, .int (0 : Int32)), (2, .double y2), (4, .int y4)] → W p l e { frames := 1, cells := 0, slots := 0, locals := 20 } s m [.float x1].toArray below meth c H locs 0 0 (MQ below (Qg Γ (some (.int r)) σ (AA Γ s.heap.size)) [.float x1].toArray s 0 0 (AA Γ s.heap.size)) (F0 m 119 ls [])) (n : Nat) (v27 : UInt64) (v28 : Int32) (v29 : Int32) (H : Heap) (locs : List Loc) (ls : Array Slot), fX7_bitsOf_L90_4 K N n v27 v28 v29 = some r → Sit Γ σ s H locs → lv_has ls 6 [(1, .int (0 : Int32)), (2, .double v27), (4, .int v28), (5, .int v29)] → W p l e { frames := 1, cells := 0, slots := 0, locals := 20 } s m [.float x1].toArray below meth c H locs 0 0 (MQ below (Qg Γ (some (.int r)) σ (AA Γ s.heap.size)) [.float x1].toArray s 0 0 (AA Γ s.heap.size)) (F0 m 90 ls []) := by
        intro K hkk n
        induction n with
        | zero =>
          intro _ _ _ _ _ _ hf
          exact nomatch hf
        | succ n ih =>
          intro v27 v28 v29 H locs ls hf hw hl
          refine lv_iload hx hb dX7_bitsOf_90 (lv_at hl 3 rfl) ?_
          refine lv_sipush (v := 149) hx hb dX7_bitsOf_92 (by decide) ?_
          refine q_ic_ge (tgt := 119) hx hb hf dX7_bitsOf_95 (by decide) (fun hf => ?_) (fun hf => ?_)
          · exact hkk _ _ _ _ _ _ hf hw (lv_sub hl [0, 1, 2] rfl)
          refine lv_dload_n hx hb dX7_bitsOf_98 rfl (lv_at hl 1 rfl) ?_
          refine lv_dconst1 hx hb dX7_bitsOf_99 ?_
          refine lv_dcmp hx hb dX7_bitsOf_100 ?_
          refine q_if_ge (tgt := 119) hx hb hf dX7_bitsOf_101 (by decide) (fun hf => ?_) (fun hf => ?_)
          · exact hkk _ _ _ _ _ _ hf hw (lv_sub hl [0, 1, 2] rfl)
          refine lv_dload_n hx hb dX7_bitsOf_104 rfl (lv_at hl 1 rfl) ?_
          refine lv_ldc2d (v := 4611686018427387904) hx hb hown (kw_at hK.2.2.2.2.1 1014 (by decide +kernel) rfl) dX7_bitsOf_105 ?_
          refine q_dmul hx hb hf dX7_bitsOf_108 (fun hf => ?_)
          refine q_dstore_n (lv1 := [(1, .int (0 : Int32)), (4, .int v28), (5, .int v29)]) hx hb hf dX7_bitsOf_109 rfl hl (by decide) rfl (fun v30 ls hf hl => ?_)
          refine q_iinc (lv1 := [(2, .double v30), (1, .int (0 : Int32)), (5, .int v29)]) (d := (-1)) hx hb hf dX7_bitsOf_110 hl (k := 2) rfl (by decide) (by decide) rfl (fun v31 ls hf hl => ?_)
          refine q_iinc (lv1 := [(4, .int v31), (2, .double v30), (1, .int (0 : Int32))]) (d := 1) hx hb hf dX7_bitsOf_113 hl (k := 3) rfl (by decide) (by decide) rfl (fun v32 ls hf hl => ?_)
          refine lv_goto (tgt := 90) hx hb dX7_bitsOf_116 (by decide) ?_
          exact ih _ _ _ _ _ _ hf hw (lv_sub hl [3, 2, 1, 0] rfl)
      refine L90 _ (fun v33 v34 _ H locs ls hf hw hl => ?_) N v25 v26 (0 : Int32) _ _ _ hf hw (lv_sub hl [1, 2, 3, 0] rfl)
      refine lv_iload hx hb dX7_bitsOf_119 (lv_at hl 2 rfl) ?_
      refine lv_bipush (v := (-126)) hx hb dX7_bitsOf_121 (by decide) ?_
      refine q_ic_ge (tgt := 141) hx hb hf dX7_bitsOf_123 (by decide) (fun hf => ?_) (fun hf => ?_)
      · refine lv_iload_n hx hb dX7_bitsOf_141 rfl (lv_at hl 0 rfl) ?_
        refine lv_iload hx hb dX7_bitsOf_142 (lv_at hl 2 rfl) ?_
        refine lv_bipush (v := 127) hx hb dX7_bitsOf_144 (by decide) ?_
        refine lv_iadd hx hb dX7_bitsOf_146 ?_
        refine lv_bipush (v := 23) hx hb dX7_bitsOf_147 (by decide) ?_
        refine lv_ishl hx hb dX7_bitsOf_149 ?_
        refine lv_ior hx hb dX7_bitsOf_150 ?_
        refine lv_dload_n hx hb dX7_bitsOf_151 rfl (lv_at hl 1 rfl) ?_
        refine lv_dconst1 hx hb dX7_bitsOf_152 ?_
        refine q_dsub hx hb hf dX7_bitsOf_153 (fun hf => ?_)
        refine lv_ldc2d (v := 4710765210229538816) hx hb hown (kw_at hK.2.2.2.2.1 1015 (by decide +kernel) rfl) dX7_bitsOf_154 ?_
        refine q_dmul hx hb hf dX7_bitsOf_157 (fun hf => ?_)
        refine lv_d2i hx hb dX7_bitsOf_158 ?_
        refine lv_ior hx hb dX7_bitsOf_159 ?_
        exact q_iret hf hx hb hr rfl hk hw dX7_bitsOf_160 (Nat.le_of_ble_eq_true rfl) (Nat.le_of_ble_eq_true rfl)
      refine lv_iload_n hx hb dX7_bitsOf_126 rfl (lv_at hl 0 rfl) ?_
      refine lv_dload_n hx hb dX7_bitsOf_127 rfl (lv_at hl 1 rfl) ?_
      refine lv_iconst (v := 1) hx hb dX7_bitsOf_128 (by decide) ?_
      refine lv_iload hx hb dX7_bitsOf_129 (lv_at hl 2 rfl) ?_
      refine lv_sipush (v := 149) hx hb dX7_bitsOf_131 (by decide) ?_
      refine lv_iadd hx hb dX7_bitsOf_134 ?_
      refine lv_ishl hx hb dX7_bitsOf_135 ?_
      refine lv_i2d hx hb dX7_bitsOf_136 ?_
      refine q_dmul hx hb hf dX7_bitsOf_137 (fun hf => ?_)
      refine lv_d2i hx hb dX7_bitsOf_138 ?_
      refine lv_ior hx hb dX7_bitsOf_139 ?_
      exact q_iret hf hx hb hr rfl hk hw dX7_bitsOf_140 (Nat.le_of_ble_eq_true rfl) (Nat.le_of_ble_eq_true rfl)
    refine lv_ldcw (v := -2147483648) hx hb hown (kw_at hK.2.2.2.2.1 1013 (by decide +kernel) rfl) dX7_bitsOf_27 ?_
    refine lv_goto (tgt := 34) hx hb dX7_bitsOf_30 (by decide) ?_
    refine lv_istore_n (lv' := [(1, .int (-2147483648 : Int32)), (0, .float x1)]) hx hb dX7_bitsOf_34 rfl hl (by decide) rfl (fun ls hl => ?_)
    refine lv_fload_n hx hb dX7_bitsOf_35 rfl (lv_at hl 1 rfl) ?_
    refine lv_fconst0 hx hb dX7_bitsOf_36 ?_
    refine lv_fcmp hx hb dX7_bitsOf_37 ?_
    refine q_if_ge (tgt := 47) hx hb hf dX7_bitsOf_38 (by decide) (fun hf => ?_) (fun hf => ?_)
    · refine lv_fload_n hx hb dX7_bitsOf_47 rfl (lv_at hl 1 rfl) ?_
      refine q_f2d hx hb hf dX7_bitsOf_48 (fun hf => ?_)
      refine q_dstore_n (lv1 := [(1, .int (-2147483648 : Int32)), (0, .float x1)]) hx hb hf dX7_bitsOf_49 rfl hl (by decide) rfl (fun v35 ls hf hl => ?_)
      refine lv_iconst (v := 0) hx hb dX7_bitsOf_50 (by decide) ?_
      refine lv_istore (lv' := [(4, .int (0 : Int32)), (2, .double v35), (1, .int (-2147483648 : Int32)), (0, .float x1)]) hx hb dX7_bitsOf_51 hl (by decide) rfl (fun ls hl => ?_)
      refine lv_iconst (v := 0) hx hb dX7_bitsOf_53 (by decide) ?_
      refine lv_istore (lv' := [(5, .int (0 : Int32)), (4, .int (0 : Int32)), (2, .double v35), (1, .int (-2147483648 : Int32)), (0, .float x1)]) hx hb dX7_bitsOf_54 hl (by decide) rfl (fun ls hl => ?_)
      have L56 : ∀ (K : UInt64 → Int32 → Int32 → Option (Int32)) (hkk : ∀ (y2 : UInt64) (y4 : Int32) (y5 : Int32) (H : Heap) (locs : List Loc) (ls : Array Slot), K y2 y4 y5 = some r → Sit Γ σ s H locs → lv_has ls 6 [(1, .int (-2147483648 : Int32)), (2, .double y2), (4, .int y4)] → W p l e { frames := 1, cells := 0, slots := 0, locals := 20 } s m [.float x1].toArray below meth c H locs 0 0 (MQ below (Qg Γ (some (.int r)) σ (AA Γ s.heap.size)) [.float x1].toArray s 0 0 (AA Γ s.heap.size)) (F0 m 87 ls [])) (n : Nat) (v36 : UInt64) (v37 : Int32) (v38 : Int32) (H : Heap) (locs : List Loc) (ls : Array Slot), fX7_bitsOf_L56_5 K N n v36 v37 v38 = some r → Sit Γ σ s H locs → lv_has ls 6 [(1, .int (-2147483648 : Int32)), (2, .double v36), (4, .int v37), (5, .int v38)] → W p l e { frames := 1, cells := 0, slots := 0, locals := 20 } s m [.float x1].toArray below meth c H locs 0 0 (MQ below (Qg Γ (some (.int r)) σ (AA Γ s.heap.size)) [.float x1].toArray s 0 0 (AA Γ s.heap.size)) (F0 m 56 ls []) := by
        intro K hkk n
        induction n with
        | zero =>
          intro _ _ _ _ _ _ hf
          exact nomatch hf
        | succ n ih =>
          intro v36 v37 v38 H locs ls hf hw hl
          refine lv_iload hx hb dX7_bitsOf_56 (lv_at hl 3 rfl) ?_
          refine lv_sipush (v := 128) hx hb dX7_bitsOf_58 (by decide) ?_
          refine q_ic_ge (tgt := 87) hx hb hf dX7_bitsOf_61 (by decide) (fun hf => ?_) (fun hf => ?_)
          · exact hkk _ _ _ _ _ _ hf hw (lv_sub hl [0, 1, 2] rfl)
          refine lv_dload_n hx hb dX7_bitsOf_64 rfl (lv_at hl 1 rfl) ?_
          refine lv_ldc2d (v := 4611686018427387904) hx hb hown (kw_at hK.2.2.2.2.1 1014 (by decide +kernel) rfl) dX7_bitsOf_65 ?_
          refine lv_dcmp hx hb dX7_bitsOf_68 ?_
          refine q_if_lt (tgt := 87) hx hb hf dX7_bitsOf_69 (by decide) (fun hf => ?_) (fun hf => ?_)
          · exact hkk _ _ _ _ _ _ hf hw (lv_sub hl [0, 1, 2] rfl)
          refine lv_dload_n hx hb dX7_bitsOf_72 rfl (lv_at hl 1 rfl) ?_
          refine lv_ldc2d (v := 4611686018427387904) hx hb hown (kw_at hK.2.2.2.2.1 1014 (by decide +kernel) rfl) dX7_bitsOf_73 ?_
          refine q_ddiv hx hb hf dX7_bitsOf_76 (fun hf => ?_)
          refine q_dstore_n (lv1 := [(1, .int (-2147483648 : Int32)), (4, .int v37), (5, .int v38)]) hx hb hf dX7_bitsOf_77 rfl hl (by decide) rfl (fun v39 ls hf hl => ?_)
          refine q_iinc (lv1 := [(2, .double v39), (1, .int (-2147483648 : Int32)), (5, .int v38)]) (d := 1) hx hb hf dX7_bitsOf_78 hl (k := 2) rfl (by decide) (by decide) rfl (fun v40 ls hf hl => ?_)
          refine q_iinc (lv1 := [(4, .int v40), (2, .double v39), (1, .int (-2147483648 : Int32))]) (d := 1) hx hb hf dX7_bitsOf_81 hl (k := 3) rfl (by decide) (by decide) rfl (fun v41 ls hf hl => ?_)
          refine lv_goto (tgt := 56) hx hb dX7_bitsOf_84 (by decide) ?_
          exact ih _ _ _ _ _ _ hf hw (lv_sub hl [3, 2, 1, 0] rfl)
      refine L56 _ (fun v42 v43 _ H locs ls hf hw hl => ?_) N v35 (0 : Int32) (0 : Int32) _ _ _ hf hw (lv_sub hl [3, 2, 1, 0] rfl)
      refine lv_iconst (v := 0) hx hb dX7_bitsOf_87 (by decide) ?_
      refine lv_istore (lv' := [(5, .int (0 : Int32)), (1, .int (-2147483648 : Int32)), (2, .double v42), (4, .int v43)]) hx hb dX7_bitsOf_88 hl (by decide) rfl (fun ls hl => ?_)
      have L90 : ∀ (K : UInt64 → Int32 → Int32 → Option (Int32)) (hkk : ∀ (y2 : UInt64) (y4 : Int32) (y5 : Int32) (H : Heap) (locs : List Loc) (ls : Array Slot), K y2 y4 y5 = some r → Sit Γ σ s H locs → lv_has ls 6 [(1, .int (-2147483648 : Int32)), (2, .double y2), (4, .int y4)] → W p l e { frames := 1, cells := 0, slots := 0, locals := 20 } s m [.float x1].toArray below meth c H locs 0 0 (MQ below (Qg Γ (some (.int r)) σ (AA Γ s.heap.size)) [.float x1].toArray s 0 0 (AA Γ s.heap.size)) (F0 m 119 ls [])) (n : Nat) (v44 : UInt64) (v45 : Int32) (v46 : Int32) (H : Heap) (locs : List Loc) (ls : Array Slot), fX7_bitsOf_L90_6 K N n v44 v45 v46 = some r → Sit Γ σ s H locs → lv_has ls 6 [(1, .int (-2147483648 : Int32)), (2, .double v44), (4, .int v45), (5, .int v46)] → W p l e { frames := 1, cells := 0, slots := 0, locals := 20 } s m [.float x1].toArray below meth c H locs 0 0 (MQ below (Qg Γ (some (.int r)) σ (AA Γ s.heap.size)) [.float x1].toArray s 0 0 (AA Γ s.heap.size)) (F0 m 90 ls []) := by
        intro K hkk n
        induction n with
        | zero =>
          intro _ _ _ _ _ _ hf
          exact nomatch hf
        | succ n ih =>
          intro v44 v45 v46 H locs ls hf hw hl
          refine lv_iload hx hb dX7_bitsOf_90 (lv_at hl 3 rfl) ?_
          refine lv_sipush (v := 149) hx hb dX7_bitsOf_92 (by decide) ?_
          refine q_ic_ge (tgt := 119) hx hb hf dX7_bitsOf_95 (by decide) (fun hf => ?_) (fun hf => ?_)
          · exact hkk _ _ _ _ _ _ hf hw (lv_sub hl [0, 1, 2] rfl)
          refine lv_dload_n hx hb dX7_bitsOf_98 rfl (lv_at hl 1 rfl) ?_
          refine lv_dconst1 hx hb dX7_bitsOf_99 ?_
          refine lv_dcmp hx hb dX7_bitsOf_100 ?_
          refine q_if_ge (tgt := 119) hx hb hf dX7_bitsOf_101 (by decide) (fun hf => ?_) (fun hf => ?_)
          · exact hkk _ _ _ _ _ _ hf hw (lv_sub hl [0, 1, 2] rfl)
          refine lv_dload_n hx hb dX7_bitsOf_104 rfl (lv_at hl 1 rfl) ?_
          refine lv_ldc2d (v := 4611686018427387904) hx hb hown (kw_at hK.2.2.2.2.1 1014 (by decide +kernel) rfl) dX7_bitsOf_105 ?_
          refine q_dmul hx hb hf dX7_bitsOf_108 (fun hf => ?_)
          refine q_dstore_n (lv1 := [(1, .int (-2147483648 : Int32)), (4, .int v45), (5, .int v46)]) hx hb hf dX7_bitsOf_109 rfl hl (by decide) rfl (fun v47 ls hf hl => ?_)
          refine q_iinc (lv1 := [(2, .double v47), (1, .int (-2147483648 : Int32)), (5, .int v46)]) (d := (-1)) hx hb hf dX7_bitsOf_110 hl (k := 2) rfl (by decide) (by decide) rfl (fun v48 ls hf hl => ?_)
          refine q_iinc (lv1 := [(4, .int v48), (2, .double v47), (1, .int (-2147483648 : Int32))]) (d := 1) hx hb hf dX7_bitsOf_113 hl (k := 3) rfl (by decide) (by decide) rfl (fun v49 ls hf hl => ?_)
          refine lv_goto (tgt := 90) hx hb dX7_bitsOf_116 (by decide) ?_
          exact ih _ _ _ _ _ _ hf hw (lv_sub hl [3, 2, 1, 0] rfl)
      refine L90 _ (fun v50 v51 _ H locs ls hf hw hl => ?_) N v42 v43 (0 : Int32) _ _ _ hf hw (lv_sub hl [1, 2, 3, 0] rfl)
      refine lv_iload hx hb dX7_bitsOf_119 (lv_at hl 2 rfl) ?_
      refine lv_bipush (v := (-126)) hx hb dX7_bitsOf_121 (by decide) ?_
      refine q_ic_ge (tgt := 141) hx hb hf dX7_bitsOf_123 (by decide) (fun hf => ?_) (fun hf => ?_)
      · refine lv_iload_n hx hb dX7_bitsOf_141 rfl (lv_at hl 0 rfl) ?_
        refine lv_iload hx hb dX7_bitsOf_142 (lv_at hl 2 rfl) ?_
        refine lv_bipush (v := 127) hx hb dX7_bitsOf_144 (by decide) ?_
        refine lv_iadd hx hb dX7_bitsOf_146 ?_
        refine lv_bipush (v := 23) hx hb dX7_bitsOf_147 (by decide) ?_
        refine lv_ishl hx hb dX7_bitsOf_149 ?_
        refine lv_ior hx hb dX7_bitsOf_150 ?_
        refine lv_dload_n hx hb dX7_bitsOf_151 rfl (lv_at hl 1 rfl) ?_
        refine lv_dconst1 hx hb dX7_bitsOf_152 ?_
        refine q_dsub hx hb hf dX7_bitsOf_153 (fun hf => ?_)
        refine lv_ldc2d (v := 4710765210229538816) hx hb hown (kw_at hK.2.2.2.2.1 1015 (by decide +kernel) rfl) dX7_bitsOf_154 ?_
        refine q_dmul hx hb hf dX7_bitsOf_157 (fun hf => ?_)
        refine lv_d2i hx hb dX7_bitsOf_158 ?_
        refine lv_ior hx hb dX7_bitsOf_159 ?_
        exact q_iret hf hx hb hr rfl hk hw dX7_bitsOf_160 (Nat.le_of_ble_eq_true rfl) (Nat.le_of_ble_eq_true rfl)
      refine lv_iload_n hx hb dX7_bitsOf_126 rfl (lv_at hl 0 rfl) ?_
      refine lv_dload_n hx hb dX7_bitsOf_127 rfl (lv_at hl 1 rfl) ?_
      refine lv_iconst (v := 1) hx hb dX7_bitsOf_128 (by decide) ?_
      refine lv_iload hx hb dX7_bitsOf_129 (lv_at hl 2 rfl) ?_
      refine lv_sipush (v := 149) hx hb dX7_bitsOf_131 (by decide) ?_
      refine lv_iadd hx hb dX7_bitsOf_134 ?_
      refine lv_ishl hx hb dX7_bitsOf_135 ?_
      refine lv_i2d hx hb dX7_bitsOf_136 ?_
      refine q_dmul hx hb hf dX7_bitsOf_137 (fun hf => ?_)
      refine lv_d2i hx hb dX7_bitsOf_138 ?_
      refine lv_ior hx hb dX7_bitsOf_139 ?_
      exact q_iret hf hx hb hr rfl hk hw dX7_bitsOf_140 (Nat.le_of_ble_eq_true rfl) (Nat.le_of_ble_eq_true rfl)
    refine lv_fload_n hx hb dX7_bitsOf_41 rfl (lv_at hl 1 rfl) ?_
    refine q_f2d hx hb hf dX7_bitsOf_42 (fun hf => ?_)
    refine lv_dneg hx hb dX7_bitsOf_43 ?_
    refine lv_goto (tgt := 49) hx hb dX7_bitsOf_44 (by decide) ?_
    refine q_dstore_n (lv1 := [(1, .int (-2147483648 : Int32)), (0, .float x1)]) hx hb hf dX7_bitsOf_49 rfl hl (by decide) rfl (fun v52 ls hf hl => ?_)
    refine lv_iconst (v := 0) hx hb dX7_bitsOf_50 (by decide) ?_
    refine lv_istore (lv' := [(4, .int (0 : Int32)), (2, .double v52), (1, .int (-2147483648 : Int32)), (0, .float x1)]) hx hb dX7_bitsOf_51 hl (by decide) rfl (fun ls hl => ?_)
    refine lv_iconst (v := 0) hx hb dX7_bitsOf_53 (by decide) ?_
    refine lv_istore (lv' := [(5, .int (0 : Int32)), (4, .int (0 : Int32)), (2, .double v52), (1, .int (-2147483648 : Int32)), (0, .float x1)]) hx hb dX7_bitsOf_54 hl (by decide) rfl (fun ls hl => ?_)
    have L56 : ∀ (K : UInt64 → Int32 → Int32 → Option (Int32)) (hkk : ∀ (y2 : UInt64) (y4 : Int32) (y5 : Int32) (H : Heap) (locs : List Loc) (ls : Array Slot), K y2 y4 y5 = some r → Sit Γ σ s H locs → lv_has ls 6 [(1, .int (-2147483648 : Int32)), (2, .double y2), (4, .int y4)] → W p l e { frames := 1, cells := 0, slots := 0, locals := 20 } s m [.float x1].toArray below meth c H locs 0 0 (MQ below (Qg Γ (some (.int r)) σ (AA Γ s.heap.size)) [.float x1].toArray s 0 0 (AA Γ s.heap.size)) (F0 m 87 ls [])) (n : Nat) (v53 : UInt64) (v54 : Int32) (v55 : Int32) (H : Heap) (locs : List Loc) (ls : Array Slot), fX7_bitsOf_L56_7 K N n v53 v54 v55 = some r → Sit Γ σ s H locs → lv_has ls 6 [(1, .int (-2147483648 : Int32)), (2, .double v53), (4, .int v54), (5, .int v55)] → W p l e { frames := 1, cells := 0, slots := 0, locals := 20 } s m [.float x1].toArray below meth c H locs 0 0 (MQ below (Qg Γ (some (.int r)) σ (AA Γ s.heap.size)) [.float x1].toArray s 0 0 (AA Γ s.heap.size)) (F0 m 56 ls []) := by
      intro K hkk n
      induction n with
      | zero =>
        intro _ _ _ _ _ _ hf
        exact nomatch hf
      | succ n ih =>
        intro v53 v54 v55 H locs ls hf hw hl
        refine lv_iload hx hb dX7_bitsOf_56 (lv_at hl 3 rfl) ?_
        refine lv_sipush (v := 128) hx hb dX7_bitsOf_58 (by decide) ?_
        refine q_ic_ge (tgt := 87) hx hb hf dX7_bitsOf_61 (by decide) (fun hf => ?_) (fun hf => ?_)
        · exact hkk _ _ _ _ _ _ hf hw (lv_sub hl [0, 1, 2] rfl)
        refine lv_dload_n hx hb dX7_bitsOf_64 rfl (lv_at hl 1 rfl) ?_
        refine lv_ldc2d (v := 4611686018427387904) hx hb hown (kw_at hK.2.2.2.2.1 1014 (by decide +kernel) rfl) dX7_bitsOf_65 ?_
        refine lv_dcmp hx hb dX7_bitsOf_68 ?_
        refine q_if_lt (tgt := 87) hx hb hf dX7_bitsOf_69 (by decide) (fun hf => ?_) (fun hf => ?_)
        · exact hkk _ _ _ _ _ _ hf hw (lv_sub hl [0, 1, 2] rfl)
        refine lv_dload_n hx hb dX7_bitsOf_72 rfl (lv_at hl 1 rfl) ?_
        refine lv_ldc2d (v := 4611686018427387904) hx hb hown (kw_at hK.2.2.2.2.1 1014 (by decide +kernel) rfl) dX7_bitsOf_73 ?_
        refine q_ddiv hx hb hf dX7_bitsOf_76 (fun hf => ?_)
        refine q_dstore_n (lv1 := [(1, .int (-2147483648 : Int32)), (4, .int v54), (5, .int v55)]) hx hb hf dX7_bitsOf_77 rfl hl (by decide) rfl (fun v56 ls hf hl => ?_)
        refine q_iinc (lv1 := [(2, .double v56), (1, .int (-2147483648 : Int32)), (5, .int v55)]) (d := 1) hx hb hf dX7_bitsOf_78 hl (k := 2) rfl (by decide) (by decide) rfl (fun v57 ls hf hl => ?_)
        refine q_iinc (lv1 := [(4, .int v57), (2, .double v56), (1, .int (-2147483648 : Int32))]) (d := 1) hx hb hf dX7_bitsOf_81 hl (k := 3) rfl (by decide) (by decide) rfl (fun v58 ls hf hl => ?_)
        refine lv_goto (tgt := 56) hx hb dX7_bitsOf_84 (by decide) ?_
        exact ih _ _ _ _ _ _ hf hw (lv_sub hl [3, 2, 1, 0] rfl)
    refine L56 _ (fun v59 v60 _ H locs ls hf hw hl => ?_) N v52 (0 : Int32) (0 : Int32) _ _ _ hf hw (lv_sub hl [3, 2, 1, 0] rfl)
    refine lv_iconst (v := 0) hx hb dX7_bitsOf_87 (by decide) ?_
    refine lv_istore (lv' := [(5, .int (0 : Int32)), (1, .int (-2147483648 : Int32)), (2, .double v59), (4, .int v60)]) hx hb dX7_bitsOf_88 hl (by decide) rfl (fun ls hl => ?_)
    have L90 : ∀ (K : UInt64 → Int32 → Int32 → Option (Int32)) (hkk : ∀ (y2 : UInt64) (y4 : Int32) (y5 : Int32) (H : Heap) (locs : List Loc) (ls : Array Slot), K y2 y4 y5 = some r → Sit Γ σ s H locs → lv_has ls 6 [(1, .int (-2147483648 : Int32)), (2, .double y2), (4, .int y4)] → W p l e { frames := 1, cells := 0, slots := 0, locals := 20 } s m [.float x1].toArray below meth c H locs 0 0 (MQ below (Qg Γ (some (.int r)) σ (AA Γ s.heap.size)) [.float x1].toArray s 0 0 (AA Γ s.heap.size)) (F0 m 119 ls [])) (n : Nat) (v61 : UInt64) (v62 : Int32) (v63 : Int32) (H : Heap) (locs : List Loc) (ls : Array Slot), fX7_bitsOf_L90_8 K N n v61 v62 v63 = some r → Sit Γ σ s H locs → lv_has ls 6 [(1, .int (-2147483648 : Int32)), (2, .double v61), (4, .int v62), (5, .int v63)] → W p l e { frames := 1, cells := 0, slots := 0, locals := 20 } s m [.float x1].toArray below meth c H locs 0 0 (MQ below (Qg Γ (some (.int r)) σ (AA Γ s.heap.size)) [.float x1].toArray s 0 0 (AA Γ s.heap.size)) (F0 m 90 ls []) := by
      intro K hkk n
      induction n with
      | zero =>
        intro _ _ _ _ _ _ hf
        exact nomatch hf
      | succ n ih =>
        intro v61 v62 v63 H locs ls hf hw hl
        refine lv_iload hx hb dX7_bitsOf_90 (lv_at hl 3 rfl) ?_
        refine lv_sipush (v := 149) hx hb dX7_bitsOf_92 (by decide) ?_
        refine q_ic_ge (tgt := 119) hx hb hf dX7_bitsOf_95 (by decide) (fun hf => ?_) (fun hf => ?_)
        · exact hkk _ _ _ _ _ _ hf hw (lv_sub hl [0, 1, 2] rfl)
        refine lv_dload_n hx hb dX7_bitsOf_98 rfl (lv_at hl 1 rfl) ?_
        refine lv_dconst1 hx hb dX7_bitsOf_99 ?_
        refine lv_dcmp hx hb dX7_bitsOf_100 ?_
        refine q_if_ge (tgt := 119) hx hb hf dX7_bitsOf_101 (by decide) (fun hf => ?_) (fun hf => ?_)
        · exact hkk _ _ _ _ _ _ hf hw (lv_sub hl [0, 1, 2] rfl)
        refine lv_dload_n hx hb dX7_bitsOf_104 rfl (lv_at hl 1 rfl) ?_
        refine lv_ldc2d (v := 4611686018427387904) hx hb hown (kw_at hK.2.2.2.2.1 1014 (by decide +kernel) rfl) dX7_bitsOf_105 ?_
        refine q_dmul hx hb hf dX7_bitsOf_108 (fun hf => ?_)
        refine q_dstore_n (lv1 := [(1, .int (-2147483648 : Int32)), (4, .int v62), (5, .int v63)]) hx hb hf dX7_bitsOf_109 rfl hl (by decide) rfl (fun v64 ls hf hl => ?_)
        refine q_iinc (lv1 := [(2, .double v64), (1, .int (-2147483648 : Int32)), (5, .int v63)]) (d := (-1)) hx hb hf dX7_bitsOf_110 hl (k := 2) rfl (by decide) (by decide) rfl (fun v65 ls hf hl => ?_)
        refine q_iinc (lv1 := [(4, .int v65), (2, .double v64), (1, .int (-2147483648 : Int32))]) (d := 1) hx hb hf dX7_bitsOf_113 hl (k := 3) rfl (by decide) (by decide) rfl (fun v66 ls hf hl => ?_)
        refine lv_goto (tgt := 90) hx hb dX7_bitsOf_116 (by decide) ?_
        exact ih _ _ _ _ _ _ hf hw (lv_sub hl [3, 2, 1, 0] rfl)
    refine L90 _ (fun v67 v68 _ H locs ls hf hw hl => ?_) N v59 v60 (0 : Int32) _ _ _ hf hw (lv_sub hl [1, 2, 3, 0] rfl)
    refine lv_iload hx hb dX7_bitsOf_119 (lv_at hl 2 rfl) ?_
    refine lv_bipush (v := (-126)) hx hb dX7_bitsOf_121 (by decide) ?_
    refine q_ic_ge (tgt := 141) hx hb hf dX7_bitsOf_123 (by decide) (fun hf => ?_) (fun hf => ?_)
    · refine lv_iload_n hx hb dX7_bitsOf_141 rfl (lv_at hl 0 rfl) ?_
      refine lv_iload hx hb dX7_bitsOf_142 (lv_at hl 2 rfl) ?_
      refine lv_bipush (v := 127) hx hb dX7_bitsOf_144 (by decide) ?_
      refine lv_iadd hx hb dX7_bitsOf_146 ?_
      refine lv_bipush (v := 23) hx hb dX7_bitsOf_147 (by decide) ?_
      refine lv_ishl hx hb dX7_bitsOf_149 ?_
      refine lv_ior hx hb dX7_bitsOf_150 ?_
      refine lv_dload_n hx hb dX7_bitsOf_151 rfl (lv_at hl 1 rfl) ?_
      refine lv_dconst1 hx hb dX7_bitsOf_152 ?_
      refine q_dsub hx hb hf dX7_bitsOf_153 (fun hf => ?_)
      refine lv_ldc2d (v := 4710765210229538816) hx hb hown (kw_at hK.2.2.2.2.1 1015 (by decide +kernel) rfl) dX7_bitsOf_154 ?_
      refine q_dmul hx hb hf dX7_bitsOf_157 (fun hf => ?_)
      refine lv_d2i hx hb dX7_bitsOf_158 ?_
      refine lv_ior hx hb dX7_bitsOf_159 ?_
      exact q_iret hf hx hb hr rfl hk hw dX7_bitsOf_160 (Nat.le_of_ble_eq_true rfl) (Nat.le_of_ble_eq_true rfl)
    refine lv_iload_n hx hb dX7_bitsOf_126 rfl (lv_at hl 0 rfl) ?_
    refine lv_dload_n hx hb dX7_bitsOf_127 rfl (lv_at hl 1 rfl) ?_
    refine lv_iconst (v := 1) hx hb dX7_bitsOf_128 (by decide) ?_
    refine lv_iload hx hb dX7_bitsOf_129 (lv_at hl 2 rfl) ?_
    refine lv_sipush (v := 149) hx hb dX7_bitsOf_131 (by decide) ?_
    refine lv_iadd hx hb dX7_bitsOf_134 ?_
    refine lv_ishl hx hb dX7_bitsOf_135 ?_
    refine lv_i2d hx hb dX7_bitsOf_136 ?_
    refine q_dmul hx hb hf dX7_bitsOf_137 (fun hf => ?_)
    refine lv_d2i hx hb dX7_bitsOf_138 ?_
    refine lv_ior hx hb dX7_bitsOf_139 ?_
    exact q_iret hf hx hb hr rfl hk hw dX7_bitsOf_140 (Nat.le_of_ble_eq_true rfl) (Nat.le_of_ble_eq_true rfl)
  refine lv_fload_n hx hb dX7_bitsOf_6 rfl (lv_at hl 0 rfl) ?_
  refine q_pI hf hw (fun v h => q_rS (As := [.float x1]) (rest := []) X hK hw (kX7_isNegativeZero h) msX7_isNegativeZero lk_X7_393 ⟨Nat.le_of_ble_eq_true rfl, Nat.le_of_ble_eq_true rfl⟩ rfl hl.1 rfl (Nat.le_of_ble_eq_true rfl) dX7_bitsOf_7 ⟨Nat.le_of_ble_eq_true rfl, Nat.le_of_ble_eq_true rfl⟩) (fun v69 H locs hf hw => ?_)
  refine q_if_eq (tgt := 19) hx hb hf dX7_bitsOf_10 (by decide) (fun hf => ?_) (fun hf => ?_)
  · refine lv_iconst (v := 0) hx hb dX7_bitsOf_19 (by decide) ?_
    exact q_iret hf hx hb hr rfl hk hw dX7_bitsOf_20 (Nat.le_of_ble_eq_true rfl) (Nat.le_of_ble_eq_true rfl)
  refine lv_ldcw (v := -2147483648) hx hb hown (kw_at hK.2.2.2.2.1 1013 (by decide +kernel) rfl) dX7_bitsOf_13 ?_
  refine lv_goto (tgt := 20) hx hb dX7_bitsOf_16 (by decide) ?_
  exact q_iret hf hx hb hr rfl hk hw dX7_bitsOf_20 (Nat.le_of_ble_eq_true rfl) (Nat.le_of_ble_eq_true rfl)
set_option maxRecDepth 100000 in
theorem kX6_topOn {Γ : Gm} {S : List (String × Nat × String)} {l : Launch} {N : Nat} {σ : St} {o : Nat} {x1 : Int32} {x2 : Int32} {r : Int32} (ho : o < 4) (hf : fX6_topOn N σ o x1 x2 = some r) : CT Γ S l yX6_topOn cX6_topOn 5 (some (.int)) 3 68 0 0 [.ref (ga Γ 7 o), .int x1, .int x2] (some (.int r)) σ σ := by
  unfold fX6_topOn at hf
  refine ct_body (lv := [(0, .ref (ga Γ 7 o)), (1, .int x1), (2, .int x2)]) (by decide +kernel) rfl (Nat.le_of_ble_eq_true rfl) ?_
  intro p e s m below meth c ls X hr hk hK hw hl
  have hx := X.1
  have hb := X.2.1
  have hown := X.2.2.2
  refine lv_iconst (v := (-1)) hx hb dX6_topOn_0 (by decide) ?_
  refine q_istore_n (lv1 := [(0, .ref (ga Γ 7 o)), (1, .int x1), (2, .int x2)]) hx hb hf dX6_topOn_1 rfl hl (by decide) rfl (fun v1 ls hf hl => ?_)
  refine lv_iconst (v := 0) hx hb dX6_topOn_2 (by decide) ?_
  refine lv_istore (lv' := [(4, .int (0 : Int32)), (3, .int v1), (0, .ref (ga Γ 7 o)), (1, .int x1), (2, .int x2)]) hx hb dX6_topOn_3 hl (by decide) rfl (fun ls hl => ?_)
  have L5 : ∀ (K : Int32 → Int32 → Option (Int32)) (hkk : ∀ (y3 : Int32) (y4 : Int32) (H : Heap) (locs : List Loc) (ls : Array Slot), K y3 y4 = some r → Sit Γ σ s H locs → lv_has ls 5 [(3, .int y3)] → W p l e { frames := 3, cells := 0, slots := 0, locals := 68 } s m [.ref (ga Γ 7 o), .int x1, .int x2].toArray below meth c H locs 0 0 (MQ below (Qg Γ (some (.int r)) σ (AA Γ s.heap.size)) [.ref (ga Γ 7 o), .int x1, .int x2].toArray s 0 0 (AA Γ s.heap.size)) (F0 m 68 ls [])) (n : Nat) (v2 : Int32) (v3 : Int32) (H : Heap) (locs : List Loc) (ls : Array Slot), fX6_topOn_L5 K N σ o x1 x2 n v2 v3 = some r → Sit Γ σ s H locs → lv_has ls 5 [(0, .ref (ga Γ 7 o)), (1, .int x1), (2, .int x2), (3, .int v2), (4, .int v3)] → W p l e { frames := 3, cells := 0, slots := 0, locals := 68 } s m [.ref (ga Γ 7 o), .int x1, .int x2].toArray below meth c H locs 0 0 (MQ below (Qg Γ (some (.int r)) σ (AA Γ s.heap.size)) [.ref (ga Γ 7 o), .int x1, .int x2].toArray s 0 0 (AA Γ s.heap.size)) (F0 m 5 ls []) := by
    intro K hkk n
    induction n with
    | zero =>
      intro _ _ _ _ _ hf
      exact nomatch hf
    | succ n ih =>
      intro v2 v3 H locs ls hf hw hl
      refine lv_iload hx hb dX6_topOn_5 (lv_at hl 4 rfl) ?_
      refine lv_bipush (v := 12) hx hb dX6_topOn_7 (by decide) ?_
      refine q_ic_ge (tgt := 68) hx hb hf dX6_topOn_9 (by decide) (fun hf => ?_) (fun hf => ?_)
      · exact hkk _ _ _ _ _ hf hw (lv_sub hl [3] rfl)
      refine lv_aload_n hx hb dX6_topOn_12 rfl (lv_at hl 0 rfl) ?_
      refine lv_iload hx hb dX6_topOn_13 (lv_at hl 4 rfl) ?_
      refine q_pI hf hw (fun v h => q_rV (As := [.int v3]) (rest := []) (q := (RX6, TX6, 2)) X hK hw rfl ho (rfl : vwCl[8]? = _) (kX6_isSeen ho h) mvX6_isSeen lk_X6_31 ⟨Nat.le_of_ble_eq_true rfl, Nat.le_of_ble_eq_true rfl⟩ rfl hl.1 rfl (Nat.le_of_ble_eq_true rfl) dX6_topOn_15 ⟨Nat.le_of_ble_eq_true rfl, Nat.le_of_ble_eq_true rfl⟩) (fun v4 H locs hf hw => ?_)
      refine q_if_eq (tgt := 62) hx hb hf dX6_topOn_18 (by decide) (fun hf => ?_) (fun hf => ?_)
      · refine q_iinc (lv1 := [(0, .ref (ga Γ 7 o)), (1, .int x1), (2, .int x2), (3, .int v2)]) (d := 1) hx hb hf dX6_topOn_62 hl (k := 4) rfl (by decide) (by decide) rfl (fun v5 ls hf hl => ?_)
        refine lv_goto (tgt := 5) hx hb dX6_topOn_65 (by decide) ?_
        exact ih _ _ _ _ _ hf hw (lv_sub hl [1, 2, 3, 4, 0] rfl)
      refine lv_aload_n hx hb dX6_topOn_21 rfl (lv_at hl 0 rfl) ?_
      refine q_get (v := .ref (ga Γ 2 0)) hx hb hK hw hown in_X6 ins_X6 (rfl : vwCl[8]? = some (RX6, TX6, 2)) rfl ho 1 (by decide) 220 fl_X6_15 rfl rfl dX6_topOn_22 ?_
      refine lv_iload hx hb dX6_topOn_25 (lv_at hl 4 rfl) ?_
      refine q_pI hf hw (fun v h => q_rV (As := [.int v3]) (rest := []) (q := (RX2, TX2, 9)) X hK hw rfl (Nat.le_of_ble_eq_true rfl : 0 < cnt (gn Γ) 2) (rfl : vwCl[4]? = _) (kX2_isFrameAt h) mvX2_isFrameAt lk_X6_34 ⟨Nat.le_of_ble_eq_true rfl, Nat.le_of_ble_eq_true rfl⟩ rfl hl.1 rfl (Nat.le_of_ble_eq_true rfl) dX6_topOn_27 ⟨Nat.le_of_ble_eq_true rfl, Nat.le_of_ble_eq_true rfl⟩) (fun v6 H locs hf hw => ?_)
      refine q_if_ne (tgt := 62) hx hb hf dX6_topOn_30 (by decide) (fun hf => ?_) (fun hf => ?_)
      · refine q_iinc (lv1 := [(0, .ref (ga Γ 7 o)), (1, .int x1), (2, .int x2), (3, .int v2)]) (d := 1) hx hb hf dX6_topOn_62 hl (k := 4) rfl (by decide) (by decide) rfl (fun v7 ls hf hl => ?_)
        refine lv_goto (tgt := 5) hx hb dX6_topOn_65 (by decide) ?_
        exact ih _ _ _ _ _ hf hw (lv_sub hl [1, 2, 3, 4, 0] rfl)
      refine lv_aload_n hx hb dX6_topOn_33 rfl (lv_at hl 0 rfl) ?_
      refine lv_iload hx hb dX6_topOn_34 (lv_at hl 4 rfl) ?_
      refine lv_iload_n hx hb dX6_topOn_36 rfl (lv_at hl 1 rfl) ?_
      refine lv_iload_n hx hb dX6_topOn_37 rfl (lv_at hl 2 rfl) ?_
      refine q_pI hf hw (fun v h => q_rV (As := [.int v3, .int x1, .int x2]) (rest := []) (q := (RX6, TX6, 2)) X hK hw rfl ho (rfl : vwCl[8]? = _) (kX6_isOver ho h) mvX6_isOver lk_X6_67 ⟨Nat.le_of_ble_eq_true rfl, Nat.le_of_ble_eq_true rfl⟩ rfl hl.1 rfl (Nat.le_of_ble_eq_true rfl) dX6_topOn_38 ⟨Nat.le_of_ble_eq_true rfl, Nat.le_of_ble_eq_true rfl⟩) (fun v8 H locs hf hw => ?_)
      refine q_if_eq (tgt := 62) hx hb hf dX6_topOn_41 (by decide) (fun hf => ?_) (fun hf => ?_)
      · refine q_iinc (lv1 := [(0, .ref (ga Γ 7 o)), (1, .int x1), (2, .int x2), (3, .int v2)]) (d := 1) hx hb hf dX6_topOn_62 hl (k := 4) rfl (by decide) (by decide) rfl (fun v9 ls hf hl => ?_)
        refine lv_goto (tgt := 5) hx hb dX6_topOn_65 (by decide) ?_
        exact ih _ _ _ _ _ hf hw (lv_sub hl [1, 2, 3, 4, 0] rfl)
      refine lv_iload_n hx hb dX6_topOn_44 rfl (lv_at hl 3 rfl) ?_
      refine lv_iconst (v := (-1)) hx hb dX6_topOn_45 (by decide) ?_
      refine q_ic_eq (tgt := 59) hx hb hf dX6_topOn_46 (by decide) (fun hf => ?_) (fun hf => ?_)
      · refine lv_iload hx hb dX6_topOn_59 (lv_at hl 4 rfl) ?_
        refine lv_istore_n (lv' := [(3, .int v3), (0, .ref (ga Γ 7 o)), (1, .int x1), (2, .int x2), (4, .int v3)]) hx hb dX6_topOn_61 rfl hl (by decide) rfl (fun ls hl => ?_)
        refine q_iinc (lv1 := [(3, .int v3), (0, .ref (ga Γ 7 o)), (1, .int x1), (2, .int x2)]) (d := 1) hx hb hf dX6_topOn_62 hl (k := 4) rfl (by decide) (by decide) rfl (fun v10 ls hf hl => ?_)
        refine lv_goto (tgt := 5) hx hb dX6_topOn_65 (by decide) ?_
        exact ih _ _ _ _ _ hf hw (lv_sub hl [2, 3, 4, 1, 0] rfl)
      refine lv_aload_n hx hb dX6_topOn_49 rfl (lv_at hl 0 rfl) ?_
      refine lv_iload_n hx hb dX6_topOn_50 rfl (lv_at hl 3 rfl) ?_
      refine lv_iload hx hb dX6_topOn_51 (lv_at hl 4 rfl) ?_
      refine q_pI hf hw (fun v h => q_rV (As := [.int v2, .int v3]) (rest := []) (q := (RX6, TX6, 2)) X hK hw rfl ho (rfl : vwCl[8]? = _) (kX6_isBelow ho h) mvX6_isBelow lk_X6_54 ⟨Nat.le_of_ble_eq_true rfl, Nat.le_of_ble_eq_true rfl⟩ rfl hl.1 rfl (Nat.le_of_ble_eq_true rfl) dX6_topOn_53 ⟨Nat.le_of_ble_eq_true rfl, Nat.le_of_ble_eq_true rfl⟩) (fun v11 H locs hf hw => ?_)
      refine q_if_eq (tgt := 62) hx hb hf dX6_topOn_56 (by decide) (fun hf => ?_) (fun hf => ?_)
      · refine q_iinc (lv1 := [(0, .ref (ga Γ 7 o)), (1, .int x1), (2, .int x2), (3, .int v2)]) (d := 1) hx hb hf dX6_topOn_62 hl (k := 4) rfl (by decide) (by decide) rfl (fun v12 ls hf hl => ?_)
        refine lv_goto (tgt := 5) hx hb dX6_topOn_65 (by decide) ?_
        exact ih _ _ _ _ _ hf hw (lv_sub hl [1, 2, 3, 4, 0] rfl)
      refine lv_iload hx hb dX6_topOn_59 (lv_at hl 4 rfl) ?_
      refine lv_istore_n (lv' := [(3, .int v3), (0, .ref (ga Γ 7 o)), (1, .int x1), (2, .int x2), (4, .int v3)]) hx hb dX6_topOn_61 rfl hl (by decide) rfl (fun ls hl => ?_)
      refine q_iinc (lv1 := [(3, .int v3), (0, .ref (ga Γ 7 o)), (1, .int x1), (2, .int x2)]) (d := 1) hx hb hf dX6_topOn_62 hl (k := 4) rfl (by decide) (by decide) rfl (fun v13 ls hf hl => ?_)
      refine lv_goto (tgt := 5) hx hb dX6_topOn_65 (by decide) ?_
      exact ih _ _ _ _ _ hf hw (lv_sub hl [2, 3, 4, 1, 0] rfl)
  refine L5 _ (fun v14 _ H locs ls hf hw hl => ?_) N v1 (0 : Int32) _ _ _ hf hw (lv_sub hl [2, 3, 4, 1, 0] rfl)
  refine lv_iload_n hx hb dX6_topOn_68 rfl (lv_at hl 0 rfl) ?_
  exact q_iret hf hx hb hr rfl hk hw dX6_topOn_69 (Nat.le_of_ble_eq_true rfl) (Nat.le_of_ble_eq_true rfl)
set_option maxRecDepth 100000 in
theorem kX6_countCovered {Γ : Gm} {S : List (String × Nat × String)} {l : Launch} {N : Nat} {σ : St} {o : Nat} {x1 : Int32} {r : Int32} (ho : o < 4) (hf : fX6_countCovered N σ o x1 = some r) : CT Γ S l yX6_countCovered cX6_countCovered 4 (some (.int)) 4 92 0 0 [.ref (ga Γ 7 o), .int x1] (some (.int r)) σ σ := by
  unfold fX6_countCovered at hf
  refine ct_body (lv := [(0, .ref (ga Γ 7 o)), (1, .int x1)]) (by decide +kernel) rfl (Nat.le_of_ble_eq_true rfl) ?_
  intro p e s m below meth c ls X hr hk hK hw hl
  have hx := X.1
  have hb := X.2.1
  have hown := X.2.2.2
  refine lv_iconst (v := 0) hx hb dX6_countCovered_0 (by decide) ?_
  refine lv_istore_n (lv' := [(2, .int (0 : Int32)), (0, .ref (ga Γ 7 o)), (1, .int x1)]) hx hb dX6_countCovered_1 rfl hl (by decide) rfl (fun ls hl => ?_)
  refine lv_iconst (v := 0) hx hb dX6_countCovered_2 (by decide) ?_
  refine lv_istore_n (lv' := [(3, .int (0 : Int32)), (2, .int (0 : Int32)), (0, .ref (ga Γ 7 o)), (1, .int x1)]) hx hb dX6_countCovered_3 rfl hl (by decide) rfl (fun ls hl => ?_)
  have L4 : ∀ (K : Int32 → Int32 → Option (Int32)) (hkk : ∀ (y2 : Int32) (y3 : Int32) (H : Heap) (locs : List Loc) (ls : Array Slot), K y2 y3 = some r → Sit Γ σ s H locs → lv_has ls 4 [(2, .int y2)] → W p l e { frames := 4, cells := 0, slots := 0, locals := 92 } s m [.ref (ga Γ 7 o), .int x1].toArray below meth c H locs 0 0 (MQ below (Qg Γ (some (.int r)) σ (AA Γ s.heap.size)) [.ref (ga Γ 7 o), .int x1].toArray s 0 0 (AA Γ s.heap.size)) (F0 m 41 ls [])) (n : Nat) (v1 : Int32) (v2 : Int32) (H : Heap) (locs : List Loc) (ls : Array Slot), fX6_countCovered_L4 K N σ o x1 n v1 v2 = some r → Sit Γ σ s H locs → lv_has ls 4 [(0, .ref (ga Γ 7 o)), (1, .int x1), (2, .int v1), (3, .int v2)] → W p l e { frames := 4, cells := 0, slots := 0, locals := 92 } s m [.ref (ga Γ 7 o), .int x1].toArray below meth c H locs 0 0 (MQ below (Qg Γ (some (.int r)) σ (AA Γ s.heap.size)) [.ref (ga Γ 7 o), .int x1].toArray s 0 0 (AA Γ s.heap.size)) (F0 m 4 ls []) := by
    intro K hkk n
    induction n with
    | zero =>
      intro _ _ _ _ _ hf
      exact nomatch hf
    | succ n ih =>
      intro v1 v2 H locs ls hf hw hl
      refine lv_iload_n hx hb dX6_countCovered_4 rfl (lv_at hl 3 rfl) ?_
      refine lv_bipush (v := 12) hx hb dX6_countCovered_5 (by decide) ?_
      refine q_ic_ge (tgt := 41) hx hb hf dX6_countCovered_7 (by decide) (fun hf => ?_) (fun hf => ?_)
      · exact hkk _ _ _ _ _ hf hw (lv_sub hl [2] rfl)
      refine lv_iload_n hx hb dX6_countCovered_10 rfl (lv_at hl 3 rfl) ?_
      refine lv_iload_n hx hb dX6_countCovered_11 rfl (lv_at hl 1 rfl) ?_
      refine q_ic_eq (tgt := 35) hx hb hf dX6_countCovered_12 (by decide) (fun hf => ?_) (fun hf => ?_)
      · refine q_iinc (lv1 := [(0, .ref (ga Γ 7 o)), (1, .int x1), (2, .int v1)]) (d := 1) hx hb hf dX6_countCovered_35 hl (k := 3) rfl (by decide) (by decide) rfl (fun v3 ls hf hl => ?_)
        refine lv_goto (tgt := 4) hx hb dX6_countCovered_38 (by decide) ?_
        exact ih _ _ _ _ _ hf hw (lv_sub hl [1, 2, 3, 0] rfl)
      refine lv_aload_n hx hb dX6_countCovered_15 rfl (lv_at hl 0 rfl) ?_
      refine lv_iload_n hx hb dX6_countCovered_16 rfl (lv_at hl 3 rfl) ?_
      refine q_pI hf hw (fun v h => q_rV (As := [.int v2]) (rest := []) (q := (RX6, TX6, 2)) X hK hw rfl ho (rfl : vwCl[8]? = _) (kX6_isSeen ho h) mvX6_isSeen lk_X6_31 ⟨Nat.le_of_ble_eq_true rfl, Nat.le_of_ble_eq_true rfl⟩ rfl hl.1 rfl (Nat.le_of_ble_eq_true rfl) dX6_countCovered_17 ⟨Nat.le_of_ble_eq_true rfl, Nat.le_of_ble_eq_true rfl⟩) (fun v4 H locs hf hw => ?_)
      refine q_if_eq (tgt := 35) hx hb hf dX6_countCovered_20 (by decide) (fun hf => ?_) (fun hf => ?_)
      · refine q_iinc (lv1 := [(0, .ref (ga Γ 7 o)), (1, .int x1), (2, .int v1)]) (d := 1) hx hb hf dX6_countCovered_35 hl (k := 3) rfl (by decide) (by decide) rfl (fun v5 ls hf hl => ?_)
        refine lv_goto (tgt := 4) hx hb dX6_countCovered_38 (by decide) ?_
        exact ih _ _ _ _ _ hf hw (lv_sub hl [1, 2, 3, 0] rfl)
      refine lv_aload_n hx hb dX6_countCovered_23 rfl (lv_at hl 0 rfl) ?_
      refine lv_iload_n hx hb dX6_countCovered_24 rfl (lv_at hl 1 rfl) ?_
      refine lv_iload_n hx hb dX6_countCovered_25 rfl (lv_at hl 3 rfl) ?_
      refine q_pI hf hw (fun v h => q_rV (As := [.int x1, .int v2]) (rest := []) (q := (RX6, TX6, 2)) X hK hw rfl ho (rfl : vwCl[8]? = _) (kX6_covers ho h) mvX6_covers lk_X6_71 ⟨Nat.le_of_ble_eq_true rfl, Nat.le_of_ble_eq_true rfl⟩ rfl hl.1 rfl (Nat.le_of_ble_eq_true rfl) dX6_countCovered_26 ⟨Nat.le_of_ble_eq_true rfl, Nat.le_of_ble_eq_true rfl⟩) (fun v6 H locs hf hw => ?_)
      refine q_if_eq (tgt := 35) hx hb hf dX6_countCovered_29 (by decide) (fun hf => ?_) (fun hf => ?_)
      · refine q_iinc (lv1 := [(0, .ref (ga Γ 7 o)), (1, .int x1), (2, .int v1)]) (d := 1) hx hb hf dX6_countCovered_35 hl (k := 3) rfl (by decide) (by decide) rfl (fun v7 ls hf hl => ?_)
        refine lv_goto (tgt := 4) hx hb dX6_countCovered_38 (by decide) ?_
        exact ih _ _ _ _ _ hf hw (lv_sub hl [1, 2, 3, 0] rfl)
      refine q_iinc (lv1 := [(0, .ref (ga Γ 7 o)), (1, .int x1), (3, .int v2)]) (d := 1) hx hb hf dX6_countCovered_32 hl (k := 2) rfl (by decide) (by decide) rfl (fun v8 ls hf hl => ?_)
      refine q_iinc (lv1 := [(2, .int v8), (0, .ref (ga Γ 7 o)), (1, .int x1)]) (d := 1) hx hb hf dX6_countCovered_35 hl (k := 3) rfl (by decide) (by decide) rfl (fun v9 ls hf hl => ?_)
      refine lv_goto (tgt := 4) hx hb dX6_countCovered_38 (by decide) ?_
      exact ih _ _ _ _ _ hf hw (lv_sub hl [2, 3, 1, 0] rfl)
  refine L4 _ (fun v10 _ H locs ls hf hw hl => ?_) N (0 : Int32) (0 : Int32) _ _ _ hf hw (lv_sub hl [2, 3, 1, 0] rfl)
  refine lv_iload_n hx hb dX6_countCovered_41 rfl (lv_at hl 0 rfl) ?_
  exact q_iret hf hx hb hr rfl hk hw dX6_countCovered_42 (Nat.le_of_ble_eq_true rfl) (Nat.le_of_ble_eq_true rfl)
set_option maxRecDepth 100000 in
theorem kX4_block {Γ : Gm} {S : List (String × Nat × String)} {l : Launch} {N : Nat} {σ τ : St} {o1 : Nat} {x2 : Int32} (ho1 : o1 < 4) (hf : fX4_block N σ o1 x2 = some τ) : CT Γ S l yX4_block cX4_block 8 none 2 43 0 0 [.ref (ga Γ 6 0), .ref (ga Γ 7 o1), .int x2] none σ τ := by
  unfold fX4_block at hf
  refine ct_body (lv := [(0, .ref (ga Γ 6 0)), (1, .ref (ga Γ 7 o1)), (2, .int x2)]) (by decide +kernel) rfl (Nat.le_of_ble_eq_true rfl) ?_
  intro p e s m below meth c ls X hr hk hK hw hl
  have hx := X.1
  have hb := X.2.1
  have hown := X.2.2.2
  refine lv_aload_n hx hb dX4_block_0 rfl (lv_at hl 1 rfl) ?_
  refine q_get (v := .ref (ga Γ 2 0)) hx hb hK hw hown in_X6 ins_X6 (rfl : vwCl[8]? = some (RX6, TX6, 2)) rfl ho1 1 (by decide) 221 fl_X4_41 rfl rfl dX4_block_1 ?_
  refine lv_iload_n hx hb dX4_block_4 rfl (lv_at hl 2 rfl) ?_
  refine q_pI hf hw (fun v h => q_rV (As := [.int x2]) (rest := []) (q := (RX2, TX2, 9)) X hK hw rfl (Nat.le_of_ble_eq_true rfl : 0 < cnt (gn Γ) 2) (rfl : vwCl[4]? = _) (kX2_widthAt h) mvX2_widthAt lk_X4_58 ⟨Nat.le_of_ble_eq_true rfl, Nat.le_of_ble_eq_true rfl⟩ rfl hl.1 rfl (Nat.le_of_ble_eq_true rfl) dX4_block_5 ⟨Nat.le_of_ble_eq_true rfl, Nat.le_of_ble_eq_true rfl⟩) (fun v1 H locs hf hw => ?_)
  refine lv_istore_n (lv' := [(3, .int v1), (0, .ref (ga Γ 6 0)), (1, .ref (ga Γ 7 o1)), (2, .int x2)]) hx hb dX4_block_8 rfl hl (by decide) rfl (fun ls hl => ?_)
  refine lv_aload_n hx hb dX4_block_9 rfl (lv_at hl 2 rfl) ?_
  refine q_get (v := .ref (ga Γ 2 0)) hx hb hK hw hown in_X6 ins_X6 (rfl : vwCl[8]? = some (RX6, TX6, 2)) rfl ho1 1 (by decide) 221 fl_X4_41 rfl rfl dX4_block_10 ?_
  refine lv_iload_n hx hb dX4_block_13 rfl (lv_at hl 3 rfl) ?_
  refine q_pI hf hw (fun v h => q_rV (As := [.int x2]) (rest := []) (q := (RX2, TX2, 9)) X hK hw rfl (Nat.le_of_ble_eq_true rfl : 0 < cnt (gn Γ) 2) (rfl : vwCl[4]? = _) (kX2_heightAt h) mvX2_heightAt lk_X4_62 ⟨Nat.le_of_ble_eq_true rfl, Nat.le_of_ble_eq_true rfl⟩ rfl hl.1 rfl (Nat.le_of_ble_eq_true rfl) dX4_block_14 ⟨Nat.le_of_ble_eq_true rfl, Nat.le_of_ble_eq_true rfl⟩) (fun v2 H locs hf hw => ?_)
  refine lv_istore (lv' := [(4, .int v2), (3, .int v1), (0, .ref (ga Γ 6 0)), (1, .ref (ga Γ 7 o1)), (2, .int x2)]) hx hb dX4_block_17 hl (by decide) rfl (fun ls hl => ?_)
  refine lv_iconst (v := 0) hx hb dX4_block_19 (by decide) ?_
  refine lv_istore (lv' := [(5, .int (0 : Int32)), (4, .int v2), (3, .int v1), (0, .ref (ga Γ 6 0)), (1, .ref (ga Γ 7 o1)), (2, .int x2)]) hx hb dX4_block_20 hl (by decide) rfl (fun ls hl => ?_)
  have L22 : ∀ (K : Int32 → St → Option (St)) (hkk : ∀ (y5 : Int32) (σq : St) (H : Heap) (locs : List Loc) (ls : Array Slot), K y5 σq = some τ → Sit Γ σq s H locs → lv_has ls 8 [] → W p l e { frames := 2, cells := 0, slots := 0, locals := 43 } s m [.ref (ga Γ 6 0), .ref (ga Γ 7 o1), .int x2].toArray below meth c H locs 0 0 (MQ below (Qg Γ (none) τ (AA Γ s.heap.size)) [.ref (ga Γ 6 0), .ref (ga Γ 7 o1), .int x2].toArray s 0 0 (AA Γ s.heap.size)) (F0 m 92 ls [])) (n : Nat) (v3 : Int32) (σ4 : St) (H : Heap) (locs : List Loc) (ls : Array Slot), fX4_block_L22 K N o1 x2 v1 v2 n v3 σ4 = some τ → Sit Γ σ4 s H locs → lv_has ls 8 [(0, .ref (ga Γ 6 0)), (1, .ref (ga Γ 7 o1)), (2, .int x2), (3, .int v1), (4, .int v2), (5, .int v3)] → W p l e { frames := 2, cells := 0, slots := 0, locals := 43 } s m [.ref (ga Γ 6 0), .ref (ga Γ 7 o1), .int x2].toArray below meth c H locs 0 0 (MQ below (Qg Γ (none) τ (AA Γ s.heap.size)) [.ref (ga Γ 6 0), .ref (ga Γ 7 o1), .int x2].toArray s 0 0 (AA Γ s.heap.size)) (F0 m 22 ls []) := by
    intro K hkk n
    induction n with
    | zero =>
      intro _ _ _ _ _ hf
      exact nomatch hf
    | succ n ih =>
      intro v3 σ4 H locs ls hf hw hl
      refine lv_iload hx hb dX4_block_22 (lv_at hl 5 rfl) ?_
      refine lv_iload_n hx hb dX4_block_24 rfl (lv_at hl 3 rfl) ?_
      refine q_ic_ge (tgt := 92) hx hb hf dX4_block_25 (by decide) (fun hf => ?_) (fun hf => ?_)
      · exact hkk _ _ _ _ _ hf hw (lv_sub hl [] rfl)
      refine lv_iconst (v := 0) hx hb dX4_block_28 (by decide) ?_
      refine lv_istore (lv' := [(6, .int (0 : Int32)), (0, .ref (ga Γ 6 0)), (1, .ref (ga Γ 7 o1)), (2, .int x2), (3, .int v1), (4, .int v2), (5, .int v3)]) hx hb dX4_block_29 hl (by decide) rfl (fun ls hl => ?_)
      have L31 : ∀ (K : Int32 → St → Option (St)) (hkk : ∀ (y6 : Int32) (σq : St) (H : Heap) (locs : List Loc) (ls : Array Slot), K y6 σq = some τ → Sit Γ σq s H locs → lv_has ls 8 [(0, .ref (ga Γ 6 0)), (1, .ref (ga Γ 7 o1)), (2, .int x2), (3, .int v1), (4, .int v2), (5, .int v3)] → W p l e { frames := 2, cells := 0, slots := 0, locals := 43 } s m [.ref (ga Γ 6 0), .ref (ga Γ 7 o1), .int x2].toArray below meth c H locs 0 0 (MQ below (Qg Γ (none) τ (AA Γ s.heap.size)) [.ref (ga Γ 6 0), .ref (ga Γ 7 o1), .int x2].toArray s 0 0 (AA Γ s.heap.size)) (F0 m 86 ls [])) (n : Nat) (v5 : Int32) (σ6 : St) (H : Heap) (locs : List Loc) (ls : Array Slot), fX4_block_L31 K N o1 x2 v2 v3 n v5 σ6 = some τ → Sit Γ σ6 s H locs → lv_has ls 8 [(0, .ref (ga Γ 6 0)), (1, .ref (ga Γ 7 o1)), (2, .int x2), (3, .int v1), (4, .int v2), (5, .int v3), (6, .int v5)] → W p l e { frames := 2, cells := 0, slots := 0, locals := 43 } s m [.ref (ga Γ 6 0), .ref (ga Γ 7 o1), .int x2].toArray below meth c H locs 0 0 (MQ below (Qg Γ (none) τ (AA Γ s.heap.size)) [.ref (ga Γ 6 0), .ref (ga Γ 7 o1), .int x2].toArray s 0 0 (AA Γ s.heap.size)) (F0 m 31 ls []) := by
        intro K hkk n
        induction n with
        | zero =>
          intro _ _ _ _ _ hf
          exact nomatch hf
        | succ n ih =>
          intro v5 σ6 H locs ls hf hw hl
          refine lv_iload hx hb dX4_block_31 (lv_at hl 6 rfl) ?_
          refine lv_iload hx hb dX4_block_33 (lv_at hl 4 rfl) ?_
          refine q_ic_ge (tgt := 86) hx hb hf dX4_block_35 (by decide) (fun hf => ?_) (fun hf => ?_)
          · exact hkk _ _ _ _ _ hf hw (lv_sub hl [0, 1, 2, 3, 4, 5] rfl)
          refine lv_aload_n hx hb dX4_block_38 rfl (lv_at hl 1 rfl) ?_
          refine lv_iload_n hx hb dX4_block_39 rfl (lv_at hl 2 rfl) ?_
          refine q_pI hf hw (fun v h => q_rV (As := [.int x2]) (rest := []) (q := (RX6, TX6, 2)) X hK hw rfl ho1 (rfl : vwCl[8]? = _) (kX6_columnAt ho1 h) mvX6_columnAt lk_X4_65 ⟨Nat.le_of_ble_eq_true rfl, Nat.le_of_ble_eq_true rfl⟩ rfl hl.1 rfl (Nat.le_of_ble_eq_true rfl) dX4_block_40 ⟨Nat.le_of_ble_eq_true rfl, Nat.le_of_ble_eq_true rfl⟩) (fun v7 H locs hf hw => ?_)
          refine lv_iload hx hb dX4_block_43 (lv_at hl 5 rfl) ?_
          refine lv_iadd hx hb dX4_block_45 ?_
          refine lv_aload_n hx hb dX4_block_46 rfl (lv_at hl 1 rfl) ?_
          refine lv_iload_n hx hb dX4_block_47 rfl (lv_at hl 2 rfl) ?_
          refine q_pI hf hw (fun v h => q_rV (As := [.int x2]) (rest := [.int (v7 + v3)]) (q := (RX6, TX6, 2)) X hK hw rfl ho1 (rfl : vwCl[8]? = _) (kX6_rowAt ho1 h) mvX6_rowAt lk_X4_68 ⟨Nat.le_of_ble_eq_true rfl, Nat.le_of_ble_eq_true rfl⟩ rfl hl.1 rfl (Nat.le_of_ble_eq_true rfl) dX4_block_48 ⟨Nat.le_of_ble_eq_true rfl, Nat.le_of_ble_eq_true rfl⟩) (fun v8 H locs hf hw => ?_)
          refine lv_iload hx hb dX4_block_51 (lv_at hl 6 rfl) ?_
          refine lv_iadd hx hb dX4_block_53 ?_
          refine q_pI hf hw (fun v h => q_rSN (As := [.int (v7 + v3), .int (v8 + v5)]) (rest := []) X hK hw (kX7_cellAt h) msX7_cellAt lk_X4_71 ⟨Nat.le_of_ble_eq_true rfl, Nat.le_of_ble_eq_true rfl⟩ rfl hl.1 rfl (Nat.le_of_ble_eq_true rfl) dX4_block_54 ⟨Nat.le_of_ble_eq_true rfl, Nat.le_of_ble_eq_true rfl⟩) (fun v9 H locs hf hw => ?_)
          refine lv_istore (lv' := [(7, .int v9), (0, .ref (ga Γ 6 0)), (1, .ref (ga Γ 7 o1)), (2, .int x2), (3, .int v1), (4, .int v2), (5, .int v3), (6, .int v5)]) hx hb dX4_block_57 hl (by decide) rfl (fun ls hl => ?_)
          refine lv_iload hx hb dX4_block_59 (lv_at hl 0 rfl) ?_
          refine q_if_lt (tgt := 80) hx hb hf dX4_block_61 (by decide) (fun hf => ?_) (fun hf => ?_)
          · refine q_iinc (lv1 := [(7, .int v9), (0, .ref (ga Γ 6 0)), (1, .ref (ga Γ 7 o1)), (2, .int x2), (3, .int v1), (4, .int v2), (5, .int v3)]) (d := 1) hx hb hf dX4_block_80 hl (k := 7) rfl (by decide) (by decide) rfl (fun v10 ls hf hl => ?_)
            refine lv_goto (tgt := 31) hx hb dX4_block_83 (by decide) ?_
            exact ih _ _ _ _ _ hf hw (lv_sub hl [2, 3, 4, 5, 6, 7, 0] rfl)
          refine lv_iload hx hb dX4_block_64 (lv_at hl 0 rfl) ?_
          refine lv_sipush (v := 384) hx hb dX4_block_66 (by decide) ?_
          refine q_ic_ge (tgt := 80) hx hb hf dX4_block_69 (by decide) (fun hf => ?_) (fun hf => ?_)
          · refine q_iinc (lv1 := [(7, .int v9), (0, .ref (ga Γ 6 0)), (1, .ref (ga Γ 7 o1)), (2, .int x2), (3, .int v1), (4, .int v2), (5, .int v3)]) (d := 1) hx hb hf dX4_block_80 hl (k := 7) rfl (by decide) (by decide) rfl (fun v11 ls hf hl => ?_)
            refine lv_goto (tgt := 31) hx hb dX4_block_83 (by decide) ?_
            exact ih _ _ _ _ _ hf hw (lv_sub hl [2, 3, 4, 5, 6, 7, 0] rfl)
          refine lv_aload_n hx hb dX4_block_72 rfl (lv_at hl 1 rfl) ?_
          refine q_get (v := .ref (ga Γ 127 0)) hx hb hK hw hown in_X4 ins_X4 (rfl : vwCl[6]? = some (RX4, TX4, 9)) rfl (Nat.le_of_ble_eq_true rfl : 0 < cnt (gn Γ) 6) 0 (by decide) 258 fl_X4_9 rfl rfl dX4_block_73 ?_
          refine lv_iload hx hb dX4_block_76 (lv_at hl 0 rfl) ?_
          refine lv_iconst (v := 0) hx hb dX4_block_78 (by decide) ?_
          refine q_zast hx hb hK hw (k := 127) (o := 0) (fun _ _ _ => rfl) (Nat.le_of_ble_eq_true rfl : 0 < cnt (gn Γ) 127) hf dX4_block_79 (fun σ12 H locs hf hw => ?_)
          refine q_iinc (lv1 := [(7, .int v9), (0, .ref (ga Γ 6 0)), (1, .ref (ga Γ 7 o1)), (2, .int x2), (3, .int v1), (4, .int v2), (5, .int v3)]) (d := 1) hx hb hf dX4_block_80 hl (k := 7) rfl (by decide) (by decide) rfl (fun v13 ls hf hl => ?_)
          refine lv_goto (tgt := 31) hx hb dX4_block_83 (by decide) ?_
          exact ih _ _ _ _ _ hf hw (lv_sub hl [2, 3, 4, 5, 6, 7, 0] rfl)
      refine L31 _ (fun _ σ14 H locs ls hf hw hl => ?_) N (0 : Int32) σ4 _ _ _ hf hw (lv_sub hl [1, 2, 3, 4, 5, 6, 0] rfl)
      refine q_iinc (lv1 := [(0, .ref (ga Γ 6 0)), (1, .ref (ga Γ 7 o1)), (2, .int x2), (3, .int v1), (4, .int v2)]) (d := 1) hx hb hf dX4_block_86 hl (k := 5) rfl (by decide) (by decide) rfl (fun v15 ls hf hl => ?_)
      refine lv_goto (tgt := 22) hx hb dX4_block_89 (by decide) ?_
      exact ih _ _ _ _ _ hf hw (lv_sub hl [1, 2, 3, 4, 5, 0] rfl)
  refine L22 _ (fun _ σ16 H locs ls hf hw hl => ?_) N (0 : Int32) σ _ _ _ hf hw (lv_sub hl [3, 4, 5, 2, 1, 0] rfl)
  exact q_vret hx hb hr hk hw dX4_block_92 hf (Nat.le_of_ble_eq_true rfl) (Nat.le_of_ble_eq_true rfl)
set_option maxRecDepth 100000 in
theorem kX2_sideOfEnd {Γ : Gm} {S : List (String × Nat × String)} {l : Launch} {N : Nat} {σ : St} {x1 : Int32} {x2 : Int32} {r : Int32}  (hf : fX2_sideOfEnd N σ x1 x2 = some r) : CT Γ S l yX2_sideOfEnd cX2_sideOfEnd 4 (some (.char)) 0 0 0 0 [.ref (ga Γ 2 0), .int x1, .int x2] (some (.int r)) σ σ := by
  unfold fX2_sideOfEnd at hf
  refine ct_body (lv := [(0, .ref (ga Γ 2 0)), (1, .int x1), (2, .int x2)]) (by decide +kernel) rfl (Nat.le_of_ble_eq_true rfl) ?_
  intro p e s m below meth c ls X hr hk hK hw hl
  have hx := X.1
  have hb := X.2.1
  have hown := X.2.2.2
  refine lv_iload_n hx hb dX2_sideOfEnd_0 rfl (lv_at hl 2 rfl) ?_
  refine q_if_eq (tgt := 11) hx hb hf dX2_sideOfEnd_1 (by decide) (fun hf => ?_) (fun hf => ?_)
  · refine lv_aload_n hx hb dX2_sideOfEnd_11 rfl (lv_at hl 0 rfl) ?_
    refine q_get (v := .ref (ga Γ 117 0)) hx hb hK hw hown in_X2 ins_X2 (rfl : vwCl[4]? = some (RX2, TX2, 9)) rfl (Nat.le_of_ble_eq_true rfl : 0 < cnt (gn Γ) 2) 6 (by decide) 161 fl_X2_32 rfl rfl dX2_sideOfEnd_12 ?_
    refine lv_astore_n (lv' := [(3, .ref (ga Γ 117 0)), (0, .ref (ga Γ 2 0)), (1, .int x1), (2, .int x2)]) hx hb dX2_sideOfEnd_15 rfl hl (by decide) rfl (fun ls hl => ?_)
    refine lv_iload_n hx hb dX2_sideOfEnd_16 rfl (lv_at hl 2 rfl) ?_
    refine q_if_lt (tgt := 32) hx hb hf dX2_sideOfEnd_17 (by decide) (fun hf => ?_) (fun hf => ?_)
    · refine lv_bipush (v := 116) hx hb dX2_sideOfEnd_32 (by decide) ?_
      exact q_nret hf hx hb hr vn_C hk hw dX2_sideOfEnd_34 (Nat.le_of_ble_eq_true rfl) (Nat.le_of_ble_eq_true rfl)
    refine lv_iload_n hx hb dX2_sideOfEnd_20 rfl (lv_at hl 2 rfl) ?_
    refine lv_aload_n hx hb dX2_sideOfEnd_21 rfl (lv_at hl 0 rfl) ?_
    refine q_alenC (v := (8 : Int32)) hx hb hK hw (k := 117) (o := 0) (fun _ _ _ => rfl) (Nat.le_of_ble_eq_true rfl : 0 < cnt (gn Γ) 117) rfl dX2_sideOfEnd_22 ?_
    refine q_ic_ge (tgt := 32) hx hb hf dX2_sideOfEnd_23 (by decide) (fun hf => ?_) (fun hf => ?_)
    · refine lv_bipush (v := 116) hx hb dX2_sideOfEnd_32 (by decide) ?_
      exact q_nret hf hx hb hr vn_C hk hw dX2_sideOfEnd_34 (Nat.le_of_ble_eq_true rfl) (Nat.le_of_ble_eq_true rfl)
    refine lv_aload_n hx hb dX2_sideOfEnd_26 rfl (lv_at hl 0 rfl) ?_
    refine lv_iload_n hx hb dX2_sideOfEnd_27 rfl (lv_at hl 2 rfl) ?_
    refine q_cald hx hb hK hw (k := 117) (o := 0) (fun _ _ _ => rfl) (Nat.le_of_ble_eq_true rfl : 0 < cnt (gn Γ) 117) hf dX2_sideOfEnd_28 (fun hf => ?_)
    refine lv_goto (tgt := 34) hx hb dX2_sideOfEnd_29 (by decide) ?_
    exact q_nret hf hx hb hr vn_C hk hw dX2_sideOfEnd_34 (Nat.le_of_ble_eq_true rfl) (Nat.le_of_ble_eq_true rfl)
  refine lv_aload_n hx hb dX2_sideOfEnd_4 rfl (lv_at hl 0 rfl) ?_
  refine q_get (v := .ref (ga Γ 116 0)) hx hb hK hw hown in_X2 ins_X2 (rfl : vwCl[4]? = some (RX2, TX2, 9)) rfl (Nat.le_of_ble_eq_true rfl : 0 < cnt (gn Γ) 2) 5 (by decide) 160 fl_X2_28 rfl rfl dX2_sideOfEnd_5 ?_
  refine lv_goto (tgt := 15) hx hb dX2_sideOfEnd_8 (by decide) ?_
  refine lv_astore_n (lv' := [(3, .ref (ga Γ 116 0)), (0, .ref (ga Γ 2 0)), (1, .int x1), (2, .int x2)]) hx hb dX2_sideOfEnd_15 rfl hl (by decide) rfl (fun ls hl => ?_)
  refine lv_iload_n hx hb dX2_sideOfEnd_16 rfl (lv_at hl 2 rfl) ?_
  refine q_if_lt (tgt := 32) hx hb hf dX2_sideOfEnd_17 (by decide) (fun hf => ?_) (fun hf => ?_)
  · refine lv_bipush (v := 116) hx hb dX2_sideOfEnd_32 (by decide) ?_
    exact q_nret hf hx hb hr vn_C hk hw dX2_sideOfEnd_34 (Nat.le_of_ble_eq_true rfl) (Nat.le_of_ble_eq_true rfl)
  refine lv_iload_n hx hb dX2_sideOfEnd_20 rfl (lv_at hl 2 rfl) ?_
  refine lv_aload_n hx hb dX2_sideOfEnd_21 rfl (lv_at hl 0 rfl) ?_
  refine q_alenC (v := (8 : Int32)) hx hb hK hw (k := 116) (o := 0) (fun _ _ _ => rfl) (Nat.le_of_ble_eq_true rfl : 0 < cnt (gn Γ) 116) rfl dX2_sideOfEnd_22 ?_
  refine q_ic_ge (tgt := 32) hx hb hf dX2_sideOfEnd_23 (by decide) (fun hf => ?_) (fun hf => ?_)
  · refine lv_bipush (v := 116) hx hb dX2_sideOfEnd_32 (by decide) ?_
    exact q_nret hf hx hb hr vn_C hk hw dX2_sideOfEnd_34 (Nat.le_of_ble_eq_true rfl) (Nat.le_of_ble_eq_true rfl)
  refine lv_aload_n hx hb dX2_sideOfEnd_26 rfl (lv_at hl 0 rfl) ?_
  refine lv_iload_n hx hb dX2_sideOfEnd_27 rfl (lv_at hl 2 rfl) ?_
  refine q_cald hx hb hK hw (k := 116) (o := 0) (fun _ _ _ => rfl) (Nat.le_of_ble_eq_true rfl : 0 < cnt (gn Γ) 116) hf dX2_sideOfEnd_28 (fun hf => ?_)
  refine lv_goto (tgt := 34) hx hb dX2_sideOfEnd_29 (by decide) ?_
  exact q_nret hf hx hb hr vn_C hk hw dX2_sideOfEnd_34 (Nat.le_of_ble_eq_true rfl) (Nat.le_of_ble_eq_true rfl)
set_option maxRecDepth 100000 in
theorem kX6_endOf {Γ : Gm} {S : List (String × Nat × String)} {l : Launch} {N : Nat} {σ : St} {o : Nat} {x1 : Int32} {x2 : Int32} {r : Int32} (ho : o < 4) (hf : fX6_endOf N σ o x1 x2 = some r) : CT Γ S l yX6_endOf cX6_endOf 10 (some (.int)) 2 44 0 0 [.ref (ga Γ 7 o), .int x1, .int x2] (some (.int r)) σ σ := by
  unfold fX6_endOf at hf
  refine ct_body (lv := [(0, .ref (ga Γ 7 o)), (1, .int x1), (2, .int x2)]) (by decide +kernel) rfl (Nat.le_of_ble_eq_true rfl) ?_
  intro p e s m below meth c ls X hr hk hK hw hl
  have hx := X.1
  have hb := X.2.1
  have hown := X.2.2.2
  refine lv_aload_n hx hb dX6_endOf_0 rfl (lv_at hl 0 rfl) ?_
  refine q_get (v := .ref (ga Γ 2 0)) hx hb hK hw hown in_X6 ins_X6 (rfl : vwCl[8]? = some (RX6, TX6, 2)) rfl ho 1 (by decide) 220 fl_X6_15 rfl rfl dX6_endOf_1 ?_
  refine lv_iload_n hx hb dX6_endOf_4 rfl (lv_at hl 1 rfl) ?_
  refine lv_iload_n hx hb dX6_endOf_5 rfl (lv_at hl 2 rfl) ?_
  refine q_pI hf hw (fun v h => q_rV (As := [.int x1, .int x2]) (rest := []) (q := (RX2, TX2, 9)) X hK hw rfl (Nat.le_of_ble_eq_true rfl : 0 < cnt (gn Γ) 2) (rfl : vwCl[4]? = _) (kX2_shapeOfEnd h) mvX2_shapeOfEnd lk_X6_83 ⟨Nat.le_of_ble_eq_true rfl, Nat.le_of_ble_eq_true rfl⟩ rfl hl.1 rfl (Nat.le_of_ble_eq_true rfl) dX6_endOf_6 ⟨Nat.le_of_ble_eq_true rfl, Nat.le_of_ble_eq_true rfl⟩) (fun v1 H locs hf hw => ?_)
  refine lv_istore_n (lv' := [(3, .int v1), (0, .ref (ga Γ 7 o)), (1, .int x1), (2, .int x2)]) hx hb dX6_endOf_9 rfl hl (by decide) rfl (fun ls hl => ?_)
  refine lv_aload_n hx hb dX6_endOf_10 rfl (lv_at hl 1 rfl) ?_
  refine lv_iload_n hx hb dX6_endOf_11 rfl (lv_at hl 0 rfl) ?_
  refine q_pI hf hw (fun v h => q_rV (As := [.int v1]) (rest := []) (q := (RX6, TX6, 2)) X hK hw rfl ho (rfl : vwCl[8]? = _) (kX6_columnAt ho h) mvX6_columnAt lk_X6_61 ⟨Nat.le_of_ble_eq_true rfl, Nat.le_of_ble_eq_true rfl⟩ rfl hl.1 rfl (Nat.le_of_ble_eq_true rfl) dX6_endOf_12 ⟨Nat.le_of_ble_eq_true rfl, Nat.le_of_ble_eq_true rfl⟩) (fun v2 H locs hf hw => ?_)
  refine lv_istore (lv' := [(4, .int v2), (3, .int v1), (0, .ref (ga Γ 7 o)), (1, .int x1), (2, .int x2)]) hx hb dX6_endOf_15 hl (by decide) rfl (fun ls hl => ?_)
  refine lv_aload_n hx hb dX6_endOf_17 rfl (lv_at hl 2 rfl) ?_
  refine lv_iload_n hx hb dX6_endOf_18 rfl (lv_at hl 1 rfl) ?_
  refine q_pI hf hw (fun v h => q_rV (As := [.int v1]) (rest := []) (q := (RX6, TX6, 2)) X hK hw rfl ho (rfl : vwCl[8]? = _) (kX6_rowAt ho h) mvX6_rowAt lk_X6_64 ⟨Nat.le_of_ble_eq_true rfl, Nat.le_of_ble_eq_true rfl⟩ rfl hl.1 rfl (Nat.le_of_ble_eq_true rfl) dX6_endOf_19 ⟨Nat.le_of_ble_eq_true rfl, Nat.le_of_ble_eq_true rfl⟩) (fun v3 H locs hf hw => ?_)
  refine lv_istore (lv' := [(5, .int v3), (4, .int v2), (3, .int v1), (0, .ref (ga Γ 7 o)), (1, .int x1), (2, .int x2)]) hx hb dX6_endOf_22 hl (by decide) rfl (fun ls hl => ?_)
  refine lv_aload_n hx hb dX6_endOf_24 rfl (lv_at hl 3 rfl) ?_
  refine q_get (v := .ref (ga Γ 2 0)) hx hb hK hw hown in_X6 ins_X6 (rfl : vwCl[8]? = some (RX6, TX6, 2)) rfl ho 1 (by decide) 220 fl_X6_15 rfl rfl dX6_endOf_25 ?_
  refine lv_iload_n hx hb dX6_endOf_28 rfl (lv_at hl 2 rfl) ?_
  refine q_pI hf hw (fun v h => q_rV (As := [.int v1]) (rest := []) (q := (RX2, TX2, 9)) X hK hw rfl (Nat.le_of_ble_eq_true rfl : 0 < cnt (gn Γ) 2) (rfl : vwCl[4]? = _) (kX2_widthAt h) mvX2_widthAt lk_X6_37 ⟨Nat.le_of_ble_eq_true rfl, Nat.le_of_ble_eq_true rfl⟩ rfl hl.1 rfl (Nat.le_of_ble_eq_true rfl) dX6_endOf_29 ⟨Nat.le_of_ble_eq_true rfl, Nat.le_of_ble_eq_true rfl⟩) (fun v4 H locs hf hw => ?_)
  refine lv_istore (lv' := [(6, .int v4), (5, .int v3), (4, .int v2), (3, .int v1), (0, .ref (ga Γ 7 o)), (1, .int x1), (2, .int x2)]) hx hb dX6_endOf_32 hl (by decide) rfl (fun ls hl => ?_)
  refine lv_aload_n hx hb dX6_endOf_34 rfl (lv_at hl 4 rfl) ?_
  refine q_get (v := .ref (ga Γ 2 0)) hx hb hK hw hown in_X6 ins_X6 (rfl : vwCl[8]? = some (RX6, TX6, 2)) rfl ho 1 (by decide) 220 fl_X6_15 rfl rfl dX6_endOf_35 ?_
  refine lv_iload_n hx hb dX6_endOf_38 rfl (lv_at hl 3 rfl) ?_
  refine q_pI hf hw (fun v h => q_rV (As := [.int v1]) (rest := []) (q := (RX2, TX2, 9)) X hK hw rfl (Nat.le_of_ble_eq_true rfl : 0 < cnt (gn Γ) 2) (rfl : vwCl[4]? = _) (kX2_heightAt h) mvX2_heightAt lk_X6_41 ⟨Nat.le_of_ble_eq_true rfl, Nat.le_of_ble_eq_true rfl⟩ rfl hl.1 rfl (Nat.le_of_ble_eq_true rfl) dX6_endOf_39 ⟨Nat.le_of_ble_eq_true rfl, Nat.le_of_ble_eq_true rfl⟩) (fun v5 H locs hf hw => ?_)
  refine lv_istore (lv' := [(7, .int v5), (6, .int v4), (5, .int v3), (4, .int v2), (3, .int v1), (0, .ref (ga Γ 7 o)), (1, .int x1), (2, .int x2)]) hx hb dX6_endOf_42 hl (by decide) rfl (fun ls hl => ?_)
  refine lv_aload_n hx hb dX6_endOf_44 rfl (lv_at hl 5 rfl) ?_
  refine q_get (v := .ref (ga Γ 2 0)) hx hb hK hw hown in_X6 ins_X6 (rfl : vwCl[8]? = some (RX6, TX6, 2)) rfl ho 1 (by decide) 220 fl_X6_15 rfl rfl dX6_endOf_45 ?_
  refine lv_iload_n hx hb dX6_endOf_48 rfl (lv_at hl 6 rfl) ?_
  refine lv_iload_n hx hb dX6_endOf_49 rfl (lv_at hl 7 rfl) ?_
  refine q_pI hf hw (fun v h => q_rV (As := [.int x1, .int x2]) (rest := []) (q := (RX2, TX2, 9)) X hK hw rfl (Nat.le_of_ble_eq_true rfl : 0 < cnt (gn Γ) 2) (rfl : vwCl[4]? = _) (kX2_sideOfEnd h) mvX2_sideOfEnd lk_X6_90 ⟨Nat.le_of_ble_eq_true rfl, Nat.le_of_ble_eq_true rfl⟩ rfl hl.1 rfl (Nat.le_of_ble_eq_true rfl) dX6_endOf_50 ⟨Nat.le_of_ble_eq_true rfl, Nat.le_of_ble_eq_true rfl⟩) (fun v6 H locs hf hw => ?_)
  refine lv_istore (lv' := [(8, .int v6), (7, .int v5), (6, .int v4), (5, .int v3), (4, .int v2), (3, .int v1), (0, .ref (ga Γ 7 o)), (1, .int x1), (2, .int x2)]) hx hb dX6_endOf_53 hl (by decide) rfl (fun ls hl => ?_)
  refine lv_iload hx hb dX6_endOf_55 (lv_at hl 0 rfl) ?_
  refine lv_bipush (v := 116) hx hb dX6_endOf_57 (by decide) ?_
  refine q_ic_ne (tgt := 79) hx hb hf dX6_endOf_59 (by decide) (fun hf => ?_) (fun hf => ?_)
  · refine lv_iload hx hb dX6_endOf_79 (lv_at hl 0 rfl) ?_
    refine lv_bipush (v := 98) hx hb dX6_endOf_81 (by decide) ?_
    refine q_ic_ne (tgt := 104) hx hb hf dX6_endOf_83 (by decide) (fun hf => ?_) (fun hf => ?_)
    · refine lv_iload hx hb dX6_endOf_104 (lv_at hl 3 rfl) ?_
      refine lv_iload hx hb dX6_endOf_106 (lv_at hl 1 rfl) ?_
      refine lv_iconst (v := 1) hx hb dX6_endOf_108 (by decide) ?_
      refine lv_isub hx hb dX6_endOf_109 ?_
      refine lv_iconst (v := 2) hx hb dX6_endOf_110 (by decide) ?_
      refine lv_idiv hx hb dX6_endOf_111 (by decide) ?_
      refine lv_iadd hx hb dX6_endOf_112 ?_
      refine q_istore (lv1 := [(8, .int v6), (7, .int v5), (6, .int v4), (5, .int v3), (4, .int v2), (3, .int v1), (0, .ref (ga Γ 7 o)), (1, .int x1), (2, .int x2)]) hx hb hf dX6_endOf_113 hl (by decide) rfl (fun v7 ls hf hl => ?_)
      refine lv_iload hx hb dX6_endOf_115 (lv_at hl 1 rfl) ?_
      refine lv_bipush (v := 108) hx hb dX6_endOf_117 (by decide) ?_
      refine q_ic_ne (tgt := 134) hx hb hf dX6_endOf_119 (by decide) (fun hf => ?_) (fun hf => ?_)
      · refine lv_iload hx hb dX6_endOf_134 (lv_at hl 5 rfl) ?_
        refine lv_iload hx hb dX6_endOf_136 (lv_at hl 3 rfl) ?_
        refine lv_iadd hx hb dX6_endOf_138 ?_
        refine lv_iload hx hb dX6_endOf_139 (lv_at hl 0 rfl) ?_
        refine q_pI hf hw (fun v h => q_rSN (As := [.int (v2 + v4), .int v7]) (rest := []) X hK hw (kX7_cellAt h) msX7_cellAt lk_X6_94 ⟨Nat.le_of_ble_eq_true rfl, Nat.le_of_ble_eq_true rfl⟩ rfl hl.1 rfl (Nat.le_of_ble_eq_true rfl) dX6_endOf_141 ⟨Nat.le_of_ble_eq_true rfl, Nat.le_of_ble_eq_true rfl⟩) (fun v8 H locs hf hw => ?_)
        exact q_iret hf hx hb hr rfl hk hw dX6_endOf_144 (Nat.le_of_ble_eq_true rfl) (Nat.le_of_ble_eq_true rfl)
      refine lv_iload hx hb dX6_endOf_122 (lv_at hl 5 rfl) ?_
      refine lv_iconst (v := 1) hx hb dX6_endOf_124 (by decide) ?_
      refine lv_isub hx hb dX6_endOf_125 ?_
      refine lv_iload hx hb dX6_endOf_126 (lv_at hl 0 rfl) ?_
      refine q_pI hf hw (fun v h => q_rSN (As := [.int (v2 - (1 : Int32)), .int v7]) (rest := []) X hK hw (kX7_cellAt h) msX7_cellAt lk_X6_94 ⟨Nat.le_of_ble_eq_true rfl, Nat.le_of_ble_eq_true rfl⟩ rfl hl.1 rfl (Nat.le_of_ble_eq_true rfl) dX6_endOf_128 ⟨Nat.le_of_ble_eq_true rfl, Nat.le_of_ble_eq_true rfl⟩) (fun v9 H locs hf hw => ?_)
      refine lv_goto (tgt := 144) hx hb dX6_endOf_131 (by decide) ?_
      exact q_iret hf hx hb hr rfl hk hw dX6_endOf_144 (Nat.le_of_ble_eq_true rfl) (Nat.le_of_ble_eq_true rfl)
    refine lv_iload hx hb dX6_endOf_86 (lv_at hl 4 rfl) ?_
    refine lv_iload hx hb dX6_endOf_88 (lv_at hl 2 rfl) ?_
    refine lv_iconst (v := 1) hx hb dX6_endOf_90 (by decide) ?_
    refine lv_isub hx hb dX6_endOf_91 ?_
    refine lv_iconst (v := 2) hx hb dX6_endOf_92 (by decide) ?_
    refine lv_idiv hx hb dX6_endOf_93 (by decide) ?_
    refine lv_iadd hx hb dX6_endOf_94 ?_
    refine lv_iload hx hb dX6_endOf_95 (lv_at hl 3 rfl) ?_
    refine lv_iload hx hb dX6_endOf_97 (lv_at hl 1 rfl) ?_
    refine lv_iadd hx hb dX6_endOf_99 ?_
    refine q_pI hf hw (fun v h => q_rSN (As := [.int (v2 + ((v4 - (1 : Int32)) / (2 : Int32))), .int (v3 + v5)]) (rest := []) X hK hw (kX7_cellAt h) msX7_cellAt lk_X6_94 ⟨Nat.le_of_ble_eq_true rfl, Nat.le_of_ble_eq_true rfl⟩ rfl hl.1 rfl (Nat.le_of_ble_eq_true rfl) dX6_endOf_100 ⟨Nat.le_of_ble_eq_true rfl, Nat.le_of_ble_eq_true rfl⟩) (fun v10 H locs hf hw => ?_)
    exact q_iret hf hx hb hr rfl hk hw dX6_endOf_103 (Nat.le_of_ble_eq_true rfl) (Nat.le_of_ble_eq_true rfl)
  refine lv_iload hx hb dX6_endOf_62 (lv_at hl 4 rfl) ?_
  refine lv_iload hx hb dX6_endOf_64 (lv_at hl 2 rfl) ?_
  refine lv_iconst (v := 1) hx hb dX6_endOf_66 (by decide) ?_
  refine lv_isub hx hb dX6_endOf_67 ?_
  refine lv_iconst (v := 2) hx hb dX6_endOf_68 (by decide) ?_
  refine lv_idiv hx hb dX6_endOf_69 (by decide) ?_
  refine lv_iadd hx hb dX6_endOf_70 ?_
  refine lv_iload hx hb dX6_endOf_71 (lv_at hl 3 rfl) ?_
  refine lv_iconst (v := 1) hx hb dX6_endOf_73 (by decide) ?_
  refine lv_isub hx hb dX6_endOf_74 ?_
  refine q_pI hf hw (fun v h => q_rSN (As := [.int (v2 + ((v4 - (1 : Int32)) / (2 : Int32))), .int (v3 - (1 : Int32))]) (rest := []) X hK hw (kX7_cellAt h) msX7_cellAt lk_X6_94 ⟨Nat.le_of_ble_eq_true rfl, Nat.le_of_ble_eq_true rfl⟩ rfl hl.1 rfl (Nat.le_of_ble_eq_true rfl) dX6_endOf_75 ⟨Nat.le_of_ble_eq_true rfl, Nat.le_of_ble_eq_true rfl⟩) (fun v11 H locs hf hw => ?_)
  exact q_iret hf hx hb hr rfl hk hw dX6_endOf_78 (Nat.le_of_ble_eq_true rfl) (Nat.le_of_ble_eq_true rfl)
set_option maxRecDepth 100000 in
theorem kX4_draw {Γ : Gm} {S : List (String × Nat × String)} {l : Launch} {N : Nat} {σ τ : St} {o1 : Nat} {x2 : Int32} (ho1 : o1 < 4) (hf : fX4_draw N σ o1 x2 = some τ) : CT Γ S l yX4_draw cX4_draw 4 none 3 73 0 0 [.ref (ga Γ 6 0), .ref (ga Γ 7 o1), .int x2] none σ τ := by
  unfold fX4_draw at hf
  refine ct_body (lv := [(0, .ref (ga Γ 6 0)), (1, .ref (ga Γ 7 o1)), (2, .int x2)]) (by decide +kernel) rfl (Nat.le_of_ble_eq_true rfl) ?_
  intro p e s m below meth c ls X hr hk hK hw hl
  have hx := X.1
  have hb := X.2.1
  have hown := X.2.2.2
  refine lv_iconst (v := 0) hx hb dX4_draw_0 (by decide) ?_
  refine lv_istore_n (lv' := [(3, .int (0 : Int32)), (0, .ref (ga Γ 6 0)), (1, .ref (ga Γ 7 o1)), (2, .int x2)]) hx hb dX4_draw_1 rfl hl (by decide) rfl (fun ls hl => ?_)
  have L2 : ∀ (K : Int32 → St → Option (St)) (hkk : ∀ (y3 : Int32) (σq : St) (H : Heap) (locs : List Loc) (ls : Array Slot), K y3 σq = some τ → Sit Γ σq s H locs → lv_has ls 4 [(0, .ref (ga Γ 6 0)), (1, .ref (ga Γ 7 o1)), (2, .int x2)] → W p l e { frames := 3, cells := 0, slots := 0, locals := 73 } s m [.ref (ga Γ 6 0), .ref (ga Γ 7 o1), .int x2].toArray below meth c H locs 0 0 (MQ below (Qg Γ (none) τ (AA Γ s.heap.size)) [.ref (ga Γ 6 0), .ref (ga Γ 7 o1), .int x2].toArray s 0 0 (AA Γ s.heap.size)) (F0 m 22 ls [])) (n : Nat) (v1 : Int32) (σ2 : St) (H : Heap) (locs : List Loc) (ls : Array Slot), fX4_draw_L2 K N n v1 σ2 = some τ → Sit Γ σ2 s H locs → lv_has ls 4 [(0, .ref (ga Γ 6 0)), (1, .ref (ga Γ 7 o1)), (2, .int x2), (3, .int v1)] → W p l e { frames := 3, cells := 0, slots := 0, locals := 73 } s m [.ref (ga Γ 6 0), .ref (ga Γ 7 o1), .int x2].toArray below meth c H locs 0 0 (MQ below (Qg Γ (none) τ (AA Γ s.heap.size)) [.ref (ga Γ 6 0), .ref (ga Γ 7 o1), .int x2].toArray s 0 0 (AA Γ s.heap.size)) (F0 m 2 ls []) := by
    intro K hkk n
    induction n with
    | zero =>
      intro _ _ _ _ _ hf
      exact nomatch hf
    | succ n ih =>
      intro v1 σ2 H locs ls hf hw hl
      refine lv_iload_n hx hb dX4_draw_2 rfl (lv_at hl 3 rfl) ?_
      refine lv_sipush (v := 384) hx hb dX4_draw_3 (by decide) ?_
      refine q_ic_ge (tgt := 22) hx hb hf dX4_draw_6 (by decide) (fun hf => ?_) (fun hf => ?_)
      · exact hkk _ _ _ _ _ hf hw (lv_sub hl [0, 1, 2] rfl)
      refine lv_aload_n hx hb dX4_draw_9 rfl (lv_at hl 0 rfl) ?_
      refine q_get (v := .ref (ga Γ 127 0)) hx hb hK hw hown in_X4 ins_X4 (rfl : vwCl[6]? = some (RX4, TX4, 9)) rfl (Nat.le_of_ble_eq_true rfl : 0 < cnt (gn Γ) 6) 0 (by decide) 258 fl_X4_9 rfl rfl dX4_draw_10 ?_
      refine lv_iload_n hx hb dX4_draw_13 rfl (lv_at hl 3 rfl) ?_
      refine lv_iconst (v := 1) hx hb dX4_draw_14 (by decide) ?_
      refine q_zast hx hb hK hw (k := 127) (o := 0) (fun _ _ _ => rfl) (Nat.le_of_ble_eq_true rfl : 0 < cnt (gn Γ) 127) hf dX4_draw_15 (fun σ3 H locs hf hw => ?_)
      refine q_iinc (lv1 := [(0, .ref (ga Γ 6 0)), (1, .ref (ga Γ 7 o1)), (2, .int x2)]) (d := 1) hx hb hf dX4_draw_16 hl (k := 3) rfl (by decide) (by decide) rfl (fun v4 ls hf hl => ?_)
      refine lv_goto (tgt := 2) hx hb dX4_draw_19 (by decide) ?_
      exact ih _ _ _ _ _ hf hw (lv_sub hl [1, 2, 3, 0] rfl)
  refine L2 _ (fun _ σ5 H locs ls hf hw hl => ?_) N (0 : Int32) σ _ _ _ hf hw (lv_sub hl [1, 2, 3, 0] rfl)
  refine lv_iconst (v := 0) hx hb dX4_draw_22 (by decide) ?_
  refine lv_istore_n (lv' := [(3, .int (0 : Int32)), (0, .ref (ga Γ 6 0)), (1, .ref (ga Γ 7 o1)), (2, .int x2)]) hx hb dX4_draw_23 rfl hl (by decide) rfl (fun ls hl => ?_)
  have L24 : ∀ (K : Int32 → St → Option (St)) (hkk : ∀ (y3 : Int32) (σq : St) (H : Heap) (locs : List Loc) (ls : Array Slot), K y3 σq = some τ → Sit Γ σq s H locs → lv_has ls 4 [(0, .ref (ga Γ 6 0)), (1, .ref (ga Γ 7 o1)), (2, .int x2)] → W p l e { frames := 3, cells := 0, slots := 0, locals := 73 } s m [.ref (ga Γ 6 0), .ref (ga Γ 7 o1), .int x2].toArray below meth c H locs 0 0 (MQ below (Qg Γ (none) τ (AA Γ s.heap.size)) [.ref (ga Γ 6 0), .ref (ga Γ 7 o1), .int x2].toArray s 0 0 (AA Γ s.heap.size)) (F0 m 61 ls [])) (n : Nat) (v6 : Int32) (σ7 : St) (H : Heap) (locs : List Loc) (ls : Array Slot), fX4_draw_L24 K N o1 n v6 σ7 = some τ → Sit Γ σ7 s H locs → lv_has ls 4 [(0, .ref (ga Γ 6 0)), (1, .ref (ga Γ 7 o1)), (2, .int x2), (3, .int v6)] → W p l e { frames := 3, cells := 0, slots := 0, locals := 73 } s m [.ref (ga Γ 6 0), .ref (ga Γ 7 o1), .int x2].toArray below meth c H locs 0 0 (MQ below (Qg Γ (none) τ (AA Γ s.heap.size)) [.ref (ga Γ 6 0), .ref (ga Γ 7 o1), .int x2].toArray s 0 0 (AA Γ s.heap.size)) (F0 m 24 ls []) := by
    intro K hkk n
    induction n with
    | zero =>
      intro _ _ _ _ _ hf
      exact nomatch hf
    | succ n ih =>
      intro v6 σ7 H locs ls hf hw hl
      refine lv_iload_n hx hb dX4_draw_24 rfl (lv_at hl 3 rfl) ?_
      refine lv_bipush (v := 12) hx hb dX4_draw_25 (by decide) ?_
      refine q_ic_ge (tgt := 61) hx hb hf dX4_draw_27 (by decide) (fun hf => ?_) (fun hf => ?_)
      · exact hkk _ _ _ _ _ hf hw (lv_sub hl [0, 1, 2] rfl)
      refine lv_aload_n hx hb dX4_draw_30 rfl (lv_at hl 1 rfl) ?_
      refine lv_iload_n hx hb dX4_draw_31 rfl (lv_at hl 3 rfl) ?_
      refine q_pI hf hw (fun v h => q_rV (As := [.int v6]) (rest := []) (q := (RX6, TX6, 2)) X hK hw rfl ho1 (rfl : vwCl[8]? = _) (kX6_isSeen ho1 h) mvX6_isSeen lk_X4_35 ⟨Nat.le_of_ble_eq_true rfl, Nat.le_of_ble_eq_true rfl⟩ rfl hl.1 rfl (Nat.le_of_ble_eq_true rfl) dX4_draw_32 ⟨Nat.le_of_ble_eq_true rfl, Nat.le_of_ble_eq_true rfl⟩) (fun v8 H locs hf hw => ?_)
      refine q_if_eq (tgt := 55) hx hb hf dX4_draw_35 (by decide) (fun hf => ?_) (fun hf => ?_)
      · refine q_iinc (lv1 := [(0, .ref (ga Γ 6 0)), (1, .ref (ga Γ 7 o1)), (2, .int x2)]) (d := 1) hx hb hf dX4_draw_55 hl (k := 3) rfl (by decide) (by decide) rfl (fun v9 ls hf hl => ?_)
        refine lv_goto (tgt := 24) hx hb dX4_draw_58 (by decide) ?_
        exact ih _ _ _ _ _ hf hw (lv_sub hl [1, 2, 3, 0] rfl)
      refine lv_aload_n hx hb dX4_draw_38 rfl (lv_at hl 1 rfl) ?_
      refine q_get (v := .ref (ga Γ 2 0)) hx hb hK hw hown in_X6 ins_X6 (rfl : vwCl[8]? = some (RX6, TX6, 2)) rfl ho1 1 (by decide) 221 fl_X4_41 rfl rfl dX4_draw_39 ?_
      refine lv_iload_n hx hb dX4_draw_42 rfl (lv_at hl 3 rfl) ?_
      refine q_pI hf hw (fun v h => q_rV (As := [.int v6]) (rest := []) (q := (RX2, TX2, 9)) X hK hw rfl (Nat.le_of_ble_eq_true rfl : 0 < cnt (gn Γ) 2) (rfl : vwCl[4]? = _) (kX2_isFrameAt h) mvX2_isFrameAt lk_X4_45 ⟨Nat.le_of_ble_eq_true rfl, Nat.le_of_ble_eq_true rfl⟩ rfl hl.1 rfl (Nat.le_of_ble_eq_true rfl) dX4_draw_43 ⟨Nat.le_of_ble_eq_true rfl, Nat.le_of_ble_eq_true rfl⟩) (fun v10 H locs hf hw => ?_)
      refine q_if_ne (tgt := 55) hx hb hf dX4_draw_46 (by decide) (fun hf => ?_) (fun hf => ?_)
      · refine q_iinc (lv1 := [(0, .ref (ga Γ 6 0)), (1, .ref (ga Γ 7 o1)), (2, .int x2)]) (d := 1) hx hb hf dX4_draw_55 hl (k := 3) rfl (by decide) (by decide) rfl (fun v11 ls hf hl => ?_)
        refine lv_goto (tgt := 24) hx hb dX4_draw_58 (by decide) ?_
        exact ih _ _ _ _ _ hf hw (lv_sub hl [1, 2, 3, 0] rfl)
      refine lv_aload_n hx hb dX4_draw_49 rfl (lv_at hl 0 rfl) ?_
      refine lv_aload_n hx hb dX4_draw_50 rfl (lv_at hl 1 rfl) ?_
      refine lv_iload_n hx hb dX4_draw_51 rfl (lv_at hl 3 rfl) ?_
      refine q_eV hf hw (fun τ h => q_rV (As := [.ref (ga Γ 7 o1), .int v6]) (rest := []) (q := (RX4, TX4, 9)) X hK hw rfl (Nat.le_of_ble_eq_true rfl : 0 < cnt (gn Γ) 6) (rfl : vwCl[6]? = _) (kX4_block ho1 h) mvX4_block lk_X4_50 ⟨Nat.le_of_ble_eq_true rfl, Nat.le_of_ble_eq_true rfl⟩ rfl hl.1 rfl (Nat.le_of_ble_eq_true rfl) dX4_draw_52 ⟨Nat.le_of_ble_eq_true rfl, Nat.le_of_ble_eq_true rfl⟩) (fun σ12 H locs hf hw => ?_)
      refine q_iinc (lv1 := [(0, .ref (ga Γ 6 0)), (1, .ref (ga Γ 7 o1)), (2, .int x2)]) (d := 1) hx hb hf dX4_draw_55 hl (k := 3) rfl (by decide) (by decide) rfl (fun v13 ls hf hl => ?_)
      refine lv_goto (tgt := 24) hx hb dX4_draw_58 (by decide) ?_
      exact ih _ _ _ _ _ hf hw (lv_sub hl [1, 2, 3, 0] rfl)
  refine L24 _ (fun _ σ14 H locs ls hf hw hl => ?_) N (0 : Int32) σ5 _ _ _ hf hw (lv_sub hl [1, 2, 3, 0] rfl)
  refine lv_aload_n hx hb dX4_draw_61 rfl (lv_at hl 0 rfl) ?_
  refine lv_aload_n hx hb dX4_draw_62 rfl (lv_at hl 1 rfl) ?_
  refine lv_iload_n hx hb dX4_draw_63 rfl (lv_at hl 2 rfl) ?_
  refine lv_iconst (v := 1) hx hb dX4_draw_64 (by decide) ?_
  refine q_pI hf hw (fun v h => q_rV (As := [.int x2, .int (1 : Int32)]) (rest := [.ref (ga Γ 6 0)]) (q := (RX6, TX6, 2)) X hK hw rfl ho1 (rfl : vwCl[8]? = _) (kX6_endOf ho1 h) mvX6_endOf lk_X4_54 ⟨Nat.le_of_ble_eq_true rfl, Nat.le_of_ble_eq_true rfl⟩ rfl hl.1 rfl (Nat.le_of_ble_eq_true rfl) dX4_draw_65 ⟨Nat.le_of_ble_eq_true rfl, Nat.le_of_ble_eq_true rfl⟩) (fun v15 H locs hf hw => ?_)
  refine q_puti (v := v15) hx hb hK hw hown in_X4 ins_X4 tyX4 tyX4_ok nmX4 (rfl : vwCl[6]? = some (RX4, TX4, 9)) (fun _ _ _ => rfl) (Nat.le_of_ble_eq_true rfl : 0 < cnt (gn Γ) 6) 7 (by decide) 265 fl_X4_28 rfl rfl rfl (fun _ _ _ => Nat.le_of_ble_eq_true rfl) (fun _ _ _ => rfl) hf dX4_draw_68 (fun σ16 H locs hf hw => ?_)
  refine lv_aload_n hx hb dX4_draw_71 rfl (lv_at hl 0 rfl) ?_
  refine lv_aload_n hx hb dX4_draw_72 rfl (lv_at hl 1 rfl) ?_
  refine lv_iload_n hx hb dX4_draw_73 rfl (lv_at hl 2 rfl) ?_
  refine lv_iconst (v := 0) hx hb dX4_draw_74 (by decide) ?_
  refine q_pI hf hw (fun v h => q_rV (As := [.int x2, .int (0 : Int32)]) (rest := [.ref (ga Γ 6 0)]) (q := (RX6, TX6, 2)) X hK hw rfl ho1 (rfl : vwCl[8]? = _) (kX6_endOf ho1 h) mvX6_endOf lk_X4_54 ⟨Nat.le_of_ble_eq_true rfl, Nat.le_of_ble_eq_true rfl⟩ rfl hl.1 rfl (Nat.le_of_ble_eq_true rfl) dX4_draw_75 ⟨Nat.le_of_ble_eq_true rfl, Nat.le_of_ble_eq_true rfl⟩) (fun v17 H locs hf hw => ?_)
  refine q_puti (v := v17) hx hb hK hw hown in_X4 ins_X4 tyX4 tyX4_ok nmX4 (rfl : vwCl[6]? = some (RX4, TX4, 9)) (fun _ _ _ => rfl) (Nat.le_of_ble_eq_true rfl : 0 < cnt (gn Γ) 6) 8 (by decide) 266 fl_X4_32 rfl rfl rfl (fun _ _ _ => Nat.le_of_ble_eq_true rfl) (fun _ _ _ => rfl) hf dX4_draw_78 (fun σ18 H locs hf hw => ?_)
  exact q_vret hx hb hr hk hw dX4_draw_81 hf (Nat.le_of_ble_eq_true rfl) (Nat.le_of_ble_eq_true rfl)
set_option maxRecDepth 100000 in
theorem kX4_startAnew {Γ : Gm} {S : List (String × Nat × String)} {l : Launch} {N : Nat} {σ τ : St}  (hf : fX4_startAnew N σ = some τ) : CT Γ S l yX4_startAnew cX4_startAnew 2 none 0 0 0 0 [.ref (ga Γ 6 0)] none σ τ := by
  unfold fX4_startAnew at hf
  refine ct_body (lv := [(0, .ref (ga Γ 6 0))]) (by decide +kernel) rfl (Nat.le_of_ble_eq_true rfl) ?_
  intro p e s m below meth c ls X hr hk hK hw hl
  have hx := X.1
  have hb := X.2.1
  have hown := X.2.2.2
  refine lv_iconst (v := 0) hx hb dX4_startAnew_0 (by decide) ?_
  refine lv_istore_n (lv' := [(1, .int (0 : Int32)), (0, .ref (ga Γ 6 0))]) hx hb dX4_startAnew_1 rfl hl (by decide) rfl (fun ls hl => ?_)
  have L2 : ∀ (K : Int32 → St → Option (St)) (hkk : ∀ (y1 : Int32) (σq : St) (H : Heap) (locs : List Loc) (ls : Array Slot), K y1 σq = some τ → Sit Γ σq s H locs → lv_has ls 2 [(0, .ref (ga Γ 6 0))] → W p l e { frames := 0, cells := 0, slots := 0, locals := 0 } s m [.ref (ga Γ 6 0)].toArray below meth c H locs 0 0 (MQ below (Qg Γ (none) τ (AA Γ s.heap.size)) [.ref (ga Γ 6 0)].toArray s 0 0 (AA Γ s.heap.size)) (F0 m 23 ls [])) (n : Nat) (v1 : Int32) (σ2 : St) (H : Heap) (locs : List Loc) (ls : Array Slot), fX4_startAnew_L2 K N n v1 σ2 = some τ → Sit Γ σ2 s H locs → lv_has ls 2 [(0, .ref (ga Γ 6 0)), (1, .int v1)] → W p l e { frames := 0, cells := 0, slots := 0, locals := 0 } s m [.ref (ga Γ 6 0)].toArray below meth c H locs 0 0 (MQ below (Qg Γ (none) τ (AA Γ s.heap.size)) [.ref (ga Γ 6 0)].toArray s 0 0 (AA Γ s.heap.size)) (F0 m 2 ls []) := by
    intro K hkk n
    induction n with
    | zero =>
      intro _ _ _ _ _ hf
      exact nomatch hf
    | succ n ih =>
      intro v1 σ2 H locs ls hf hw hl
      refine lv_iload_n hx hb dX4_startAnew_2 rfl (lv_at hl 1 rfl) ?_
      refine lv_sipush (v := 768) hx hb dX4_startAnew_3 (by decide) ?_
      refine q_ic_ge (tgt := 23) hx hb hf dX4_startAnew_6 (by decide) (fun hf => ?_) (fun hf => ?_)
      · exact hkk _ _ _ _ _ hf hw (lv_sub hl [0] rfl)
      refine lv_aload_n hx hb dX4_startAnew_9 rfl (lv_at hl 0 rfl) ?_
      refine q_get (v := .ref (ga Γ 128 0)) hx hb hK hw hown in_X4 ins_X4 (rfl : vwCl[6]? = some (RX4, TX4, 9)) rfl (Nat.le_of_ble_eq_true rfl : 0 < cnt (gn Γ) 6) 1 (by decide) 259 fl_X4_15 rfl rfl dX4_startAnew_10 ?_
      refine lv_iload_n hx hb dX4_startAnew_13 rfl (lv_at hl 1 rfl) ?_
      refine lv_ldc (v := 1000000) hx hb hown (kw_at hK.2.2.2.2.1 1107 (by decide +kernel) rfl) dX4_startAnew_14 ?_
      refine q_iast hx hb hK hw (k := 128) (o := 0) (fun _ _ _ => rfl) (Nat.le_of_ble_eq_true rfl : 0 < cnt (gn Γ) 128) hf dX4_startAnew_16 (fun σ3 H locs hf hw => ?_)
      refine q_iinc (lv1 := [(0, .ref (ga Γ 6 0))]) (d := 1) hx hb hf dX4_startAnew_17 hl (k := 1) rfl (by decide) (by decide) rfl (fun v4 ls hf hl => ?_)
      refine lv_goto (tgt := 2) hx hb dX4_startAnew_20 (by decide) ?_
      exact ih _ _ _ _ _ hf hw (lv_sub hl [1, 0] rfl)
  refine L2 _ (fun _ σ5 H locs ls hf hw hl => ?_) N (0 : Int32) σ _ _ _ hf hw (lv_sub hl [1, 0] rfl)
  refine lv_aload_n hx hb dX4_startAnew_23 rfl (lv_at hl 0 rfl) ?_
  refine q_get (v := .int (gI σ5 6 0 7)) hx hb hK hw hown in_X4 ins_X4 (rfl : vwCl[6]? = some (RX4, TX4, 9)) rfl (Nat.le_of_ble_eq_true rfl : 0 < cnt (gn Γ) 6) 7 (by decide) 265 fl_X4_28 rfl rfl dX4_startAnew_24 ?_
  refine q_if_lt (tgt := 66) hx hb hf dX4_startAnew_27 (by decide) (fun hf => ?_) (fun hf => ?_)
  · exact q_vret hx hb hr hk hw dX4_startAnew_66 hf (Nat.le_of_ble_eq_true rfl) (Nat.le_of_ble_eq_true rfl)
  refine lv_aload_n hx hb dX4_startAnew_30 rfl (lv_at hl 0 rfl) ?_
  refine q_get (v := .int (gI σ5 6 0 7)) hx hb hK hw hown in_X4 ins_X4 (rfl : vwCl[6]? = some (RX4, TX4, 9)) rfl (Nat.le_of_ble_eq_true rfl : 0 < cnt (gn Γ) 6) 7 (by decide) 265 fl_X4_28 rfl rfl dX4_startAnew_31 ?_
  refine lv_sipush (v := 384) hx hb dX4_startAnew_34 (by decide) ?_
  refine q_ic_ge (tgt := 66) hx hb hf dX4_startAnew_37 (by decide) (fun hf => ?_) (fun hf => ?_)
  · exact q_vret hx hb hr hk hw dX4_startAnew_66 hf (Nat.le_of_ble_eq_true rfl) (Nat.le_of_ble_eq_true rfl)
  refine lv_aload_n hx hb dX4_startAnew_40 rfl (lv_at hl 0 rfl) ?_
  refine q_get (v := .ref (ga Γ 128 0)) hx hb hK hw hown in_X4 ins_X4 (rfl : vwCl[6]? = some (RX4, TX4, 9)) rfl (Nat.le_of_ble_eq_true rfl : 0 < cnt (gn Γ) 6) 1 (by decide) 259 fl_X4_15 rfl rfl dX4_startAnew_41 ?_
  refine lv_aload_n hx hb dX4_startAnew_44 rfl (lv_at hl 0 rfl) ?_
  refine q_get (v := .int (gI σ5 6 0 7)) hx hb hK hw hown in_X4 ins_X4 (rfl : vwCl[6]? = some (RX4, TX4, 9)) rfl (Nat.le_of_ble_eq_true rfl : 0 < cnt (gn Γ) 6) 7 (by decide) 265 fl_X4_28 rfl rfl dX4_startAnew_45 ?_
  refine lv_iconst (v := 2) hx hb dX4_startAnew_48 (by decide) ?_
  refine lv_imul hx hb dX4_startAnew_49 ?_
  refine lv_iconst (v := 0) hx hb dX4_startAnew_50 (by decide) ?_
  refine q_iast hx hb hK hw (k := 128) (o := 0) (fun _ _ _ => rfl) (Nat.le_of_ble_eq_true rfl : 0 < cnt (gn Γ) 128) hf dX4_startAnew_51 (fun σ6 H locs hf hw => ?_)
  refine lv_aload_n hx hb dX4_startAnew_52 rfl (lv_at hl 0 rfl) ?_
  refine q_get (v := .ref (ga Γ 128 0)) hx hb hK hw hown in_X4 ins_X4 (rfl : vwCl[6]? = some (RX4, TX4, 9)) rfl (Nat.le_of_ble_eq_true rfl : 0 < cnt (gn Γ) 6) 1 (by decide) 259 fl_X4_15 rfl rfl dX4_startAnew_53 ?_
  refine lv_aload_n hx hb dX4_startAnew_56 rfl (lv_at hl 0 rfl) ?_
  refine q_get (v := .int (gI σ6 6 0 7)) hx hb hK hw hown in_X4 ins_X4 (rfl : vwCl[6]? = some (RX4, TX4, 9)) rfl (Nat.le_of_ble_eq_true rfl : 0 < cnt (gn Γ) 6) 7 (by decide) 265 fl_X4_28 rfl rfl dX4_startAnew_57 ?_
  refine lv_iconst (v := 2) hx hb dX4_startAnew_60 (by decide) ?_
  refine lv_imul hx hb dX4_startAnew_61 ?_
  refine lv_iconst (v := 1) hx hb dX4_startAnew_62 (by decide) ?_
  refine lv_iadd hx hb dX4_startAnew_63 ?_
  refine lv_iconst (v := 0) hx hb dX4_startAnew_64 (by decide) ?_
  refine q_iast hx hb hK hw (k := 128) (o := 0) (fun _ _ _ => rfl) (Nat.le_of_ble_eq_true rfl : 0 < cnt (gn Γ) 128) hf dX4_startAnew_65 (fun σ7 H locs hf hw => ?_)
  exact q_vret hx hb hr hk hw dX4_startAnew_66 hf (Nat.le_of_ble_eq_true rfl) (Nat.le_of_ble_eq_true rfl)
set_option maxRecDepth 100000 in
theorem kX4_pushHere {Γ : Gm} {S : List (String × Nat × String)} {l : Launch} {N : Nat} {σ τ : St} {x1 : Int32}  (hf : fX4_pushHere N σ x1 = some τ) : CT Γ S l yX4_pushHere cX4_pushHere 2 none 0 0 0 0 [.ref (ga Γ 6 0), .int x1] none σ τ := by
  unfold fX4_pushHere at hf
  refine ct_body (lv := [(0, .ref (ga Γ 6 0)), (1, .int x1)]) (by decide +kernel) rfl (Nat.le_of_ble_eq_true rfl) ?_
  intro p e s m below meth c ls X hr hk hK hw hl
  have hx := X.1
  have hb := X.2.1
  have hown := X.2.2.2
  refine lv_aload_n hx hb dX4_pushHere_0 rfl (lv_at hl 0 rfl) ?_
  refine q_get (v := .int (gI σ 6 0 5)) hx hb hK hw hown in_X4 ins_X4 (rfl : vwCl[6]? = some (RX4, TX4, 9)) rfl (Nat.le_of_ble_eq_true rfl : 0 < cnt (gn Γ) 6) 5 (by decide) 263 fl_X4_82 rfl rfl dX4_pushHere_1 ?_
  refine q_if_lt (tgt := 39) hx hb hf dX4_pushHere_4 (by decide) (fun hf => ?_) (fun hf => ?_)
  · exact q_vret hx hb hr hk hw dX4_pushHere_39 hf (Nat.le_of_ble_eq_true rfl) (Nat.le_of_ble_eq_true rfl)
  refine lv_aload_n hx hb dX4_pushHere_7 rfl (lv_at hl 0 rfl) ?_
  refine q_get (v := .int (gI σ 6 0 5)) hx hb hK hw hown in_X4 ins_X4 (rfl : vwCl[6]? = some (RX4, TX4, 9)) rfl (Nat.le_of_ble_eq_true rfl : 0 < cnt (gn Γ) 6) 5 (by decide) 263 fl_X4_82 rfl rfl dX4_pushHere_8 ?_
  refine lv_aload_n hx hb dX4_pushHere_11 rfl (lv_at hl 0 rfl) ?_
  have ho_h1 := of_decide_eq_true (ck_t hf).1
  replace hf := (ck_t hf).2
  refine q_get (v := .ref (ga Γ 131 ((gR σ 0)))) hx hb hK hw hown in_X4 ins_X4 (rfl : vwCl[6]? = some (RX4, TX4, 9)) rfl (Nat.le_of_ble_eq_true rfl : 0 < cnt (gn Γ) 6) 3 (by decide) 261 fl_X4_22 rfl rfl dX4_pushHere_12 ?_
  refine q_alenI (v := (768 : Int32)) hx hb hK hw (k := 131) (o := (gR σ 0)) (fun _ _ _ => rfl) ho_h1 rfl dX4_pushHere_15 ?_
  refine q_ic_ge (tgt := 39) hx hb hf dX4_pushHere_16 (by decide) (fun hf => ?_) (fun hf => ?_)
  · exact q_vret hx hb hr hk hw dX4_pushHere_39 hf (Nat.le_of_ble_eq_true rfl) (Nat.le_of_ble_eq_true rfl)
  refine lv_aload_n hx hb dX4_pushHere_19 rfl (lv_at hl 0 rfl) ?_
  have ho_h2 := of_decide_eq_true (ck_t hf).1
  replace hf := (ck_t hf).2
  refine q_get (v := .ref (ga Γ 131 ((gR σ 0)))) hx hb hK hw hown in_X4 ins_X4 (rfl : vwCl[6]? = some (RX4, TX4, 9)) rfl (Nat.le_of_ble_eq_true rfl : 0 < cnt (gn Γ) 6) 3 (by decide) 261 fl_X4_22 rfl rfl dX4_pushHere_20 ?_
  refine lv_aload_n hx hb dX4_pushHere_23 rfl (lv_at hl 0 rfl) ?_
  refine q_get (v := .int (gI σ 6 0 5)) hx hb hK hw hown in_X4 ins_X4 (rfl : vwCl[6]? = some (RX4, TX4, 9)) rfl (Nat.le_of_ble_eq_true rfl : 0 < cnt (gn Γ) 6) 5 (by decide) 263 fl_X4_82 rfl rfl dX4_pushHere_24 ?_
  refine lv_iload_n hx hb dX4_pushHere_27 rfl (lv_at hl 1 rfl) ?_
  refine q_iast hx hb hK hw (k := 131) (o := (gR σ 0)) (fun _ _ _ => rfl) ho_h2 hf dX4_pushHere_28 (fun σ3 H locs hf hw => ?_)
  refine lv_aload_n hx hb dX4_pushHere_29 rfl (lv_at hl 0 rfl) ?_
  refine lv_dup hx hb dX4_pushHere_30 rfl ?_
  refine q_get (v := .int (gI σ3 6 0 5)) hx hb hK hw hown in_X4 ins_X4 (rfl : vwCl[6]? = some (RX4, TX4, 9)) rfl (Nat.le_of_ble_eq_true rfl : 0 < cnt (gn Γ) 6) 5 (by decide) 263 fl_X4_82 rfl rfl dX4_pushHere_31 ?_
  refine lv_iconst (v := 1) hx hb dX4_pushHere_34 (by decide) ?_
  refine lv_iadd hx hb dX4_pushHere_35 ?_
  refine q_puti (v := ((gI σ3 6 0 5) + (1 : Int32))) hx hb hK hw hown in_X4 ins_X4 tyX4 tyX4_ok nmX4 (rfl : vwCl[6]? = some (RX4, TX4, 9)) (fun _ _ _ => rfl) (Nat.le_of_ble_eq_true rfl : 0 < cnt (gn Γ) 6) 5 (by decide) 263 fl_X4_82 rfl rfl rfl (fun _ _ _ => Nat.le_of_ble_eq_true rfl) (fun _ _ _ => rfl) hf dX4_pushHere_36 (fun σ4 H locs hf hw => ?_)
  exact q_vret hx hb hr hk hw dX4_pushHere_39 hf (Nat.le_of_ble_eq_true rfl) (Nat.le_of_ble_eq_true rfl)
set_option maxRecDepth 100000 in
theorem kX4_cellBeside {Γ : Gm} {S : List (String × Nat × String)} {l : Launch} {N : Nat} {σ : St} {x1 : Int32} {x2 : Int32} {r : Int32}  (hf : fX4_cellBeside N σ x1 x2 = some r) : CT Γ S l yX4_cellBeside cX4_cellBeside 4 (some (.int)) 1 21 0 0 [.int x1, .int x2] (some (.int r)) σ σ := by
  unfold fX4_cellBeside at hf
  refine ct_body (lv := [(0, .int x1), (1, .int x2)]) (by decide +kernel) rfl (Nat.le_of_ble_eq_true rfl) ?_
  intro p e s m below meth c ls X hr hk hK hw hl
  have hx := X.1
  have hb := X.2.1
  have hown := X.2.2.2
  refine lv_iload_n hx hb dX4_cellBeside_0 rfl (lv_at hl 0 rfl) ?_
  refine lv_bipush (v := 24) hx hb dX4_cellBeside_1 (by decide) ?_
  refine lv_irem hx hb dX4_cellBeside_3 (by decide) ?_
  refine q_istore_n (lv1 := [(0, .int x1), (1, .int x2)]) hx hb hf dX4_cellBeside_4 rfl hl (by decide) rfl (fun v1 ls hf hl => ?_)
  refine lv_iload_n hx hb dX4_cellBeside_5 rfl (lv_at hl 1 rfl) ?_
  refine lv_bipush (v := 24) hx hb dX4_cellBeside_6 (by decide) ?_
  refine lv_idiv hx hb dX4_cellBeside_8 (by decide) ?_
  refine q_istore_n (lv1 := [(2, .int v1), (0, .int x1), (1, .int x2)]) hx hb hf dX4_cellBeside_9 rfl hl (by decide) rfl (fun v2 ls hf hl => ?_)
  refine lv_iload_n hx hb dX4_cellBeside_10 rfl (lv_at hl 3 rfl) ?_
  refine q_sw3 (t0 := 36) (t1 := 44) (t2 := 52) (td := 60) hx hb hf dX4_cellBeside_11 (by decide) (by decide) (by decide) (by decide) (fun hf => ?_) (fun hf => ?_) (fun hf => ?_) (fun hf => ?_)
  · refine lv_iload_n hx hb dX4_cellBeside_36 rfl (lv_at hl 1 rfl) ?_
    refine lv_iconst (v := 1) hx hb dX4_cellBeside_37 (by decide) ?_
    refine lv_isub hx hb dX4_cellBeside_38 ?_
    refine lv_iload_n hx hb dX4_cellBeside_39 rfl (lv_at hl 0 rfl) ?_
    refine q_pI hf hw (fun v h => q_rSN (As := [.int (v1 - (1 : Int32)), .int v2]) (rest := []) X hK hw (kX7_cellAt h) msX7_cellAt lk_X4_71 ⟨Nat.le_of_ble_eq_true rfl, Nat.le_of_ble_eq_true rfl⟩ rfl hl.1 rfl (Nat.le_of_ble_eq_true rfl) dX4_cellBeside_40 ⟨Nat.le_of_ble_eq_true rfl, Nat.le_of_ble_eq_true rfl⟩) (fun v3 H locs hf hw => ?_)
    exact q_iret hf hx hb hr rfl hk hw dX4_cellBeside_43 (Nat.le_of_ble_eq_true rfl) (Nat.le_of_ble_eq_true rfl)
  · refine lv_iload_n hx hb dX4_cellBeside_44 rfl (lv_at hl 1 rfl) ?_
    refine lv_iconst (v := 1) hx hb dX4_cellBeside_45 (by decide) ?_
    refine lv_iadd hx hb dX4_cellBeside_46 ?_
    refine lv_iload_n hx hb dX4_cellBeside_47 rfl (lv_at hl 0 rfl) ?_
    refine q_pI hf hw (fun v h => q_rSN (As := [.int (v1 + (1 : Int32)), .int v2]) (rest := []) X hK hw (kX7_cellAt h) msX7_cellAt lk_X4_71 ⟨Nat.le_of_ble_eq_true rfl, Nat.le_of_ble_eq_true rfl⟩ rfl hl.1 rfl (Nat.le_of_ble_eq_true rfl) dX4_cellBeside_48 ⟨Nat.le_of_ble_eq_true rfl, Nat.le_of_ble_eq_true rfl⟩) (fun v4 H locs hf hw => ?_)
    exact q_iret hf hx hb hr rfl hk hw dX4_cellBeside_51 (Nat.le_of_ble_eq_true rfl) (Nat.le_of_ble_eq_true rfl)
  · refine lv_iload_n hx hb dX4_cellBeside_52 rfl (lv_at hl 1 rfl) ?_
    refine lv_iload_n hx hb dX4_cellBeside_53 rfl (lv_at hl 0 rfl) ?_
    refine lv_iconst (v := 1) hx hb dX4_cellBeside_54 (by decide) ?_
    refine lv_isub hx hb dX4_cellBeside_55 ?_
    refine q_pI hf hw (fun v h => q_rSN (As := [.int v1, .int (v2 - (1 : Int32))]) (rest := []) X hK hw (kX7_cellAt h) msX7_cellAt lk_X4_71 ⟨Nat.le_of_ble_eq_true rfl, Nat.le_of_ble_eq_true rfl⟩ rfl hl.1 rfl (Nat.le_of_ble_eq_true rfl) dX4_cellBeside_56 ⟨Nat.le_of_ble_eq_true rfl, Nat.le_of_ble_eq_true rfl⟩) (fun v5 H locs hf hw => ?_)
    exact q_iret hf hx hb hr rfl hk hw dX4_cellBeside_59 (Nat.le_of_ble_eq_true rfl) (Nat.le_of_ble_eq_true rfl)
  refine lv_iload_n hx hb dX4_cellBeside_60 rfl (lv_at hl 1 rfl) ?_
  refine lv_iload_n hx hb dX4_cellBeside_61 rfl (lv_at hl 0 rfl) ?_
  refine lv_iconst (v := 1) hx hb dX4_cellBeside_62 (by decide) ?_
  refine lv_iadd hx hb dX4_cellBeside_63 ?_
  refine q_pI hf hw (fun v h => q_rSN (As := [.int v1, .int (v2 + (1 : Int32))]) (rest := []) X hK hw (kX7_cellAt h) msX7_cellAt lk_X4_71 ⟨Nat.le_of_ble_eq_true rfl, Nat.le_of_ble_eq_true rfl⟩ rfl hl.1 rfl (Nat.le_of_ble_eq_true rfl) dX4_cellBeside_64 ⟨Nat.le_of_ble_eq_true rfl, Nat.le_of_ble_eq_true rfl⟩) (fun v6 H locs hf hw => ?_)
  exact q_iret hf hx hb hr rfl hk hw dX4_cellBeside_67 (Nat.le_of_ble_eq_true rfl) (Nat.le_of_ble_eq_true rfl)
