/-! Contracts, by program. -/
set_option maxRecDepth 100000 in
theorem kX7_isSide {Γ : Gm} {S : List (String × Nat × String)} {l : Launch} {N : Nat} {σ : St} {x1 : Int32} {r : Int32}  (hf : fX7_isSide N σ x1 = some r) : CT Γ S l yX7_isSide cX7_isSide 1 (some (.boolean)) 0 0 0 0 [.int x1] (some (.int r)) σ σ := by
  unfold fX7_isSide at hf
  refine ct_body (lv := [(0, .int x1)]) (by decide +kernel) rfl (Nat.le_of_ble_eq_true rfl) ?_
  intro p e s m below meth c ls X hr hk hK hw hl
  have hx := X.1
  have hb := X.2.1
  have hown := X.2.2.2
  refine lv_iload_n hx hb dX7_isSide_0 rfl (lv_at hl 0 rfl) ?_
  refine lv_iconst (v := 1) hx hb dX7_isSide_1 (by decide) ?_
  refine q_ic_lt (tgt := 15) hx hb hf dX7_isSide_2 (by decide) (fun hf => ?_) (fun hf => ?_)
  · refine lv_iconst (v := 0) hx hb dX7_isSide_15 (by decide) ?_
    exact q_iret hf hx hb hr rfl hk hw dX7_isSide_16 (Nat.le_of_ble_eq_true rfl) (Nat.le_of_ble_eq_true rfl)
  refine lv_iload_n hx hb dX7_isSide_5 rfl (lv_at hl 0 rfl) ?_
  refine lv_bipush (v := 8) hx hb dX7_isSide_6 (by decide) ?_
  refine q_ic_gt (tgt := 15) hx hb hf dX7_isSide_8 (by decide) (fun hf => ?_) (fun hf => ?_)
  · refine lv_iconst (v := 0) hx hb dX7_isSide_15 (by decide) ?_
    exact q_iret hf hx hb hr rfl hk hw dX7_isSide_16 (Nat.le_of_ble_eq_true rfl) (Nat.le_of_ble_eq_true rfl)
  refine lv_iconst (v := 1) hx hb dX7_isSide_11 (by decide) ?_
  refine lv_goto (tgt := 16) hx hb dX7_isSide_12 (by decide) ?_
  exact q_iret hf hx hb hr rfl hk hw dX7_isSide_16 (Nat.le_of_ble_eq_true rfl) (Nat.le_of_ble_eq_true rfl)
set_option maxRecDepth 100000 in
theorem kX7_fits {Γ : Gm} {S : List (String × Nat × String)} {l : Launch} {N : Nat} {σ : St} {x1 : Int32} {x2 : Int32} {x3 : Int32} {x4 : Int32} {r : Int32}  (hf : fX7_fits N σ x1 x2 x3 x4 = some r) : CT Γ S l yX7_fits cX7_fits 4 (some (.boolean)) 0 0 0 0 [.int x1, .int x2, .int x3, .int x4] (some (.int r)) σ σ := by
  unfold fX7_fits at hf
  refine ct_body (lv := [(0, .int x1), (1, .int x2), (2, .int x3), (3, .int x4)]) (by decide +kernel) rfl (Nat.le_of_ble_eq_true rfl) ?_
  intro p e s m below meth c ls X hr hk hK hw hl
  have hx := X.1
  have hb := X.2.1
  have hown := X.2.2.2
  refine lv_iload_n hx hb dX7_fits_0 rfl (lv_at hl 0 rfl) ?_
  refine q_if_lt (tgt := 28) hx hb hf dX7_fits_1 (by decide) (fun hf => ?_) (fun hf => ?_)
  · refine lv_iconst (v := 0) hx hb dX7_fits_28 (by decide) ?_
    exact q_iret hf hx hb hr rfl hk hw dX7_fits_29 (Nat.le_of_ble_eq_true rfl) (Nat.le_of_ble_eq_true rfl)
  refine lv_iload_n hx hb dX7_fits_4 rfl (lv_at hl 0 rfl) ?_
  refine lv_bipush (v := 24) hx hb dX7_fits_5 (by decide) ?_
  refine lv_iload_n hx hb dX7_fits_7 rfl (lv_at hl 2 rfl) ?_
  refine lv_isub hx hb dX7_fits_8 ?_
  refine q_ic_gt (tgt := 28) hx hb hf dX7_fits_9 (by decide) (fun hf => ?_) (fun hf => ?_)
  · refine lv_iconst (v := 0) hx hb dX7_fits_28 (by decide) ?_
    exact q_iret hf hx hb hr rfl hk hw dX7_fits_29 (Nat.le_of_ble_eq_true rfl) (Nat.le_of_ble_eq_true rfl)
  refine lv_iload_n hx hb dX7_fits_12 rfl (lv_at hl 1 rfl) ?_
  refine q_if_lt (tgt := 28) hx hb hf dX7_fits_13 (by decide) (fun hf => ?_) (fun hf => ?_)
  · refine lv_iconst (v := 0) hx hb dX7_fits_28 (by decide) ?_
    exact q_iret hf hx hb hr rfl hk hw dX7_fits_29 (Nat.le_of_ble_eq_true rfl) (Nat.le_of_ble_eq_true rfl)
  refine lv_iload_n hx hb dX7_fits_16 rfl (lv_at hl 1 rfl) ?_
  refine lv_bipush (v := 16) hx hb dX7_fits_17 (by decide) ?_
  refine lv_iload_n hx hb dX7_fits_19 rfl (lv_at hl 3 rfl) ?_
  refine lv_isub hx hb dX7_fits_20 ?_
  refine q_ic_gt (tgt := 28) hx hb hf dX7_fits_21 (by decide) (fun hf => ?_) (fun hf => ?_)
  · refine lv_iconst (v := 0) hx hb dX7_fits_28 (by decide) ?_
    exact q_iret hf hx hb hr rfl hk hw dX7_fits_29 (Nat.le_of_ble_eq_true rfl) (Nat.le_of_ble_eq_true rfl)
  refine lv_iconst (v := 1) hx hb dX7_fits_24 (by decide) ?_
  refine lv_goto (tgt := 29) hx hb dX7_fits_25 (by decide) ?_
  exact q_iret hf hx hb hr rfl hk hw dX7_fits_29 (Nat.le_of_ble_eq_true rfl) (Nat.le_of_ble_eq_true rfl)
set_option maxRecDepth 100000 in
theorem kX1_isFull {Γ : Gm} {S : List (String × Nat × String)} {l : Launch} {N : Nat} {σ : St} {r : Int32}  (hf : fX1_isFull N σ = some r) : CT Γ S l yX1_isFull cX1_isFull 1 (some (.boolean)) 0 0 0 0 [.ref (ga Γ 1 0)] (some (.int r)) σ σ := by
  unfold fX1_isFull at hf
  refine ct_body (lv := [(0, .ref (ga Γ 1 0))]) (by decide +kernel) rfl (Nat.le_of_ble_eq_true rfl) ?_
  intro p e s m below meth c ls X hr hk hK hw hl
  have hx := X.1
  have hb := X.2.1
  have hown := X.2.2.2
  refine lv_aload_n hx hb dX1_isFull_0 rfl (lv_at hl 0 rfl) ?_
  refine q_get (v := .int (gI σ 1 0 11)) hx hb hK hw hown in_X1 ins_X1 (rfl : vwCl[3]? = some (RX1, TX1, 13)) rfl (Nat.le_of_ble_eq_true rfl : 0 < cnt (gn Γ) 1) 11 (by decide) 115 fl_X1_47 rfl rfl dX1_isFull_1 ?_
  refine lv_sipush (v := 250) hx hb dX1_isFull_4 (by decide) ?_
  refine q_ic_lt (tgt := 14) hx hb hf dX1_isFull_7 (by decide) (fun hf => ?_) (fun hf => ?_)
  · refine lv_iconst (v := 0) hx hb dX1_isFull_14 (by decide) ?_
    exact q_iret hf hx hb hr rfl hk hw dX1_isFull_15 (Nat.le_of_ble_eq_true rfl) (Nat.le_of_ble_eq_true rfl)
  refine lv_iconst (v := 1) hx hb dX1_isFull_10 (by decide) ?_
  refine lv_goto (tgt := 15) hx hb dX1_isFull_11 (by decide) ?_
  exact q_iret hf hx hb hr rfl hk hw dX1_isFull_15 (Nat.le_of_ble_eq_true rfl) (Nat.le_of_ble_eq_true rfl)
set_option maxRecDepth 100000 in
theorem kX2_hasShape {Γ : Gm} {S : List (String × Nat × String)} {l : Launch} {N : Nat} {σ : St} {x1 : Int32} {r : Int32}  (hf : fX2_hasShape N σ x1 = some r) : CT Γ S l yX2_hasShape cX2_hasShape 2 (some (.boolean)) 0 0 0 0 [.ref (ga Γ 2 0), .int x1] (some (.int r)) σ σ := by
  unfold fX2_hasShape at hf
  refine ct_body (lv := [(0, .ref (ga Γ 2 0)), (1, .int x1)]) (by decide +kernel) rfl (Nat.le_of_ble_eq_true rfl) ?_
  intro p e s m below meth c ls X hr hk hK hw hl
  have hx := X.1
  have hb := X.2.1
  have hown := X.2.2.2
  refine lv_iload_n hx hb dX2_hasShape_0 rfl (lv_at hl 1 rfl) ?_
  refine q_if_lt (tgt := 16) hx hb hf dX2_hasShape_1 (by decide) (fun hf => ?_) (fun hf => ?_)
  · refine lv_iconst (v := 0) hx hb dX2_hasShape_16 (by decide) ?_
    exact q_iret hf hx hb hr rfl hk hw dX2_hasShape_17 (Nat.le_of_ble_eq_true rfl) (Nat.le_of_ble_eq_true rfl)
  refine lv_iload_n hx hb dX2_hasShape_4 rfl (lv_at hl 1 rfl) ?_
  refine lv_aload_n hx hb dX2_hasShape_5 rfl (lv_at hl 0 rfl) ?_
  refine q_get (v := .int (gI σ 2 0 7)) hx hb hK hw hown in_X2 ins_X2 (rfl : vwCl[4]? = some (RX2, TX2, 9)) rfl (Nat.le_of_ble_eq_true rfl : 0 < cnt (gn Γ) 2) 7 (by decide) 162 fl_X2_35 rfl rfl dX2_hasShape_6 ?_
  refine q_ic_ge (tgt := 16) hx hb hf dX2_hasShape_9 (by decide) (fun hf => ?_) (fun hf => ?_)
  · refine lv_iconst (v := 0) hx hb dX2_hasShape_16 (by decide) ?_
    exact q_iret hf hx hb hr rfl hk hw dX2_hasShape_17 (Nat.le_of_ble_eq_true rfl) (Nat.le_of_ble_eq_true rfl)
  refine lv_iconst (v := 1) hx hb dX2_hasShape_12 (by decide) ?_
  refine lv_goto (tgt := 17) hx hb dX2_hasShape_13 (by decide) ?_
  exact q_iret hf hx hb hr rfl hk hw dX2_hasShape_17 (Nat.le_of_ble_eq_true rfl) (Nat.le_of_ble_eq_true rfl)
set_option maxRecDepth 100000 in
theorem kX0_valueAt {Γ : Gm} {S : List (String × Nat × String)} {l : Launch} {N : Nat} {σ : St} {o : Nat} {x1 : Int32} {r : UInt32} (ho : o < 5) (hf : fX0_valueAt N σ o x1 = some r) : CT Γ S l yX0_valueAt cX0_valueAt 2 (some (.float)) 0 0 0 0 [.ref (ga Γ 3 o), .int x1] (some (.float r)) σ σ := by
  unfold fX0_valueAt at hf
  refine ct_body (lv := [(0, .ref (ga Γ 3 o)), (1, .int x1)]) (by decide +kernel) rfl (Nat.le_of_ble_eq_true rfl) ?_
  intro p e s m below meth c ls X hr hk hK hw hl
  have hx := X.1
  have hb := X.2.1
  have hown := X.2.2.2
  refine lv_iload_n hx hb dX0_valueAt_0 rfl (lv_at hl 1 rfl) ?_
  refine q_if_lt (tgt := 19) hx hb hf dX0_valueAt_1 (by decide) (fun hf => ?_) (fun hf => ?_)
  · refine lv_fconst0 hx hb dX0_valueAt_19 ?_
    exact q_fret hf hx hb hr hk hw dX0_valueAt_20 (Nat.le_of_ble_eq_true rfl) (Nat.le_of_ble_eq_true rfl)
  refine lv_iload_n hx hb dX0_valueAt_4 rfl (lv_at hl 1 rfl) ?_
  refine lv_bipush (v := 93) hx hb dX0_valueAt_5 (by decide) ?_
  refine q_ic_ge (tgt := 19) hx hb hf dX0_valueAt_7 (by decide) (fun hf => ?_) (fun hf => ?_)
  · refine lv_fconst0 hx hb dX0_valueAt_19 ?_
    exact q_fret hf hx hb hr hk hw dX0_valueAt_20 (Nat.le_of_ble_eq_true rfl) (Nat.le_of_ble_eq_true rfl)
  refine lv_aload_n hx hb dX0_valueAt_10 rfl (lv_at hl 0 rfl) ?_
  refine q_get (v := .ref (ga Γ 120 o)) hx hb hK hw hown in_X0 ins_X0 (rfl : vwCl[2]? = some (RX0, TX0, 4)) rfl ho 1 (by decide) 201 fl_X0_9 rfl rfl dX0_valueAt_11 ?_
  refine lv_iload_n hx hb dX0_valueAt_14 rfl (lv_at hl 1 rfl) ?_
  refine q_fald hx hb hK hw (k := 120) (o := o) (fun _ _ _ => rfl) ho hf dX0_valueAt_15 (fun hf => ?_)
  refine lv_goto (tgt := 20) hx hb dX0_valueAt_16 (by decide) ?_
  exact q_fret hf hx hb hr hk hw dX0_valueAt_20 (Nat.le_of_ble_eq_true rfl) (Nat.le_of_ble_eq_true rfl)
set_option maxRecDepth 100000 in
theorem kX6_isSeen {Γ : Gm} {S : List (String × Nat × String)} {l : Launch} {N : Nat} {σ : St} {o : Nat} {x1 : Int32} {r : Int32} (ho : o < 4) (hf : fX6_isSeen N σ o x1 = some r) : CT Γ S l yX6_isSeen cX6_isSeen 2 (some (.boolean)) 1 21 0 0 [.ref (ga Γ 7 o), .int x1] (some (.int r)) σ σ := by
  unfold fX6_isSeen at hf
  refine ct_body (lv := [(0, .ref (ga Γ 7 o)), (1, .int x1)]) (by decide +kernel) rfl (Nat.le_of_ble_eq_true rfl) ?_
  intro p e s m below meth c ls X hr hk hK hw hl
  have hx := X.1
  have hb := X.2.1
  have hown := X.2.2.2
  refine lv_aload_n hx hb dX6_isSeen_0 rfl (lv_at hl 0 rfl) ?_
  refine q_get (v := .ref (ga Γ 2 0)) hx hb hK hw hown in_X6 ins_X6 (rfl : vwCl[8]? = some (RX6, TX6, 2)) rfl ho 1 (by decide) 220 fl_X6_15 rfl rfl dX6_isSeen_1 ?_
  refine lv_iload_n hx hb dX6_isSeen_4 rfl (lv_at hl 1 rfl) ?_
  refine q_pI hf hw (fun v h => q_rV (As := [.int x1]) (rest := []) (q := (RX2, TX2, 9)) X hK hw rfl (Nat.le_of_ble_eq_true rfl : 0 < cnt (gn Γ) 2) (rfl : vwCl[4]? = _) (kX2_hasShape h) mvX2_hasShape lk_X6_19 ⟨Nat.le_of_ble_eq_true rfl, Nat.le_of_ble_eq_true rfl⟩ rfl hl.1 rfl (Nat.le_of_ble_eq_true rfl) dX6_isSeen_5 ⟨Nat.le_of_ble_eq_true rfl, Nat.le_of_ble_eq_true rfl⟩) (fun v1 H locs hf hw => ?_)
  refine q_if_eq (tgt := 30) hx hb hf dX6_isSeen_8 (by decide) (fun hf => ?_) (fun hf => ?_)
  · refine lv_iconst (v := 0) hx hb dX6_isSeen_30 (by decide) ?_
    exact q_iret hf hx hb hr rfl hk hw dX6_isSeen_31 (Nat.le_of_ble_eq_true rfl) (Nat.le_of_ble_eq_true rfl)
  refine lv_aload_n hx hb dX6_isSeen_11 rfl (lv_at hl 0 rfl) ?_
  refine q_get (v := .ref (ga Γ 3 o)) hx hb hK hw hown in_X6 ins_X6 (rfl : vwCl[8]? = some (RX6, TX6, 2)) rfl ho 0 (by decide) 219 fl_X6_9 rfl rfl dX6_isSeen_12 ?_
  refine lv_iconst (v := 0) hx hb dX6_isSeen_15 (by decide) ?_
  refine lv_iload_n hx hb dX6_isSeen_16 rfl (lv_at hl 1 rfl) ?_
  refine lv_iadd hx hb dX6_isSeen_17 ?_
  refine q_pF hf hw (fun v h => q_rV (As := [.int ((0 : Int32) + x1)]) (rest := []) (q := (RX0, TX0, 4)) X hK hw rfl (Nat.lt_of_lt_of_le ho (Nat.le_of_ble_eq_true rfl : 4 ≤ cnt (gn Γ) 3)) (rfl : vwCl[2]? = _) (kX0_valueAt (Nat.lt_of_lt_of_le ho (Nat.le_of_ble_eq_true rfl : 4 ≤ cnt (gn Γ) 3)) h) mvX0_valueAt lk_X6_25 ⟨Nat.le_of_ble_eq_true rfl, Nat.le_of_ble_eq_true rfl⟩ rfl hl.1 rfl (Nat.le_of_ble_eq_true rfl) dX6_isSeen_18 ⟨Nat.le_of_ble_eq_true rfl, Nat.le_of_ble_eq_true rfl⟩) (fun v2 H locs hf hw => ?_)
  refine lv_fconst0 hx hb dX6_isSeen_21 ?_
  refine lv_fcmp hx hb dX6_isSeen_22 ?_
  refine q_if_eq (tgt := 30) hx hb hf dX6_isSeen_23 (by decide) (fun hf => ?_) (fun hf => ?_)
  · refine lv_iconst (v := 0) hx hb dX6_isSeen_30 (by decide) ?_
    exact q_iret hf hx hb hr rfl hk hw dX6_isSeen_31 (Nat.le_of_ble_eq_true rfl) (Nat.le_of_ble_eq_true rfl)
  refine lv_iconst (v := 1) hx hb dX6_isSeen_26 (by decide) ?_
  refine lv_goto (tgt := 31) hx hb dX6_isSeen_27 (by decide) ?_
  exact q_iret hf hx hb hr rfl hk hw dX6_isSeen_31 (Nat.le_of_ble_eq_true rfl) (Nat.le_of_ble_eq_true rfl)
set_option maxRecDepth 100000 in
theorem kX6_countShapes {Γ : Gm} {S : List (String × Nat × String)} {l : Launch} {N : Nat} {σ : St} {o : Nat} {r : Int32} (ho : o < 4) (hf : fX6_countShapes N σ o = some r) : CT Γ S l yX6_countShapes cX6_countShapes 3 (some (.int)) 2 42 0 0 [.ref (ga Γ 7 o)] (some (.int r)) σ σ := by
  unfold fX6_countShapes at hf
  refine ct_body (lv := [(0, .ref (ga Γ 7 o))]) (by decide +kernel) rfl (Nat.le_of_ble_eq_true rfl) ?_
  intro p e s m below meth c ls X hr hk hK hw hl
  have hx := X.1
  have hb := X.2.1
  have hown := X.2.2.2
  refine lv_iconst (v := 0) hx hb dX6_countShapes_0 (by decide) ?_
  refine lv_istore_n (lv' := [(1, .int (0 : Int32)), (0, .ref (ga Γ 7 o))]) hx hb dX6_countShapes_1 rfl hl (by decide) rfl (fun ls hl => ?_)
  refine lv_iconst (v := 0) hx hb dX6_countShapes_2 (by decide) ?_
  refine lv_istore_n (lv' := [(2, .int (0 : Int32)), (1, .int (0 : Int32)), (0, .ref (ga Γ 7 o))]) hx hb dX6_countShapes_3 rfl hl (by decide) rfl (fun ls hl => ?_)
  have L4 : ∀ (K : Int32 → Int32 → Option (Int32)) (hkk : ∀ (y1 : Int32) (y2 : Int32) (H : Heap) (locs : List Loc) (ls : Array Slot), K y1 y2 = some r → Sit Γ σ s H locs → lv_has ls 3 [(1, .int y1)] → W p l e { frames := 2, cells := 0, slots := 0, locals := 42 } s m [.ref (ga Γ 7 o)].toArray below meth c H locs 0 0 (MQ below (Qg Γ (some (.int r)) σ (AA Γ s.heap.size)) [.ref (ga Γ 7 o)].toArray s 0 0 (AA Γ s.heap.size)) (F0 m 27 ls [])) (n : Nat) (v1 : Int32) (v2 : Int32) (H : Heap) (locs : List Loc) (ls : Array Slot), fX6_countShapes_L4 K N σ o n v1 v2 = some r → Sit Γ σ s H locs → lv_has ls 3 [(0, .ref (ga Γ 7 o)), (1, .int v1), (2, .int v2)] → W p l e { frames := 2, cells := 0, slots := 0, locals := 42 } s m [.ref (ga Γ 7 o)].toArray below meth c H locs 0 0 (MQ below (Qg Γ (some (.int r)) σ (AA Γ s.heap.size)) [.ref (ga Γ 7 o)].toArray s 0 0 (AA Γ s.heap.size)) (F0 m 4 ls []) := by
    intro K hkk n
    induction n with
    | zero =>
      intro _ _ _ _ _ hf
      exact nomatch hf
    | succ n ih =>
      intro v1 v2 H locs ls hf hw hl
      refine lv_iload_n hx hb dX6_countShapes_4 rfl (lv_at hl 2 rfl) ?_
      refine lv_bipush (v := 12) hx hb dX6_countShapes_5 (by decide) ?_
      refine q_ic_ge (tgt := 27) hx hb hf dX6_countShapes_7 (by decide) (fun hf => ?_) (fun hf => ?_)
      · exact hkk _ _ _ _ _ hf hw (lv_sub hl [1] rfl)
      refine lv_aload_n hx hb dX6_countShapes_10 rfl (lv_at hl 0 rfl) ?_
      refine lv_iload_n hx hb dX6_countShapes_11 rfl (lv_at hl 2 rfl) ?_
      refine q_pI hf hw (fun v h => q_rV (As := [.int v2]) (rest := []) (q := (RX6, TX6, 2)) X hK hw rfl ho (rfl : vwCl[8]? = _) (kX6_isSeen ho h) mvX6_isSeen lk_X6_31 ⟨Nat.le_of_ble_eq_true rfl, Nat.le_of_ble_eq_true rfl⟩ rfl hl.1 rfl (Nat.le_of_ble_eq_true rfl) dX6_countShapes_12 ⟨Nat.le_of_ble_eq_true rfl, Nat.le_of_ble_eq_true rfl⟩) (fun v3 H locs hf hw => ?_)
      refine q_if_eq (tgt := 21) hx hb hf dX6_countShapes_15 (by decide) (fun hf => ?_) (fun hf => ?_)
      · refine q_iinc (lv1 := [(0, .ref (ga Γ 7 o)), (1, .int v1)]) (d := 1) hx hb hf dX6_countShapes_21 hl (k := 2) rfl (by decide) (by decide) rfl (fun v4 ls hf hl => ?_)
        refine lv_goto (tgt := 4) hx hb dX6_countShapes_24 (by decide) ?_
        exact ih _ _ _ _ _ hf hw (lv_sub hl [1, 2, 0] rfl)
      refine q_iinc (lv1 := [(0, .ref (ga Γ 7 o)), (2, .int v2)]) (d := 1) hx hb hf dX6_countShapes_18 hl (k := 1) rfl (by decide) (by decide) rfl (fun v5 ls hf hl => ?_)
      refine q_iinc (lv1 := [(1, .int v5), (0, .ref (ga Γ 7 o))]) (d := 1) hx hb hf dX6_countShapes_21 hl (k := 2) rfl (by decide) (by decide) rfl (fun v6 ls hf hl => ?_)
      refine lv_goto (tgt := 4) hx hb dX6_countShapes_24 (by decide) ?_
      exact ih _ _ _ _ _ hf hw (lv_sub hl [2, 1, 0] rfl)
  refine L4 _ (fun v7 _ H locs ls hf hw hl => ?_) N (0 : Int32) (0 : Int32) _ _ _ hf hw (lv_sub hl [2, 1, 0] rfl)
  refine lv_iload_n hx hb dX6_countShapes_27 rfl (lv_at hl 0 rfl) ?_
  exact q_iret hf hx hb hr rfl hk hw dX6_countShapes_28 (Nat.le_of_ble_eq_true rfl) (Nat.le_of_ble_eq_true rfl)
set_option maxRecDepth 100000 in
theorem kX6_keyAt {Γ : Gm} {S : List (String × Nat × String)} {l : Launch} {N : Nat} {σ : St} {o : Nat} {x1 : Int32} {r : UInt32} (ho : o < 4) (hf : fX6_keyAt N σ o x1 = some r) : CT Γ S l yX6_keyAt cX6_keyAt 2 (some (.float)) 1 21 0 0 [.ref (ga Γ 7 o), .int x1] (some (.float r)) σ σ := by
  unfold fX6_keyAt at hf
  refine ct_body (lv := [(0, .ref (ga Γ 7 o)), (1, .int x1)]) (by decide +kernel) rfl (Nat.le_of_ble_eq_true rfl) ?_
  intro p e s m below meth c ls X hr hk hK hw hl
  have hx := X.1
  have hb := X.2.1
  have hown := X.2.2.2
  refine lv_aload_n hx hb dX6_keyAt_0 rfl (lv_at hl 0 rfl) ?_
  refine q_get (v := .ref (ga Γ 3 o)) hx hb hK hw hown in_X6 ins_X6 (rfl : vwCl[8]? = some (RX6, TX6, 2)) rfl ho 0 (by decide) 219 fl_X6_9 rfl rfl dX6_keyAt_1 ?_
  refine lv_bipush (v := 24) hx hb dX6_keyAt_4 (by decide) ?_
  refine lv_iload_n hx hb dX6_keyAt_6 rfl (lv_at hl 1 rfl) ?_
  refine lv_iadd hx hb dX6_keyAt_7 ?_
  refine q_pF hf hw (fun v h => q_rV (As := [.int ((24 : Int32) + x1)]) (rest := []) (q := (RX0, TX0, 4)) X hK hw rfl (Nat.lt_of_lt_of_le ho (Nat.le_of_ble_eq_true rfl : 4 ≤ cnt (gn Γ) 3)) (rfl : vwCl[2]? = _) (kX0_valueAt (Nat.lt_of_lt_of_le ho (Nat.le_of_ble_eq_true rfl : 4 ≤ cnt (gn Γ) 3)) h) mvX0_valueAt lk_X6_25 ⟨Nat.le_of_ble_eq_true rfl, Nat.le_of_ble_eq_true rfl⟩ rfl hl.1 rfl (Nat.le_of_ble_eq_true rfl) dX6_keyAt_8 ⟨Nat.le_of_ble_eq_true rfl, Nat.le_of_ble_eq_true rfl⟩) (fun v1 H locs hf hw => ?_)
  exact q_fret hf hx hb hr hk hw dX6_keyAt_11 (Nat.le_of_ble_eq_true rfl) (Nat.le_of_ble_eq_true rfl)
set_option maxRecDepth 100000 in
theorem kX6_isBelow {Γ : Gm} {S : List (String × Nat × String)} {l : Launch} {N : Nat} {σ : St} {o : Nat} {x1 : Int32} {x2 : Int32} {r : Int32} (ho : o < 4) (hf : fX6_isBelow N σ o x1 x2 = some r) : CT Γ S l yX6_isBelow cX6_isBelow 5 (some (.boolean)) 2 42 0 0 [.ref (ga Γ 7 o), .int x1, .int x2] (some (.int r)) σ σ := by
  unfold fX6_isBelow at hf
  refine ct_body (lv := [(0, .ref (ga Γ 7 o)), (1, .int x1), (2, .int x2)]) (by decide +kernel) rfl (Nat.le_of_ble_eq_true rfl) ?_
  intro p e s m below meth c ls X hr hk hK hw hl
  have hx := X.1
  have hb := X.2.1
  have hown := X.2.2.2
  refine lv_aload_n hx hb dX6_isBelow_0 rfl (lv_at hl 0 rfl) ?_
  refine lv_iload_n hx hb dX6_isBelow_1 rfl (lv_at hl 1 rfl) ?_
  refine q_pF hf hw (fun v h => q_rV (As := [.int x1]) (rest := []) (q := (RX6, TX6, 2)) X hK hw rfl ho (rfl : vwCl[8]? = _) (kX6_keyAt ho h) mvX6_keyAt lk_X6_51 ⟨Nat.le_of_ble_eq_true rfl, Nat.le_of_ble_eq_true rfl⟩ rfl hl.1 rfl (Nat.le_of_ble_eq_true rfl) dX6_isBelow_2 ⟨Nat.le_of_ble_eq_true rfl, Nat.le_of_ble_eq_true rfl⟩) (fun v1 H locs hf hw => ?_)
  refine lv_fstore_n (lv' := [(3, .float v1), (0, .ref (ga Γ 7 o)), (1, .int x1), (2, .int x2)]) hx hb dX6_isBelow_5 rfl hl (by decide) rfl (fun ls hl => ?_)
  refine lv_aload_n hx hb dX6_isBelow_6 rfl (lv_at hl 1 rfl) ?_
  refine lv_iload_n hx hb dX6_isBelow_7 rfl (lv_at hl 3 rfl) ?_
  refine q_pF hf hw (fun v h => q_rV (As := [.int x2]) (rest := []) (q := (RX6, TX6, 2)) X hK hw rfl ho (rfl : vwCl[8]? = _) (kX6_keyAt ho h) mvX6_keyAt lk_X6_51 ⟨Nat.le_of_ble_eq_true rfl, Nat.le_of_ble_eq_true rfl⟩ rfl hl.1 rfl (Nat.le_of_ble_eq_true rfl) dX6_isBelow_8 ⟨Nat.le_of_ble_eq_true rfl, Nat.le_of_ble_eq_true rfl⟩) (fun v2 H locs hf hw => ?_)
  refine lv_fstore (lv' := [(4, .float v2), (3, .float v1), (0, .ref (ga Γ 7 o)), (1, .int x1), (2, .int x2)]) hx hb dX6_isBelow_11 hl (by decide) rfl (fun ls hl => ?_)
  refine lv_fload_n hx hb dX6_isBelow_13 rfl (lv_at hl 1 rfl) ?_
  refine lv_fload hx hb dX6_isBelow_14 (lv_at hl 0 rfl) ?_
  refine lv_fcmp hx hb dX6_isBelow_16 ?_
  refine q_if_lt (tgt := 32) hx hb hf dX6_isBelow_17 (by decide) (fun hf => ?_) (fun hf => ?_)
  · refine lv_iconst (v := 1) hx hb dX6_isBelow_32 (by decide) ?_
    refine lv_goto (tgt := 37) hx hb dX6_isBelow_33 (by decide) ?_
    exact q_iret hf hx hb hr rfl hk hw dX6_isBelow_37 (Nat.le_of_ble_eq_true rfl) (Nat.le_of_ble_eq_true rfl)
  refine lv_fload_n hx hb dX6_isBelow_20 rfl (lv_at hl 1 rfl) ?_
  refine lv_fload hx hb dX6_isBelow_21 (lv_at hl 0 rfl) ?_
  refine lv_fcmp hx hb dX6_isBelow_23 ?_
  refine q_if_ne (tgt := 36) hx hb hf dX6_isBelow_24 (by decide) (fun hf => ?_) (fun hf => ?_)
  · refine lv_iconst (v := 0) hx hb dX6_isBelow_36 (by decide) ?_
    exact q_iret hf hx hb hr rfl hk hw dX6_isBelow_37 (Nat.le_of_ble_eq_true rfl) (Nat.le_of_ble_eq_true rfl)
  refine lv_iload_n hx hb dX6_isBelow_27 rfl (lv_at hl 3 rfl) ?_
  refine lv_iload_n hx hb dX6_isBelow_28 rfl (lv_at hl 4 rfl) ?_
  refine q_ic_ge (tgt := 36) hx hb hf dX6_isBelow_29 (by decide) (fun hf => ?_) (fun hf => ?_)
  · refine lv_iconst (v := 0) hx hb dX6_isBelow_36 (by decide) ?_
    exact q_iret hf hx hb hr rfl hk hw dX6_isBelow_37 (Nat.le_of_ble_eq_true rfl) (Nat.le_of_ble_eq_true rfl)
  refine lv_iconst (v := 1) hx hb dX6_isBelow_32 (by decide) ?_
  refine lv_goto (tgt := 37) hx hb dX6_isBelow_33 (by decide) ?_
  exact q_iret hf hx hb hr rfl hk hw dX6_isBelow_37 (Nat.le_of_ble_eq_true rfl) (Nat.le_of_ble_eq_true rfl)
set_option maxRecDepth 100000 in
theorem kX6_rankAt {Γ : Gm} {S : List (String × Nat × String)} {l : Launch} {N : Nat} {σ : St} {o : Nat} {x1 : Int32} {r : Int32} (ho : o < 4) (hf : fX6_rankAt N σ o x1 = some r) : CT Γ S l yX6_rankAt cX6_rankAt 4 (some (.int)) 3 66 0 0 [.ref (ga Γ 7 o), .int x1] (some (.int r)) σ σ := by
  unfold fX6_rankAt at hf
  refine ct_body (lv := [(0, .ref (ga Γ 7 o)), (1, .int x1)]) (by decide +kernel) rfl (Nat.le_of_ble_eq_true rfl) ?_
  intro p e s m below meth c ls X hr hk hK hw hl
  have hx := X.1
  have hb := X.2.1
  have hown := X.2.2.2
  refine lv_iconst (v := 0) hx hb dX6_rankAt_0 (by decide) ?_
  refine lv_istore_n (lv' := [(2, .int (0 : Int32)), (0, .ref (ga Γ 7 o)), (1, .int x1)]) hx hb dX6_rankAt_1 rfl hl (by decide) rfl (fun ls hl => ?_)
  refine lv_iconst (v := 0) hx hb dX6_rankAt_2 (by decide) ?_
  refine lv_istore_n (lv' := [(3, .int (0 : Int32)), (2, .int (0 : Int32)), (0, .ref (ga Γ 7 o)), (1, .int x1)]) hx hb dX6_rankAt_3 rfl hl (by decide) rfl (fun ls hl => ?_)
  have L4 : ∀ (K : Int32 → Int32 → Option (Int32)) (hkk : ∀ (y2 : Int32) (y3 : Int32) (H : Heap) (locs : List Loc) (ls : Array Slot), K y2 y3 = some r → Sit Γ σ s H locs → lv_has ls 4 [(2, .int y2)] → W p l e { frames := 3, cells := 0, slots := 0, locals := 66 } s m [.ref (ga Γ 7 o), .int x1].toArray below meth c H locs 0 0 (MQ below (Qg Γ (some (.int r)) σ (AA Γ s.heap.size)) [.ref (ga Γ 7 o), .int x1].toArray s 0 0 (AA Γ s.heap.size)) (F0 m 36 ls [])) (n : Nat) (v1 : Int32) (v2 : Int32) (H : Heap) (locs : List Loc) (ls : Array Slot), fX6_rankAt_L4 K N σ o x1 n v1 v2 = some r → Sit Γ σ s H locs → lv_has ls 4 [(0, .ref (ga Γ 7 o)), (1, .int x1), (2, .int v1), (3, .int v2)] → W p l e { frames := 3, cells := 0, slots := 0, locals := 66 } s m [.ref (ga Γ 7 o), .int x1].toArray below meth c H locs 0 0 (MQ below (Qg Γ (some (.int r)) σ (AA Γ s.heap.size)) [.ref (ga Γ 7 o), .int x1].toArray s 0 0 (AA Γ s.heap.size)) (F0 m 4 ls []) := by
    intro K hkk n
    induction n with
    | zero =>
      intro _ _ _ _ _ hf
      exact nomatch hf
    | succ n ih =>
      intro v1 v2 H locs ls hf hw hl
      refine lv_iload_n hx hb dX6_rankAt_4 rfl (lv_at hl 3 rfl) ?_
      refine lv_bipush (v := 12) hx hb dX6_rankAt_5 (by decide) ?_
      refine q_ic_ge (tgt := 36) hx hb hf dX6_rankAt_7 (by decide) (fun hf => ?_) (fun hf => ?_)
      · exact hkk _ _ _ _ _ hf hw (lv_sub hl [2] rfl)
      refine lv_aload_n hx hb dX6_rankAt_10 rfl (lv_at hl 0 rfl) ?_
      refine lv_iload_n hx hb dX6_rankAt_11 rfl (lv_at hl 3 rfl) ?_
      refine q_pI hf hw (fun v h => q_rV (As := [.int v2]) (rest := []) (q := (RX6, TX6, 2)) X hK hw rfl ho (rfl : vwCl[8]? = _) (kX6_isSeen ho h) mvX6_isSeen lk_X6_31 ⟨Nat.le_of_ble_eq_true rfl, Nat.le_of_ble_eq_true rfl⟩ rfl hl.1 rfl (Nat.le_of_ble_eq_true rfl) dX6_rankAt_12 ⟨Nat.le_of_ble_eq_true rfl, Nat.le_of_ble_eq_true rfl⟩) (fun v3 H locs hf hw => ?_)
      refine q_if_eq (tgt := 30) hx hb hf dX6_rankAt_15 (by decide) (fun hf => ?_) (fun hf => ?_)
      · refine q_iinc (lv1 := [(0, .ref (ga Γ 7 o)), (1, .int x1), (2, .int v1)]) (d := 1) hx hb hf dX6_rankAt_30 hl (k := 3) rfl (by decide) (by decide) rfl (fun v4 ls hf hl => ?_)
        refine lv_goto (tgt := 4) hx hb dX6_rankAt_33 (by decide) ?_
        exact ih _ _ _ _ _ hf hw (lv_sub hl [1, 2, 3, 0] rfl)
      refine lv_aload_n hx hb dX6_rankAt_18 rfl (lv_at hl 0 rfl) ?_
      refine lv_iload_n hx hb dX6_rankAt_19 rfl (lv_at hl 3 rfl) ?_
      refine lv_iload_n hx hb dX6_rankAt_20 rfl (lv_at hl 1 rfl) ?_
      refine q_pI hf hw (fun v h => q_rV (As := [.int v2, .int x1]) (rest := []) (q := (RX6, TX6, 2)) X hK hw rfl ho (rfl : vwCl[8]? = _) (kX6_isBelow ho h) mvX6_isBelow lk_X6_54 ⟨Nat.le_of_ble_eq_true rfl, Nat.le_of_ble_eq_true rfl⟩ rfl hl.1 rfl (Nat.le_of_ble_eq_true rfl) dX6_rankAt_21 ⟨Nat.le_of_ble_eq_true rfl, Nat.le_of_ble_eq_true rfl⟩) (fun v5 H locs hf hw => ?_)
      refine q_if_eq (tgt := 30) hx hb hf dX6_rankAt_24 (by decide) (fun hf => ?_) (fun hf => ?_)
      · refine q_iinc (lv1 := [(0, .ref (ga Γ 7 o)), (1, .int x1), (2, .int v1)]) (d := 1) hx hb hf dX6_rankAt_30 hl (k := 3) rfl (by decide) (by decide) rfl (fun v6 ls hf hl => ?_)
        refine lv_goto (tgt := 4) hx hb dX6_rankAt_33 (by decide) ?_
        exact ih _ _ _ _ _ hf hw (lv_sub hl [1, 2, 3, 0] rfl)
      refine q_iinc (lv1 := [(0, .ref (ga Γ 7 o)), (1, .int x1), (3, .int v2)]) (d := 1) hx hb hf dX6_rankAt_27 hl (k := 2) rfl (by decide) (by decide) rfl (fun v7 ls hf hl => ?_)
      refine q_iinc (lv1 := [(2, .int v7), (0, .ref (ga Γ 7 o)), (1, .int x1)]) (d := 1) hx hb hf dX6_rankAt_30 hl (k := 3) rfl (by decide) (by decide) rfl (fun v8 ls hf hl => ?_)
      refine lv_goto (tgt := 4) hx hb dX6_rankAt_33 (by decide) ?_
      exact ih _ _ _ _ _ hf hw (lv_sub hl [2, 3, 1, 0] rfl)
  refine L4 _ (fun v9 _ H locs ls hf hw hl => ?_) N (0 : Int32) (0 : Int32) _ _ _ hf hw (lv_sub hl [2, 3, 1, 0] rfl)
  refine lv_iload_n hx hb dX6_rankAt_36 rfl (lv_at hl 0 rfl) ?_
  exact q_iret hf hx hb hr rfl hk hw dX6_rankAt_37 (Nat.le_of_ble_eq_true rfl) (Nat.le_of_ble_eq_true rfl)
set_option maxRecDepth 100000 in
theorem kX6_shapeWithRank {Γ : Gm} {S : List (String × Nat × String)} {l : Launch} {N : Nat} {σ : St} {o : Nat} {x1 : Int32} {r : Int32} (ho : o < 4) (hf : fX6_shapeWithRank N σ o x1 = some r) : CT Γ S l yX6_shapeWithRank cX6_shapeWithRank 3 (some (.int)) 4 89 0 0 [.ref (ga Γ 7 o), .int x1] (some (.int r)) σ σ := by
  unfold fX6_shapeWithRank at hf
  refine ct_body (lv := [(0, .ref (ga Γ 7 o)), (1, .int x1)]) (by decide +kernel) rfl (Nat.le_of_ble_eq_true rfl) ?_
  intro p e s m below meth c ls X hr hk hK hw hl
  have hx := X.1
  have hb := X.2.1
  have hown := X.2.2.2
  refine lv_iconst (v := 0) hx hb dX6_shapeWithRank_0 (by decide) ?_
  refine lv_istore_n (lv' := [(2, .int (0 : Int32)), (0, .ref (ga Γ 7 o)), (1, .int x1)]) hx hb dX6_shapeWithRank_1 rfl hl (by decide) rfl (fun ls hl => ?_)
  have L2 : ∀ (K : Int32 → Option (Int32)) (hkk : ∀ (y2 : Int32) (H : Heap) (locs : List Loc) (ls : Array Slot), K y2 = some r → Sit Γ σ s H locs → lv_has ls 3 [] → W p l e { frames := 4, cells := 0, slots := 0, locals := 89 } s m [.ref (ga Γ 7 o), .int x1].toArray below meth c H locs 0 0 (MQ below (Qg Γ (some (.int r)) σ (AA Γ s.heap.size)) [.ref (ga Γ 7 o), .int x1].toArray s 0 0 (AA Γ s.heap.size)) (F0 m 33 ls [])) (n : Nat) (v1 : Int32) (H : Heap) (locs : List Loc) (ls : Array Slot), fX6_shapeWithRank_L2 K N σ o x1 n v1 = some r → Sit Γ σ s H locs → lv_has ls 3 [(0, .ref (ga Γ 7 o)), (1, .int x1), (2, .int v1)] → W p l e { frames := 4, cells := 0, slots := 0, locals := 89 } s m [.ref (ga Γ 7 o), .int x1].toArray below meth c H locs 0 0 (MQ below (Qg Γ (some (.int r)) σ (AA Γ s.heap.size)) [.ref (ga Γ 7 o), .int x1].toArray s 0 0 (AA Γ s.heap.size)) (F0 m 2 ls []) := by
    intro K hkk n
    induction n with
    | zero =>
      intro _ _ _ _ hf
      exact nomatch hf
    | succ n ih =>
      intro v1 H locs ls hf hw hl
      refine lv_iload_n hx hb dX6_shapeWithRank_2 rfl (lv_at hl 2 rfl) ?_
      refine lv_bipush (v := 12) hx hb dX6_shapeWithRank_3 (by decide) ?_
      refine q_ic_ge (tgt := 33) hx hb hf dX6_shapeWithRank_5 (by decide) (fun hf => ?_) (fun hf => ?_)
      · exact hkk _ _ _ _ hf hw (lv_sub hl [] rfl)
      refine lv_aload_n hx hb dX6_shapeWithRank_8 rfl (lv_at hl 0 rfl) ?_
      refine lv_iload_n hx hb dX6_shapeWithRank_9 rfl (lv_at hl 2 rfl) ?_
      refine q_pI hf hw (fun v h => q_rV (As := [.int v1]) (rest := []) (q := (RX6, TX6, 2)) X hK hw rfl ho (rfl : vwCl[8]? = _) (kX6_isSeen ho h) mvX6_isSeen lk_X6_31 ⟨Nat.le_of_ble_eq_true rfl, Nat.le_of_ble_eq_true rfl⟩ rfl hl.1 rfl (Nat.le_of_ble_eq_true rfl) dX6_shapeWithRank_10 ⟨Nat.le_of_ble_eq_true rfl, Nat.le_of_ble_eq_true rfl⟩) (fun v2 H locs hf hw => ?_)
      refine q_if_eq (tgt := 27) hx hb hf dX6_shapeWithRank_13 (by decide) (fun hf => ?_) (fun hf => ?_)
      · refine q_iinc (lv1 := [(0, .ref (ga Γ 7 o)), (1, .int x1)]) (d := 1) hx hb hf dX6_shapeWithRank_27 hl (k := 2) rfl (by decide) (by decide) rfl (fun v3 ls hf hl => ?_)
        refine lv_goto (tgt := 2) hx hb dX6_shapeWithRank_30 (by decide) ?_
        exact ih _ _ _ _ hf hw (lv_sub hl [1, 2, 0] rfl)
      refine lv_aload_n hx hb dX6_shapeWithRank_16 rfl (lv_at hl 0 rfl) ?_
      refine lv_iload_n hx hb dX6_shapeWithRank_17 rfl (lv_at hl 2 rfl) ?_
      refine q_pI hf hw (fun v h => q_rV (As := [.int v1]) (rest := []) (q := (RX6, TX6, 2)) X hK hw rfl ho (rfl : vwCl[8]? = _) (kX6_rankAt ho h) mvX6_rankAt lk_X6_58 ⟨Nat.le_of_ble_eq_true rfl, Nat.le_of_ble_eq_true rfl⟩ rfl hl.1 rfl (Nat.le_of_ble_eq_true rfl) dX6_shapeWithRank_18 ⟨Nat.le_of_ble_eq_true rfl, Nat.le_of_ble_eq_true rfl⟩) (fun v4 H locs hf hw => ?_)
      refine lv_iload_n hx hb dX6_shapeWithRank_21 rfl (lv_at hl 1 rfl) ?_
      refine q_ic_ne (tgt := 27) hx hb hf dX6_shapeWithRank_22 (by decide) (fun hf => ?_) (fun hf => ?_)
      · refine q_iinc (lv1 := [(0, .ref (ga Γ 7 o)), (1, .int x1)]) (d := 1) hx hb hf dX6_shapeWithRank_27 hl (k := 2) rfl (by decide) (by decide) rfl (fun v5 ls hf hl => ?_)
        refine lv_goto (tgt := 2) hx hb dX6_shapeWithRank_30 (by decide) ?_
        exact ih _ _ _ _ hf hw (lv_sub hl [1, 2, 0] rfl)
      refine lv_iload_n hx hb dX6_shapeWithRank_25 rfl (lv_at hl 2 rfl) ?_
      exact q_iret hf hx hb hr rfl hk hw dX6_shapeWithRank_26 (Nat.le_of_ble_eq_true rfl) (Nat.le_of_ble_eq_true rfl)
  refine L2 _ (fun _ H locs ls hf hw hl => ?_) N (0 : Int32) _ _ _ hf hw (lv_sub hl [1, 2, 0] rfl)
  refine lv_iconst (v := (-1)) hx hb dX6_shapeWithRank_33 (by decide) ?_
  exact q_iret hf hx hb hr rfl hk hw dX6_shapeWithRank_34 (Nat.le_of_ble_eq_true rfl) (Nat.le_of_ble_eq_true rfl)
set_option maxRecDepth 100000 in
theorem kX6_greatestKey {Γ : Gm} {S : List (String × Nat × String)} {l : Launch} {N : Nat} {σ : St} {o : Nat} {r : UInt32} (ho : o < 4) (hf : fX6_greatestKey N σ o = some r) : CT Γ S l yX6_greatestKey cX6_greatestKey 2 (some (.float)) 5 111 0 0 [.ref (ga Γ 7 o)] (some (.float r)) σ σ := by
  unfold fX6_greatestKey at hf
  refine ct_body (lv := [(0, .ref (ga Γ 7 o))]) (by decide +kernel) rfl (Nat.le_of_ble_eq_true rfl) ?_
  intro p e s m below meth c ls X hr hk hK hw hl
  have hx := X.1
  have hb := X.2.1
  have hown := X.2.2.2
  refine lv_aload_n hx hb dX6_greatestKey_0 rfl (lv_at hl 0 rfl) ?_
  refine lv_aload_n hx hb dX6_greatestKey_1 rfl (lv_at hl 0 rfl) ?_
  refine q_pI hf hw (fun v h => q_rV (As := []) (rest := [.ref (ga Γ 7 o)]) (q := (RX6, TX6, 2)) X hK hw rfl ho (rfl : vwCl[8]? = _) (kX6_countShapes ho h) mvX6_countShapes lk_X6_44 ⟨Nat.le_of_ble_eq_true rfl, Nat.le_of_ble_eq_true rfl⟩ rfl hl.1 rfl (Nat.le_of_ble_eq_true rfl) dX6_greatestKey_2 ⟨Nat.le_of_ble_eq_true rfl, Nat.le_of_ble_eq_true rfl⟩) (fun v1 H locs hf hw => ?_)
  refine lv_iconst (v := 1) hx hb dX6_greatestKey_5 (by decide) ?_
  refine lv_isub hx hb dX6_greatestKey_6 ?_
  refine q_pI hf hw (fun v h => q_rV (As := [.int (v1 - (1 : Int32))]) (rest := []) (q := (RX6, TX6, 2)) X hK hw rfl ho (rfl : vwCl[8]? = _) (kX6_shapeWithRank ho h) mvX6_shapeWithRank lk_X6_48 ⟨Nat.le_of_ble_eq_true rfl, Nat.le_of_ble_eq_true rfl⟩ rfl hl.1 rfl (Nat.le_of_ble_eq_true rfl) dX6_greatestKey_7 ⟨Nat.le_of_ble_eq_true rfl, Nat.le_of_ble_eq_true rfl⟩) (fun v2 H locs hf hw => ?_)
  refine lv_istore_n (lv' := [(1, .int v2), (0, .ref (ga Γ 7 o))]) hx hb dX6_greatestKey_10 rfl hl (by decide) rfl (fun ls hl => ?_)
  refine lv_iload_n hx hb dX6_greatestKey_11 rfl (lv_at hl 0 rfl) ?_
  refine lv_iconst (v := (-1)) hx hb dX6_greatestKey_12 (by decide) ?_
  refine q_ic_ne (tgt := 20) hx hb hf dX6_greatestKey_13 (by decide) (fun hf => ?_) (fun hf => ?_)
  · refine lv_aload_n hx hb dX6_greatestKey_20 rfl (lv_at hl 1 rfl) ?_
    refine lv_iload_n hx hb dX6_greatestKey_21 rfl (lv_at hl 0 rfl) ?_
    refine q_pF hf hw (fun v h => q_rV (As := [.int v2]) (rest := []) (q := (RX6, TX6, 2)) X hK hw rfl ho (rfl : vwCl[8]? = _) (kX6_keyAt ho h) mvX6_keyAt lk_X6_51 ⟨Nat.le_of_ble_eq_true rfl, Nat.le_of_ble_eq_true rfl⟩ rfl hl.1 rfl (Nat.le_of_ble_eq_true rfl) dX6_greatestKey_22 ⟨Nat.le_of_ble_eq_true rfl, Nat.le_of_ble_eq_true rfl⟩) (fun v3 H locs hf hw => ?_)
    exact q_fret hf hx hb hr hk hw dX6_greatestKey_25 (Nat.le_of_ble_eq_true rfl) (Nat.le_of_ble_eq_true rfl)
  refine lv_fconst0 hx hb dX6_greatestKey_16 ?_
  refine lv_goto (tgt := 25) hx hb dX6_greatestKey_17 (by decide) ?_
  exact q_fret hf hx hb hr hk hw dX6_greatestKey_25 (Nat.le_of_ble_eq_true rfl) (Nat.le_of_ble_eq_true rfl)
set_option maxRecDepth 100000 in
theorem kX2_makeShape {Γ : Gm} {S : List (String × Nat × String)} {l : Launch} {N : Nat} {σ τ : St} {x1 : Int32} {x2 : Int32} {x3 : Int32} {r : Int32}  (hf : fX2_makeShape N σ x1 x2 x3 = some (r, τ)) : CT Γ S l yX2_makeShape cX2_makeShape 5 (some (.int)) 0 0 0 0 [.ref (ga Γ 2 0), .int x1, .int x2, .int x3] (some (.int r)) σ τ := by
  unfold fX2_makeShape at hf
  refine ct_body (lv := [(0, .ref (ga Γ 2 0)), (1, .int x1), (2, .int x2), (3, .int x3)]) (by decide +kernel) rfl (Nat.le_of_ble_eq_true rfl) ?_
  intro p e s m below meth c ls X hr hk hK hw hl
  have hx := X.1
  have hb := X.2.1
  have hown := X.2.2.2
  refine lv_aload_n hx hb dX2_makeShape_0 rfl (lv_at hl 0 rfl) ?_
  refine q_get (v := .int (gI σ 2 0 7)) hx hb hK hw hown in_X2 ins_X2 (rfl : vwCl[4]? = some (RX2, TX2, 9)) rfl (Nat.le_of_ble_eq_true rfl : 0 < cnt (gn Γ) 2) 7 (by decide) 162 fl_X2_35 rfl rfl dX2_makeShape_1 ?_
  refine q_istore (lv1 := [(0, .ref (ga Γ 2 0)), (1, .int x1), (2, .int x2), (3, .int x3)]) hx hb hf dX2_makeShape_4 hl (by decide) rfl (fun v1 ls hf hl => ?_)
  refine lv_iload hx hb dX2_makeShape_6 (lv_at hl 0 rfl) ?_
  refine q_if_lt (tgt := 52) hx hb hf dX2_makeShape_8 (by decide) (fun hf => ?_) (fun hf => ?_)
  · refine lv_iload hx hb dX2_makeShape_52 (lv_at hl 0 rfl) ?_
    exact q_eiret hf hx hb hr rfl hk hw dX2_makeShape_54 (Nat.le_of_ble_eq_true rfl) (Nat.le_of_ble_eq_true rfl)
  refine lv_iload hx hb dX2_makeShape_11 (lv_at hl 0 rfl) ?_
  refine lv_bipush (v := 12) hx hb dX2_makeShape_13 (by decide) ?_
  refine q_ic_ge (tgt := 52) hx hb hf dX2_makeShape_15 (by decide) (fun hf => ?_) (fun hf => ?_)
  · refine lv_iload hx hb dX2_makeShape_52 (lv_at hl 0 rfl) ?_
    exact q_eiret hf hx hb hr rfl hk hw dX2_makeShape_54 (Nat.le_of_ble_eq_true rfl) (Nat.le_of_ble_eq_true rfl)
  refine lv_aload_n hx hb dX2_makeShape_18 rfl (lv_at hl 1 rfl) ?_
  refine q_get (v := .ref (ga Γ 111 0)) hx hb hK hw hown in_X2 ins_X2 (rfl : vwCl[4]? = some (RX2, TX2, 9)) rfl (Nat.le_of_ble_eq_true rfl : 0 < cnt (gn Γ) 2) 0 (by decide) 155 fl_X2_9 rfl rfl dX2_makeShape_19 ?_
  refine lv_iload hx hb dX2_makeShape_22 (lv_at hl 0 rfl) ?_
  refine lv_iload_n hx hb dX2_makeShape_24 rfl (lv_at hl 2 rfl) ?_
  refine q_iast hx hb hK hw (k := 111) (o := 0) (fun _ _ _ => rfl) (Nat.le_of_ble_eq_true rfl : 0 < cnt (gn Γ) 111) hf dX2_makeShape_25 (fun σ2 H locs hf hw => ?_)
  refine lv_aload_n hx hb dX2_makeShape_26 rfl (lv_at hl 1 rfl) ?_
  refine q_get (v := .ref (ga Γ 112 0)) hx hb hK hw hown in_X2 ins_X2 (rfl : vwCl[4]? = some (RX2, TX2, 9)) rfl (Nat.le_of_ble_eq_true rfl : 0 < cnt (gn Γ) 2) 1 (by decide) 156 fl_X2_15 rfl rfl dX2_makeShape_27 ?_
  refine lv_iload hx hb dX2_makeShape_30 (lv_at hl 0 rfl) ?_
  refine lv_iload_n hx hb dX2_makeShape_32 rfl (lv_at hl 3 rfl) ?_
  refine q_iast hx hb hK hw (k := 112) (o := 0) (fun _ _ _ => rfl) (Nat.le_of_ble_eq_true rfl : 0 < cnt (gn Γ) 112) hf dX2_makeShape_33 (fun σ3 H locs hf hw => ?_)
  refine lv_aload_n hx hb dX2_makeShape_34 rfl (lv_at hl 1 rfl) ?_
  refine q_get (v := .ref (ga Γ 113 0)) hx hb hK hw hown in_X2 ins_X2 (rfl : vwCl[4]? = some (RX2, TX2, 9)) rfl (Nat.le_of_ble_eq_true rfl : 0 < cnt (gn Γ) 2) 2 (by decide) 157 fl_X2_18 rfl rfl dX2_makeShape_35 ?_
  refine lv_iload hx hb dX2_makeShape_38 (lv_at hl 0 rfl) ?_
  refine lv_iload_n hx hb dX2_makeShape_40 rfl (lv_at hl 4 rfl) ?_
  refine q_zast hx hb hK hw (k := 113) (o := 0) (fun _ _ _ => rfl) (Nat.le_of_ble_eq_true rfl : 0 < cnt (gn Γ) 113) hf dX2_makeShape_41 (fun σ4 H locs hf hw => ?_)
  refine lv_aload_n hx hb dX2_makeShape_42 rfl (lv_at hl 1 rfl) ?_
  refine lv_dup hx hb dX2_makeShape_43 rfl ?_
  refine q_get (v := .int (gI σ4 2 0 7)) hx hb hK hw hown in_X2 ins_X2 (rfl : vwCl[4]? = some (RX2, TX2, 9)) rfl (Nat.le_of_ble_eq_true rfl : 0 < cnt (gn Γ) 2) 7 (by decide) 162 fl_X2_35 rfl rfl dX2_makeShape_44 ?_
  refine lv_iconst (v := 1) hx hb dX2_makeShape_47 (by decide) ?_
  refine lv_iadd hx hb dX2_makeShape_48 ?_
  refine q_puti (v := ((gI σ4 2 0 7) + (1 : Int32))) hx hb hK hw hown in_X2 ins_X2 tyX2 tyX2_ok nmX2 (rfl : vwCl[4]? = some (RX2, TX2, 9)) (fun _ _ _ => rfl) (Nat.le_of_ble_eq_true rfl : 0 < cnt (gn Γ) 2) 7 (by decide) 162 fl_X2_35 rfl rfl rfl (fun _ _ _ => Nat.le_of_ble_eq_true rfl) (fun _ _ _ => rfl) hf dX2_makeShape_49 (fun σ5 H locs hf hw => ?_)
  refine lv_iload hx hb dX2_makeShape_52 (lv_at hl 0 rfl) ?_
  exact q_eiret hf hx hb hr rfl hk hw dX2_makeShape_54 (Nat.le_of_ble_eq_true rfl) (Nat.le_of_ble_eq_true rfl)
set_option maxRecDepth 100000 in
theorem kX1_isLater {Γ : Gm} {S : List (String × Nat × String)} {l : Launch} {N : Nat} {σ : St} {x1 : Int32} {x2 : Int32} {r : Int32}  (hf : fX1_isLater N σ x1 x2 = some r) : CT Γ S l yX1_isLater cX1_isLater 4 (some (.boolean)) 0 0 0 0 [.ref (ga Γ 1 0), .int x1, .int x2] (some (.int r)) σ σ := by
  unfold fX1_isLater at hf
  refine ct_body (lv := [(0, .ref (ga Γ 1 0)), (1, .int x1), (2, .int x2)]) (by decide +kernel) rfl (Nat.le_of_ble_eq_true rfl) ?_
  intro p e s m below meth c ls X hr hk hK hw hl
  have hx := X.1
  have hb := X.2.1
  have hown := X.2.2.2
  refine lv_iload_n hx hb dX1_isLater_0 rfl (lv_at hl 1 rfl) ?_
  refine q_if_lt (tgt := 11) hx hb hf dX1_isLater_1 (by decide) (fun hf => ?_) (fun hf => ?_)
  · refine lv_iconst (v := 0) hx hb dX1_isLater_11 (by decide) ?_
    exact q_iret hf hx hb hr rfl hk hw dX1_isLater_12 (Nat.le_of_ble_eq_true rfl) (Nat.le_of_ble_eq_true rfl)
  refine lv_iload_n hx hb dX1_isLater_4 rfl (lv_at hl 1 rfl) ?_
  refine lv_sipush (v := 250) hx hb dX1_isLater_5 (by decide) ?_
  refine q_ic_lt (tgt := 13) hx hb hf dX1_isLater_8 (by decide) (fun hf => ?_) (fun hf => ?_)
  · refine lv_iload_n hx hb dX1_isLater_13 rfl (lv_at hl 2 rfl) ?_
    refine q_if_lt (tgt := 24) hx hb hf dX1_isLater_14 (by decide) (fun hf => ?_) (fun hf => ?_)
    · refine lv_iconst (v := 1) hx hb dX1_isLater_24 (by decide) ?_
      exact q_iret hf hx hb hr rfl hk hw dX1_isLater_25 (Nat.le_of_ble_eq_true rfl) (Nat.le_of_ble_eq_true rfl)
    refine lv_iload_n hx hb dX1_isLater_17 rfl (lv_at hl 2 rfl) ?_
    refine lv_sipush (v := 250) hx hb dX1_isLater_18 (by decide) ?_
    refine q_ic_lt (tgt := 26) hx hb hf dX1_isLater_21 (by decide) (fun hf => ?_) (fun hf => ?_)
    · refine lv_aload_n hx hb dX1_isLater_26 rfl (lv_at hl 0 rfl) ?_
      refine q_get (v := .ref (ga Γ 101 0)) hx hb hK hw hown in_X1 ins_X1 (rfl : vwCl[3]? = some (RX1, TX1, 13)) rfl (Nat.le_of_ble_eq_true rfl : 0 < cnt (gn Γ) 1) 1 (by decide) 99 fl_X1_15 rfl rfl dX1_isLater_27 ?_
      refine lv_iload_n hx hb dX1_isLater_30 rfl (lv_at hl 1 rfl) ?_
      refine q_iald hx hb hK hw (k := 101) (o := 0) (fun _ _ _ => rfl) (Nat.le_of_ble_eq_true rfl : 0 < cnt (gn Γ) 101) hf dX1_isLater_31 (fun hf => ?_)
      refine lv_aload_n hx hb dX1_isLater_32 rfl (lv_at hl 0 rfl) ?_
      refine q_get (v := .ref (ga Γ 101 0)) hx hb hK hw hown in_X1 ins_X1 (rfl : vwCl[3]? = some (RX1, TX1, 13)) rfl (Nat.le_of_ble_eq_true rfl : 0 < cnt (gn Γ) 1) 1 (by decide) 99 fl_X1_15 rfl rfl dX1_isLater_33 ?_
      refine lv_iload_n hx hb dX1_isLater_36 rfl (lv_at hl 2 rfl) ?_
      refine q_iald hx hb hK hw (k := 101) (o := 0) (fun _ _ _ => rfl) (Nat.le_of_ble_eq_true rfl : 0 < cnt (gn Γ) 101) hf dX1_isLater_37 (fun hf => ?_)
      refine lv_isub hx hb dX1_isLater_38 ?_
      refine q_istore_n (lv1 := [(0, .ref (ga Γ 1 0)), (1, .int x1), (2, .int x2)]) hx hb hf dX1_isLater_39 rfl hl (by decide) rfl (fun v1 ls hf hl => ?_)
      refine lv_iload_n hx hb dX1_isLater_40 rfl (lv_at hl 0 rfl) ?_
      refine q_if_gt (tgt := 63) hx hb hf dX1_isLater_41 (by decide) (fun hf => ?_) (fun hf => ?_)
      · refine lv_iconst (v := 1) hx hb dX1_isLater_63 (by decide) ?_
        refine lv_goto (tgt := 68) hx hb dX1_isLater_64 (by decide) ?_
        exact q_iret hf hx hb hr rfl hk hw dX1_isLater_68 (Nat.le_of_ble_eq_true rfl) (Nat.le_of_ble_eq_true rfl)
      refine lv_iload_n hx hb dX1_isLater_44 rfl (lv_at hl 0 rfl) ?_
      refine q_if_ne (tgt := 67) hx hb hf dX1_isLater_45 (by decide) (fun hf => ?_) (fun hf => ?_)
      · refine lv_iconst (v := 0) hx hb dX1_isLater_67 (by decide) ?_
        exact q_iret hf hx hb hr rfl hk hw dX1_isLater_68 (Nat.le_of_ble_eq_true rfl) (Nat.le_of_ble_eq_true rfl)
      refine lv_aload_n hx hb dX1_isLater_48 rfl (lv_at hl 1 rfl) ?_
      refine q_get (v := .ref (ga Γ 100 0)) hx hb hK hw hown in_X1 ins_X1 (rfl : vwCl[3]? = some (RX1, TX1, 13)) rfl (Nat.le_of_ble_eq_true rfl : 0 < cnt (gn Γ) 1) 0 (by decide) 98 fl_X1_9 rfl rfl dX1_isLater_49 ?_
      refine lv_iload_n hx hb dX1_isLater_52 rfl (lv_at hl 2 rfl) ?_
      refine q_iald hx hb hK hw (k := 100) (o := 0) (fun _ _ _ => rfl) (Nat.le_of_ble_eq_true rfl : 0 < cnt (gn Γ) 100) hf dX1_isLater_53 (fun hf => ?_)
      refine lv_aload_n hx hb dX1_isLater_54 rfl (lv_at hl 1 rfl) ?_
      refine q_get (v := .ref (ga Γ 100 0)) hx hb hK hw hown in_X1 ins_X1 (rfl : vwCl[3]? = some (RX1, TX1, 13)) rfl (Nat.le_of_ble_eq_true rfl : 0 < cnt (gn Γ) 1) 0 (by decide) 98 fl_X1_9 rfl rfl dX1_isLater_55 ?_
      refine lv_iload_n hx hb dX1_isLater_58 rfl (lv_at hl 3 rfl) ?_
      refine q_iald hx hb hK hw (k := 100) (o := 0) (fun _ _ _ => rfl) (Nat.le_of_ble_eq_true rfl : 0 < cnt (gn Γ) 100) hf dX1_isLater_59 (fun hf => ?_)
      refine q_ic_le (tgt := 67) hx hb hf dX1_isLater_60 (by decide) (fun hf => ?_) (fun hf => ?_)
      · refine lv_iconst (v := 0) hx hb dX1_isLater_67 (by decide) ?_
        exact q_iret hf hx hb hr rfl hk hw dX1_isLater_68 (Nat.le_of_ble_eq_true rfl) (Nat.le_of_ble_eq_true rfl)
      refine lv_iconst (v := 1) hx hb dX1_isLater_63 (by decide) ?_
      refine lv_goto (tgt := 68) hx hb dX1_isLater_64 (by decide) ?_
      exact q_iret hf hx hb hr rfl hk hw dX1_isLater_68 (Nat.le_of_ble_eq_true rfl) (Nat.le_of_ble_eq_true rfl)
    refine lv_iconst (v := 1) hx hb dX1_isLater_24 (by decide) ?_
    exact q_iret hf hx hb hr rfl hk hw dX1_isLater_25 (Nat.le_of_ble_eq_true rfl) (Nat.le_of_ble_eq_true rfl)
  refine lv_iconst (v := 0) hx hb dX1_isLater_11 (by decide) ?_
  exact q_iret hf hx hb hr rfl hk hw dX1_isLater_12 (Nat.le_of_ble_eq_true rfl) (Nat.le_of_ble_eq_true rfl)
set_option maxRecDepth 100000 in
theorem kX1_fileByTime {Γ : Gm} {S : List (String × Nat × String)} {l : Launch} {N : Nat} {σ τ : St} {x1 : Int32}  (hf : fX1_fileByTime N σ x1 = some τ) : CT Γ S l yX1_fileByTime cX1_fileByTime 4 none 1 23 0 0 [.ref (ga Γ 1 0), .int x1] none σ τ := by
  unfold fX1_fileByTime at hf
  refine ct_body (lv := [(0, .ref (ga Γ 1 0)), (1, .int x1)]) (by decide +kernel) rfl (Nat.le_of_ble_eq_true rfl) ?_
  intro p e s m below meth c ls X hr hk hK hw hl
  have hx := X.1
  have hb := X.2.1
  have hown := X.2.2.2
  refine lv_aload_n hx hb dX1_fileByTime_0 rfl (lv_at hl 0 rfl) ?_
  refine q_get (v := .int (gI σ 1 0 11)) hx hb hK hw hown in_X1 ins_X1 (rfl : vwCl[3]? = some (RX1, TX1, 13)) rfl (Nat.le_of_ble_eq_true rfl : 0 < cnt (gn Γ) 1) 11 (by decide) 115 fl_X1_47 rfl rfl dX1_fileByTime_1 ?_
  refine lv_iconst (v := 1) hx hb dX1_fileByTime_4 (by decide) ?_
  refine lv_isub hx hb dX1_fileByTime_5 ?_
  refine q_istore_n (lv1 := [(0, .ref (ga Γ 1 0)), (1, .int x1)]) hx hb hf dX1_fileByTime_6 rfl hl (by decide) rfl (fun v1 ls hf hl => ?_)
  refine lv_aload_n hx hb dX1_fileByTime_7 rfl (lv_at hl 1 rfl) ?_
  refine q_get (v := .int (gI σ 1 0 11)) hx hb hK hw hown in_X1 ins_X1 (rfl : vwCl[3]? = some (RX1, TX1, 13)) rfl (Nat.le_of_ble_eq_true rfl : 0 < cnt (gn Γ) 1) 11 (by decide) 115 fl_X1_47 rfl rfl dX1_fileByTime_8 ?_
  refine lv_iconst (v := 2) hx hb dX1_fileByTime_11 (by decide) ?_
  refine lv_isub hx hb dX1_fileByTime_12 ?_
  refine q_istore_n (lv1 := [(2, .int v1), (0, .ref (ga Γ 1 0)), (1, .int x1)]) hx hb hf dX1_fileByTime_13 rfl hl (by decide) rfl (fun v2 ls hf hl => ?_)
  have L14 : ∀ (K : Int32 → Int32 → St → Option (St)) (hkk : ∀ (y2 : Int32) (y3 : Int32) (σq : St) (H : Heap) (locs : List Loc) (ls : Array Slot), K y2 y3 σq = some τ → Sit Γ σq s H locs → lv_has ls 4 [(0, .ref (ga Γ 1 0)), (1, .int x1), (2, .int y2)] → W p l e { frames := 1, cells := 0, slots := 0, locals := 23 } s m [.ref (ga Γ 1 0), .int x1].toArray below meth c H locs 0 0 (MQ below (Qg Γ (none) τ (AA Γ s.heap.size)) [.ref (ga Γ 1 0), .int x1].toArray s 0 0 (AA Γ s.heap.size)) (F0 m 66 ls [])) (n : Nat) (v3 : Int32) (v4 : Int32) (σ5 : St) (H : Heap) (locs : List Loc) (ls : Array Slot), fX1_fileByTime_L14 K N x1 n v3 v4 σ5 = some τ → Sit Γ σ5 s H locs → lv_has ls 4 [(0, .ref (ga Γ 1 0)), (1, .int x1), (2, .int v3), (3, .int v4)] → W p l e { frames := 1, cells := 0, slots := 0, locals := 23 } s m [.ref (ga Γ 1 0), .int x1].toArray below meth c H locs 0 0 (MQ below (Qg Γ (none) τ (AA Γ s.heap.size)) [.ref (ga Γ 1 0), .int x1].toArray s 0 0 (AA Γ s.heap.size)) (F0 m 14 ls []) := by
    intro K hkk n
    induction n with
    | zero =>
      intro _ _ _ _ _ _ hf
      exact nomatch hf
    | succ n ih =>
      intro v3 v4 σ5 H locs ls hf hw hl
      refine lv_iload_n hx hb dX1_fileByTime_14 rfl (lv_at hl 3 rfl) ?_
      refine q_if_lt (tgt := 66) hx hb hf dX1_fileByTime_15 (by decide) (fun hf => ?_) (fun hf => ?_)
      · exact hkk _ _ _ _ _ _ hf hw (lv_sub hl [0, 1, 2] rfl)
      refine lv_iload_n hx hb dX1_fileByTime_18 rfl (lv_at hl 3 rfl) ?_
      refine lv_iconst (v := 1) hx hb dX1_fileByTime_19 (by decide) ?_
      refine lv_iadd hx hb dX1_fileByTime_20 ?_
      refine lv_sipush (v := 250) hx hb dX1_fileByTime_21 (by decide) ?_
      refine q_ic_ge (tgt := 66) hx hb hf dX1_fileByTime_24 (by decide) (fun hf => ?_) (fun hf => ?_)
      · exact hkk _ _ _ _ _ _ hf hw (lv_sub hl [0, 1, 2] rfl)
      refine lv_aload_n hx hb dX1_fileByTime_27 rfl (lv_at hl 0 rfl) ?_
      refine lv_aload_n hx hb dX1_fileByTime_28 rfl (lv_at hl 0 rfl) ?_
      refine q_get (v := .ref (ga Γ 105 0)) hx hb hK hw hown in_X1 ins_X1 (rfl : vwCl[3]? = some (RX1, TX1, 13)) rfl (Nat.le_of_ble_eq_true rfl : 0 < cnt (gn Γ) 1) 5 (by decide) 103 fl_X1_28 rfl rfl dX1_fileByTime_29 ?_
      refine lv_iload_n hx hb dX1_fileByTime_32 rfl (lv_at hl 3 rfl) ?_
      refine q_iald hx hb hK hw (k := 105) (o := 0) (fun _ _ _ => rfl) (Nat.le_of_ble_eq_true rfl : 0 < cnt (gn Γ) 105) hf dX1_fileByTime_33 (fun hf => ?_)
      refine lv_iload_n hx hb dX1_fileByTime_34 rfl (lv_at hl 1 rfl) ?_
      refine q_pI hf hw (fun v h => q_rV (As := [.int (gI σ5 105 0 (Int32.toNatClampNeg v4)), .int x1]) (rest := []) (q := (RX1, TX1, 13)) X hK hw rfl (Nat.le_of_ble_eq_true rfl : 0 < cnt (gn Γ) 1) (rfl : vwCl[3]? = _) (kX1_isLater h) mvX1_isLater lk_X1_58 ⟨Nat.le_of_ble_eq_true rfl, Nat.le_of_ble_eq_true rfl⟩ rfl hl.1 rfl (Nat.le_of_ble_eq_true rfl) dX1_fileByTime_35 ⟨Nat.le_of_ble_eq_true rfl, Nat.le_of_ble_eq_true rfl⟩) (fun v6 H locs hf hw => ?_)
      refine q_if_ne (tgt := 44) hx hb hf dX1_fileByTime_38 (by decide) (fun hf => ?_) (fun hf => ?_)
      · refine lv_aload_n hx hb dX1_fileByTime_44 rfl (lv_at hl 0 rfl) ?_
        refine q_get (v := .ref (ga Γ 105 0)) hx hb hK hw hown in_X1 ins_X1 (rfl : vwCl[3]? = some (RX1, TX1, 13)) rfl (Nat.le_of_ble_eq_true rfl : 0 < cnt (gn Γ) 1) 5 (by decide) 103 fl_X1_28 rfl rfl dX1_fileByTime_45 ?_
        refine lv_iload_n hx hb dX1_fileByTime_48 rfl (lv_at hl 3 rfl) ?_
        refine lv_iconst (v := 1) hx hb dX1_fileByTime_49 (by decide) ?_
        refine lv_iadd hx hb dX1_fileByTime_50 ?_
        refine lv_aload_n hx hb dX1_fileByTime_51 rfl (lv_at hl 0 rfl) ?_
        refine q_get (v := .ref (ga Γ 105 0)) hx hb hK hw hown in_X1 ins_X1 (rfl : vwCl[3]? = some (RX1, TX1, 13)) rfl (Nat.le_of_ble_eq_true rfl : 0 < cnt (gn Γ) 1) 5 (by decide) 103 fl_X1_28 rfl rfl dX1_fileByTime_52 ?_
        refine lv_iload_n hx hb dX1_fileByTime_55 rfl (lv_at hl 3 rfl) ?_
        refine q_iald hx hb hK hw (k := 105) (o := 0) (fun _ _ _ => rfl) (Nat.le_of_ble_eq_true rfl : 0 < cnt (gn Γ) 105) hf dX1_fileByTime_56 (fun hf => ?_)
        refine q_iast hx hb hK hw (k := 105) (o := 0) (fun _ _ _ => rfl) (Nat.le_of_ble_eq_true rfl : 0 < cnt (gn Γ) 105) hf dX1_fileByTime_57 (fun σ7 H locs hf hw => ?_)
        refine lv_iload_n hx hb dX1_fileByTime_58 rfl (lv_at hl 3 rfl) ?_
        refine lv_istore_n (lv' := [(2, .int v4), (0, .ref (ga Γ 1 0)), (1, .int x1), (3, .int v4)]) hx hb dX1_fileByTime_59 rfl hl (by decide) rfl (fun ls hl => ?_)
        refine q_iinc (lv1 := [(2, .int v4), (0, .ref (ga Γ 1 0)), (1, .int x1)]) (d := (-1)) hx hb hf dX1_fileByTime_60 hl (k := 3) rfl (by decide) (by decide) rfl (fun v8 ls hf hl => ?_)
        refine lv_goto (tgt := 14) hx hb dX1_fileByTime_63 (by decide) ?_
        exact ih _ _ _ _ _ _ hf hw (lv_sub hl [2, 3, 1, 0] rfl)
      refine lv_goto (tgt := 66) hx hb dX1_fileByTime_41 (by decide) ?_
      exact hkk _ _ _ _ _ _ hf hw (lv_sub hl [0, 1, 2] rfl)
  refine L14 _ (fun v9 _ σ10 H locs ls hf hw hl => ?_) N v1 v2 σ _ _ _ hf hw (lv_sub hl [2, 3, 1, 0] rfl)
  refine lv_iload_n hx hb dX1_fileByTime_66 rfl (lv_at hl 2 rfl) ?_
  refine q_if_lt (tgt := 84) hx hb hf dX1_fileByTime_67 (by decide) (fun hf => ?_) (fun hf => ?_)
  · exact q_vret hx hb hr hk hw dX1_fileByTime_84 hf (Nat.le_of_ble_eq_true rfl) (Nat.le_of_ble_eq_true rfl)
  refine lv_iload_n hx hb dX1_fileByTime_70 rfl (lv_at hl 2 rfl) ?_
  refine lv_sipush (v := 250) hx hb dX1_fileByTime_71 (by decide) ?_
  refine q_ic_ge (tgt := 84) hx hb hf dX1_fileByTime_74 (by decide) (fun hf => ?_) (fun hf => ?_)
  · exact q_vret hx hb hr hk hw dX1_fileByTime_84 hf (Nat.le_of_ble_eq_true rfl) (Nat.le_of_ble_eq_true rfl)
  refine lv_aload_n hx hb dX1_fileByTime_77 rfl (lv_at hl 0 rfl) ?_
  refine q_get (v := .ref (ga Γ 105 0)) hx hb hK hw hown in_X1 ins_X1 (rfl : vwCl[3]? = some (RX1, TX1, 13)) rfl (Nat.le_of_ble_eq_true rfl : 0 < cnt (gn Γ) 1) 5 (by decide) 103 fl_X1_28 rfl rfl dX1_fileByTime_78 ?_
  refine lv_iload_n hx hb dX1_fileByTime_81 rfl (lv_at hl 2 rfl) ?_
  refine lv_iload_n hx hb dX1_fileByTime_82 rfl (lv_at hl 1 rfl) ?_
  refine q_iast hx hb hK hw (k := 105) (o := 0) (fun _ _ _ => rfl) (Nat.le_of_ble_eq_true rfl : 0 < cnt (gn Γ) 105) hf dX1_fileByTime_83 (fun σ11 H locs hf hw => ?_)
  exact q_vret hx hb hr hk hw dX1_fileByTime_84 hf (Nat.le_of_ble_eq_true rfl) (Nat.le_of_ble_eq_true rfl)
set_option maxRecDepth 100000 in
theorem kX1_open {Γ : Gm} {S : List (String × Nat × String)} {l : Launch} {N : Nat} {σ τ : St} {x1 : Int32} {x2 : Int32} {x3 : Int32} {r : Int32}  (hf : fX1_open N σ x1 x2 x3 = some (r, τ)) : CT Γ S l yX1_open cX1_open 5 (some (.int)) 2 46 0 0 [.ref (ga Γ 1 0), .int x1, .int x2, .int x3] (some (.int r)) σ τ := by
  unfold fX1_open at hf
  refine ct_body (lv := [(0, .ref (ga Γ 1 0)), (1, .int x1), (2, .int x2), (3, .int x3)]) (by decide +kernel) rfl (Nat.le_of_ble_eq_true rfl) ?_
  intro p e s m below meth c ls X hr hk hK hw hl
  have hx := X.1
  have hb := X.2.1
  have hown := X.2.2.2
  refine lv_aload_n hx hb dX1_open_0 rfl (lv_at hl 0 rfl) ?_
  refine q_get (v := .int (gI σ 1 0 11)) hx hb hK hw hown in_X1 ins_X1 (rfl : vwCl[3]? = some (RX1, TX1, 13)) rfl (Nat.le_of_ble_eq_true rfl : 0 < cnt (gn Γ) 1) 11 (by decide) 115 fl_X1_47 rfl rfl dX1_open_1 ?_
  refine q_istore (lv1 := [(0, .ref (ga Γ 1 0)), (1, .int x1), (2, .int x2), (3, .int x3)]) hx hb hf dX1_open_4 hl (by decide) rfl (fun v1 ls hf hl => ?_)
  refine lv_iload hx hb dX1_open_6 (lv_at hl 0 rfl) ?_
  refine q_if_lt (tgt := 19) hx hb hf dX1_open_8 (by decide) (fun hf => ?_) (fun hf => ?_)
  · refine lv_iconst (v := (-1)) hx hb dX1_open_19 (by decide) ?_
    exact q_eiret hf hx hb hr rfl hk hw dX1_open_20 (Nat.le_of_ble_eq_true rfl) (Nat.le_of_ble_eq_true rfl)
  refine lv_iload hx hb dX1_open_11 (lv_at hl 0 rfl) ?_
  refine lv_sipush (v := 250) hx hb dX1_open_13 (by decide) ?_
  refine q_ic_lt (tgt := 21) hx hb hf dX1_open_16 (by decide) (fun hf => ?_) (fun hf => ?_)
  · refine lv_aload_n hx hb dX1_open_21 rfl (lv_at hl 1 rfl) ?_
    refine q_get (v := .ref (ga Γ 100 0)) hx hb hK hw hown in_X1 ins_X1 (rfl : vwCl[3]? = some (RX1, TX1, 13)) rfl (Nat.le_of_ble_eq_true rfl : 0 < cnt (gn Γ) 1) 0 (by decide) 98 fl_X1_9 rfl rfl dX1_open_22 ?_
    refine lv_iload hx hb dX1_open_25 (lv_at hl 0 rfl) ?_
    refine lv_iload_n hx hb dX1_open_27 rfl (lv_at hl 2 rfl) ?_
    refine q_iast hx hb hK hw (k := 100) (o := 0) (fun _ _ _ => rfl) (Nat.le_of_ble_eq_true rfl : 0 < cnt (gn Γ) 100) hf dX1_open_28 (fun σ2 H locs hf hw => ?_)
    refine lv_aload_n hx hb dX1_open_29 rfl (lv_at hl 1 rfl) ?_
    refine q_get (v := .ref (ga Γ 101 0)) hx hb hK hw hown in_X1 ins_X1 (rfl : vwCl[3]? = some (RX1, TX1, 13)) rfl (Nat.le_of_ble_eq_true rfl : 0 < cnt (gn Γ) 1) 1 (by decide) 99 fl_X1_15 rfl rfl dX1_open_30 ?_
    refine lv_iload hx hb dX1_open_33 (lv_at hl 0 rfl) ?_
    refine lv_iload_n hx hb dX1_open_35 rfl (lv_at hl 3 rfl) ?_
    refine q_iast hx hb hK hw (k := 101) (o := 0) (fun _ _ _ => rfl) (Nat.le_of_ble_eq_true rfl : 0 < cnt (gn Γ) 101) hf dX1_open_36 (fun σ3 H locs hf hw => ?_)
    refine lv_aload_n hx hb dX1_open_37 rfl (lv_at hl 1 rfl) ?_
    refine q_get (v := .ref (ga Γ 102 0)) hx hb hK hw hown in_X1 ins_X1 (rfl : vwCl[3]? = some (RX1, TX1, 13)) rfl (Nat.le_of_ble_eq_true rfl : 0 < cnt (gn Γ) 1) 2 (by decide) 100 fl_X1_18 rfl rfl dX1_open_38 ?_
    refine lv_iload hx hb dX1_open_41 (lv_at hl 0 rfl) ?_
    refine lv_iload_n hx hb dX1_open_43 rfl (lv_at hl 4 rfl) ?_
    refine q_zast hx hb hK hw (k := 102) (o := 0) (fun _ _ _ => rfl) (Nat.le_of_ble_eq_true rfl : 0 < cnt (gn Γ) 102) hf dX1_open_44 (fun σ4 H locs hf hw => ?_)
    refine lv_aload_n hx hb dX1_open_45 rfl (lv_at hl 1 rfl) ?_
    refine q_get (v := .ref (ga Γ 103 0)) hx hb hK hw hown in_X1 ins_X1 (rfl : vwCl[3]? = some (RX1, TX1, 13)) rfl (Nat.le_of_ble_eq_true rfl : 0 < cnt (gn Γ) 1) 3 (by decide) 101 fl_X1_22 rfl rfl dX1_open_46 ?_
    refine lv_iload hx hb dX1_open_49 (lv_at hl 0 rfl) ?_
    refine lv_aload_n hx hb dX1_open_51 rfl (lv_at hl 1 rfl) ?_
    refine q_get (v := .int (gI σ4 1 0 12)) hx hb hK hw hown in_X1 ins_X1 (rfl : vwCl[3]? = some (RX1, TX1, 13)) rfl (Nat.le_of_ble_eq_true rfl : 0 < cnt (gn Γ) 1) 12 (by decide) 118 fl_X1_51 rfl rfl dX1_open_52 ?_
    refine q_iast hx hb hK hw (k := 103) (o := 0) (fun _ _ _ => rfl) (Nat.le_of_ble_eq_true rfl : 0 < cnt (gn Γ) 103) hf dX1_open_55 (fun σ5 H locs hf hw => ?_)
    refine lv_aload_n hx hb dX1_open_56 rfl (lv_at hl 1 rfl) ?_
    refine q_get (v := .ref (ga Γ 104 0)) hx hb hK hw hown in_X1 ins_X1 (rfl : vwCl[3]? = some (RX1, TX1, 13)) rfl (Nat.le_of_ble_eq_true rfl : 0 < cnt (gn Γ) 1) 4 (by decide) 102 fl_X1_25 rfl rfl dX1_open_57 ?_
    refine lv_iload hx hb dX1_open_60 (lv_at hl 0 rfl) ?_
    refine lv_aload_n hx hb dX1_open_62 rfl (lv_at hl 1 rfl) ?_
    refine q_get (v := .int (gI σ5 1 0 12)) hx hb hK hw hown in_X1 ins_X1 (rfl : vwCl[3]? = some (RX1, TX1, 13)) rfl (Nat.le_of_ble_eq_true rfl : 0 < cnt (gn Γ) 1) 12 (by decide) 118 fl_X1_51 rfl rfl dX1_open_63 ?_
    refine q_iast hx hb hK hw (k := 104) (o := 0) (fun _ _ _ => rfl) (Nat.le_of_ble_eq_true rfl : 0 < cnt (gn Γ) 104) hf dX1_open_66 (fun σ6 H locs hf hw => ?_)
    refine lv_aload_n hx hb dX1_open_67 rfl (lv_at hl 1 rfl) ?_
    refine lv_dup hx hb dX1_open_68 rfl ?_
    refine q_get (v := .int (gI σ6 1 0 11)) hx hb hK hw hown in_X1 ins_X1 (rfl : vwCl[3]? = some (RX1, TX1, 13)) rfl (Nat.le_of_ble_eq_true rfl : 0 < cnt (gn Γ) 1) 11 (by decide) 115 fl_X1_47 rfl rfl dX1_open_69 ?_
    refine lv_iconst (v := 1) hx hb dX1_open_72 (by decide) ?_
    refine lv_iadd hx hb dX1_open_73 ?_
    refine q_puti (v := ((gI σ6 1 0 11) + (1 : Int32))) hx hb hK hw hown in_X1 ins_X1 tyX1 tyX1_ok nmX1 (rfl : vwCl[3]? = some (RX1, TX1, 13)) (fun _ _ _ => rfl) (Nat.le_of_ble_eq_true rfl : 0 < cnt (gn Γ) 1) 11 (by decide) 115 fl_X1_47 rfl rfl rfl (fun _ _ _ => Nat.le_of_ble_eq_true rfl) (fun _ _ _ => rfl) hf dX1_open_74 (fun σ7 H locs hf hw => ?_)
    refine lv_aload_n hx hb dX1_open_77 rfl (lv_at hl 1 rfl) ?_
    refine lv_iload hx hb dX1_open_78 (lv_at hl 0 rfl) ?_
    refine q_eV hf hw (fun τ h => q_rV (As := [.int v1]) (rest := []) (q := (RX1, TX1, 13)) X hK hw rfl (Nat.le_of_ble_eq_true rfl : 0 < cnt (gn Γ) 1) (rfl : vwCl[3]? = _) (kX1_fileByTime h) mvX1_fileByTime lk_X1_54 ⟨Nat.le_of_ble_eq_true rfl, Nat.le_of_ble_eq_true rfl⟩ rfl hl.1 rfl (Nat.le_of_ble_eq_true rfl) dX1_open_80 ⟨Nat.le_of_ble_eq_true rfl, Nat.le_of_ble_eq_true rfl⟩) (fun σ8 H locs hf hw => ?_)
    refine lv_iload hx hb dX1_open_83 (lv_at hl 0 rfl) ?_
    exact q_eiret hf hx hb hr rfl hk hw dX1_open_85 (Nat.le_of_ble_eq_true rfl) (Nat.le_of_ble_eq_true rfl)
  refine lv_iconst (v := (-1)) hx hb dX1_open_19 (by decide) ?_
  exact q_eiret hf hx hb hr rfl hk hw dX1_open_20 (Nat.le_of_ble_eq_true rfl) (Nat.le_of_ble_eq_true rfl)
set_option maxRecDepth 100000 in
theorem kX5_begin {Γ : Gm} {S : List (String × Nat × String)} {l : Launch} {N : Nat} {σ τ : St} {o : Nat} {x1 : Int32} (ho : o < 3) (hf : fX5_begin N σ o x1 = some τ) : CT Γ S l yX5_begin cX5_begin 2 none 3 70 0 0 [.ref (ga Γ 4 o), .int x1] none σ τ := by
  unfold fX5_begin at hf
  refine ct_body (lv := [(0, .ref (ga Γ 4 o)), (1, .int x1)]) (by decide +kernel) rfl (Nat.le_of_ble_eq_true rfl) ?_
  intro p e s m below meth c ls X hr hk hK hw hl
  have hx := X.1
  have hb := X.2.1
  have hown := X.2.2.2
  refine lv_aload_n hx hb dX5_begin_0 rfl (lv_at hl 0 rfl) ?_
  refine lv_aload_n hx hb dX5_begin_1 rfl (lv_at hl 0 rfl) ?_
  refine q_get (v := .ref (ga Γ 1 0)) hx hb hK hw hown in_X5 ins_X5 (rfl : vwCl[7]? = some (RX5, TX5, 8)) rfl ho 1 (by decide) 297 fl_X5_22 rfl rfl dX5_begin_2 ?_
  refine lv_aload_n hx hb dX5_begin_5 rfl (lv_at hl 0 rfl) ?_
  refine q_get (v := .int (nI o)) hx hb hK hw hown in_X5 ins_X5 (rfl : vwCl[7]? = some (RX5, TX5, 8)) rfl ho 0 (by decide) 295 fl_X5_19 rfl rfl dX5_begin_6 ?_
  refine lv_aload_n hx hb dX5_begin_9 rfl (lv_at hl 0 rfl) ?_
  refine q_get (v := .int (gI σ 4 o 6)) hx hb hK hw hown in_X5 ins_X5 (rfl : vwCl[7]? = some (RX5, TX5, 8)) rfl ho 6 (by decide) 305 fl_X5_51 rfl rfl dX5_begin_10 ?_
  refine lv_iconst (v := 1) hx hb dX5_begin_13 (by decide) ?_
  refine lv_iadd hx hb dX5_begin_14 ?_
  refine lv_iload_n hx hb dX5_begin_15 rfl (lv_at hl 1 rfl) ?_
  refine q_eI hf hw (fun v τ h => q_rV (As := [.int (nI o), .int ((gI σ 4 o 6) + (1 : Int32)), .int x1]) (rest := [.ref (ga Γ 4 o)]) (q := (RX1, TX1, 13)) X hK hw rfl (Nat.le_of_ble_eq_true rfl : 0 < cnt (gn Γ) 1) (rfl : vwCl[3]? = _) (kX1_open h) mvX1_open lk_X5_70 ⟨Nat.le_of_ble_eq_true rfl, Nat.le_of_ble_eq_true rfl⟩ rfl hl.1 rfl (Nat.le_of_ble_eq_true rfl) dX5_begin_16 ⟨Nat.le_of_ble_eq_true rfl, Nat.le_of_ble_eq_true rfl⟩) (fun v2 σ1 H locs hf hw => ?_)
  refine q_puti (v := v2) hx hb hK hw hown in_X5 ins_X5 tyX5 tyX5_ok nmX5 (rfl : vwCl[7]? = some (RX5, TX5, 8)) (fun _ _ _ => rfl) ho 7 (by decide) 306 fl_X5_15 rfl rfl rfl (fun _ _ _ => Nat.le_of_ble_eq_true rfl) (fun _ _ _ => rfl) hf dX5_begin_19 (fun σ3 H locs hf hw => ?_)
  exact q_vret hx hb hr hk hw dX5_begin_22 hf (Nat.le_of_ble_eq_true rfl) (Nat.le_of_ble_eq_true rfl)
set_option maxRecDepth 100000 in
theorem kX1_add {Γ : Gm} {S : List (String × Nat × String)} {l : Launch} {N : Nat} {σ τ : St} {x1 : Int32} {x2 : UInt32} {x3 : Int32}  (hf : fX1_add N σ x1 x2 x3 = some τ) : CT Γ S l yX1_add cX1_add 5 none 0 0 0 0 [.ref (ga Γ 1 0), .int x1, .float x2, .int x3] none σ τ := by
  unfold fX1_add at hf
  refine ct_body (lv := [(0, .ref (ga Γ 1 0)), (1, .int x1), (2, .float x2), (3, .int x3)]) (by decide +kernel) rfl (Nat.le_of_ble_eq_true rfl) ?_
  intro p e s m below meth c ls X hr hk hK hw hl
  have hx := X.1
  have hb := X.2.1
  have hown := X.2.2.2
  refine lv_aload_n hx hb dX1_add_0 rfl (lv_at hl 0 rfl) ?_
  refine q_get (v := .int (gI σ 1 0 11)) hx hb hK hw hown in_X1 ins_X1 (rfl : vwCl[3]? = some (RX1, TX1, 13)) rfl (Nat.le_of_ble_eq_true rfl : 0 < cnt (gn Γ) 1) 11 (by decide) 115 fl_X1_47 rfl rfl dX1_add_1 ?_
  refine lv_iconst (v := 1) hx hb dX1_add_4 (by decide) ?_
  refine lv_isub hx hb dX1_add_5 ?_
  refine q_istore (lv1 := [(0, .ref (ga Γ 1 0)), (1, .int x1), (2, .float x2), (3, .int x3)]) hx hb hf dX1_add_6 hl (by decide) rfl (fun v1 ls hf hl => ?_)
  refine lv_aload_n hx hb dX1_add_8 rfl (lv_at hl 1 rfl) ?_
  refine q_get (v := .int (gI σ 1 0 12)) hx hb hK hw hown in_X1 ins_X1 (rfl : vwCl[3]? = some (RX1, TX1, 13)) rfl (Nat.le_of_ble_eq_true rfl : 0 < cnt (gn Γ) 1) 12 (by decide) 118 fl_X1_51 rfl rfl dX1_add_9 ?_
  refine q_if_lt (tgt := 89) hx hb hf dX1_add_12 (by decide) (fun hf => ?_) (fun hf => ?_)
  · exact q_vret hx hb hr hk hw dX1_add_89 hf (Nat.le_of_ble_eq_true rfl) (Nat.le_of_ble_eq_true rfl)
  refine lv_aload_n hx hb dX1_add_15 rfl (lv_at hl 1 rfl) ?_
  refine q_get (v := .int (gI σ 1 0 12)) hx hb hK hw hown in_X1 ins_X1 (rfl : vwCl[3]? = some (RX1, TX1, 13)) rfl (Nat.le_of_ble_eq_true rfl : 0 < cnt (gn Γ) 1) 12 (by decide) 118 fl_X1_51 rfl rfl dX1_add_16 ?_
  refine lv_sipush (v := 3000) hx hb dX1_add_19 (by decide) ?_
  refine q_ic_ge (tgt := 89) hx hb hf dX1_add_22 (by decide) (fun hf => ?_) (fun hf => ?_)
  · exact q_vret hx hb hr hk hw dX1_add_89 hf (Nat.le_of_ble_eq_true rfl) (Nat.le_of_ble_eq_true rfl)
  refine lv_iload hx hb dX1_add_25 (lv_at hl 0 rfl) ?_
  refine q_if_lt (tgt := 89) hx hb hf dX1_add_27 (by decide) (fun hf => ?_) (fun hf => ?_)
  · exact q_vret hx hb hr hk hw dX1_add_89 hf (Nat.le_of_ble_eq_true rfl) (Nat.le_of_ble_eq_true rfl)
  refine lv_iload hx hb dX1_add_30 (lv_at hl 0 rfl) ?_
  refine lv_sipush (v := 250) hx hb dX1_add_32 (by decide) ?_
  refine q_ic_ge (tgt := 89) hx hb hf dX1_add_35 (by decide) (fun hf => ?_) (fun hf => ?_)
  · exact q_vret hx hb hr hk hw dX1_add_89 hf (Nat.le_of_ble_eq_true rfl) (Nat.le_of_ble_eq_true rfl)
  refine lv_aload_n hx hb dX1_add_38 rfl (lv_at hl 1 rfl) ?_
  refine q_get (v := .ref (ga Γ 106 0)) hx hb hK hw hown in_X1 ins_X1 (rfl : vwCl[3]? = some (RX1, TX1, 13)) rfl (Nat.le_of_ble_eq_true rfl : 0 < cnt (gn Γ) 1) 6 (by decide) 104 fl_X1_31 rfl rfl dX1_add_39 ?_
  refine lv_aload_n hx hb dX1_add_42 rfl (lv_at hl 1 rfl) ?_
  refine q_get (v := .int (gI σ 1 0 12)) hx hb hK hw hown in_X1 ins_X1 (rfl : vwCl[3]? = some (RX1, TX1, 13)) rfl (Nat.le_of_ble_eq_true rfl : 0 < cnt (gn Γ) 1) 12 (by decide) 118 fl_X1_51 rfl rfl dX1_add_43 ?_
  refine lv_iload_n hx hb dX1_add_46 rfl (lv_at hl 2 rfl) ?_
  refine q_iast hx hb hK hw (k := 106) (o := 0) (fun _ _ _ => rfl) (Nat.le_of_ble_eq_true rfl : 0 < cnt (gn Γ) 106) hf dX1_add_47 (fun σ2 H locs hf hw => ?_)
  refine lv_aload_n hx hb dX1_add_48 rfl (lv_at hl 1 rfl) ?_
  refine q_get (v := .ref (ga Γ 107 0)) hx hb hK hw hown in_X1 ins_X1 (rfl : vwCl[3]? = some (RX1, TX1, 13)) rfl (Nat.le_of_ble_eq_true rfl : 0 < cnt (gn Γ) 1) 7 (by decide) 107 fl_X1_34 rfl rfl dX1_add_49 ?_
  refine lv_aload_n hx hb dX1_add_52 rfl (lv_at hl 1 rfl) ?_
  refine q_get (v := .int (gI σ2 1 0 12)) hx hb hK hw hown in_X1 ins_X1 (rfl : vwCl[3]? = some (RX1, TX1, 13)) rfl (Nat.le_of_ble_eq_true rfl : 0 < cnt (gn Γ) 1) 12 (by decide) 118 fl_X1_51 rfl rfl dX1_add_53 ?_
  refine lv_fload_n hx hb dX1_add_56 rfl (lv_at hl 3 rfl) ?_
  refine q_fast hx hb hK hw (k := 107) (o := 0) (fun _ _ _ => rfl) (Nat.le_of_ble_eq_true rfl : 0 < cnt (gn Γ) 107) hf dX1_add_57 (fun σ3 H locs hf hw => ?_)
  refine lv_aload_n hx hb dX1_add_58 rfl (lv_at hl 1 rfl) ?_
  refine q_get (v := .ref (ga Γ 108 0)) hx hb hK hw hown in_X1 ins_X1 (rfl : vwCl[3]? = some (RX1, TX1, 13)) rfl (Nat.le_of_ble_eq_true rfl : 0 < cnt (gn Γ) 1) 8 (by decide) 109 fl_X1_38 rfl rfl dX1_add_59 ?_
  refine lv_aload_n hx hb dX1_add_62 rfl (lv_at hl 1 rfl) ?_
  refine q_get (v := .int (gI σ3 1 0 12)) hx hb hK hw hown in_X1 ins_X1 (rfl : vwCl[3]? = some (RX1, TX1, 13)) rfl (Nat.le_of_ble_eq_true rfl : 0 < cnt (gn Γ) 1) 12 (by decide) 118 fl_X1_51 rfl rfl dX1_add_63 ?_
  refine lv_iload_n hx hb dX1_add_66 rfl (lv_at hl 4 rfl) ?_
  refine q_iast hx hb hK hw (k := 108) (o := 0) (fun _ _ _ => rfl) (Nat.le_of_ble_eq_true rfl : 0 < cnt (gn Γ) 108) hf dX1_add_67 (fun σ4 H locs hf hw => ?_)
  refine lv_aload_n hx hb dX1_add_68 rfl (lv_at hl 1 rfl) ?_
  refine lv_dup hx hb dX1_add_69 rfl ?_
  refine q_get (v := .int (gI σ4 1 0 12)) hx hb hK hw hown in_X1 ins_X1 (rfl : vwCl[3]? = some (RX1, TX1, 13)) rfl (Nat.le_of_ble_eq_true rfl : 0 < cnt (gn Γ) 1) 12 (by decide) 118 fl_X1_51 rfl rfl dX1_add_70 ?_
  refine lv_iconst (v := 1) hx hb dX1_add_73 (by decide) ?_
  refine lv_iadd hx hb dX1_add_74 ?_
  refine q_puti (v := ((gI σ4 1 0 12) + (1 : Int32))) hx hb hK hw hown in_X1 ins_X1 tyX1 tyX1_ok nmX1 (rfl : vwCl[3]? = some (RX1, TX1, 13)) (fun _ _ _ => rfl) (Nat.le_of_ble_eq_true rfl : 0 < cnt (gn Γ) 1) 12 (by decide) 118 fl_X1_51 rfl rfl rfl (fun _ _ _ => Nat.le_of_ble_eq_true rfl) (fun _ _ _ => rfl) hf dX1_add_75 (fun σ5 H locs hf hw => ?_)
  refine lv_aload_n hx hb dX1_add_78 rfl (lv_at hl 1 rfl) ?_
  refine q_get (v := .ref (ga Γ 104 0)) hx hb hK hw hown in_X1 ins_X1 (rfl : vwCl[3]? = some (RX1, TX1, 13)) rfl (Nat.le_of_ble_eq_true rfl : 0 < cnt (gn Γ) 1) 4 (by decide) 102 fl_X1_25 rfl rfl dX1_add_79 ?_
  refine lv_iload hx hb dX1_add_82 (lv_at hl 0 rfl) ?_
  refine lv_aload_n hx hb dX1_add_84 rfl (lv_at hl 1 rfl) ?_
  refine q_get (v := .int (gI σ5 1 0 12)) hx hb hK hw hown in_X1 ins_X1 (rfl : vwCl[3]? = some (RX1, TX1, 13)) rfl (Nat.le_of_ble_eq_true rfl : 0 < cnt (gn Γ) 1) 12 (by decide) 118 fl_X1_51 rfl rfl dX1_add_85 ?_
  refine q_iast hx hb hK hw (k := 104) (o := 0) (fun _ _ _ => rfl) (Nat.le_of_ble_eq_true rfl : 0 < cnt (gn Γ) 104) hf dX1_add_88 (fun σ6 H locs hf hw => ?_)
  exact q_vret hx hb hr hk hw dX1_add_89 hf (Nat.le_of_ble_eq_true rfl) (Nat.le_of_ble_eq_true rfl)
set_option maxRecDepth 100000 in
theorem kX0_stemAt {Γ : Gm} {S : List (String × Nat × String)} {l : Launch} {N : Nat} {σ : St} {o : Nat} {x1 : Int32} {r : Int32} (ho : o < 5) (hf : fX0_stemAt N σ o x1 = some r) : CT Γ S l yX0_stemAt cX0_stemAt 2 (some (.int)) 0 0 0 0 [.ref (ga Γ 3 o), .int x1] (some (.int r)) σ σ := by
  unfold fX0_stemAt at hf
  refine ct_body (lv := [(0, .ref (ga Γ 3 o)), (1, .int x1)]) (by decide +kernel) rfl (Nat.le_of_ble_eq_true rfl) ?_
  intro p e s m below meth c ls X hr hk hK hw hl
  have hx := X.1
  have hb := X.2.1
  have hown := X.2.2.2
  refine lv_iload_n hx hb dX0_stemAt_0 rfl (lv_at hl 1 rfl) ?_
  refine q_if_lt (tgt := 19) hx hb hf dX0_stemAt_1 (by decide) (fun hf => ?_) (fun hf => ?_)
  · refine lv_iconst (v := (-1)) hx hb dX0_stemAt_19 (by decide) ?_
    exact q_iret hf hx hb hr rfl hk hw dX0_stemAt_20 (Nat.le_of_ble_eq_true rfl) (Nat.le_of_ble_eq_true rfl)
  refine lv_iload_n hx hb dX0_stemAt_4 rfl (lv_at hl 1 rfl) ?_
  refine lv_bipush (v := 93) hx hb dX0_stemAt_5 (by decide) ?_
  refine q_ic_ge (tgt := 19) hx hb hf dX0_stemAt_7 (by decide) (fun hf => ?_) (fun hf => ?_)
  · refine lv_iconst (v := (-1)) hx hb dX0_stemAt_19 (by decide) ?_
    exact q_iret hf hx hb hr rfl hk hw dX0_stemAt_20 (Nat.le_of_ble_eq_true rfl) (Nat.le_of_ble_eq_true rfl)
  refine lv_aload_n hx hb dX0_stemAt_10 rfl (lv_at hl 0 rfl) ?_
  refine q_get (v := .ref (ga Γ 121 o)) hx hb hK hw hown in_X0 ins_X0 (rfl : vwCl[2]? = some (RX0, TX0, 4)) rfl ho 2 (by decide) 202 fl_X0_15 rfl rfl dX0_stemAt_11 ?_
  refine lv_iload_n hx hb dX0_stemAt_14 rfl (lv_at hl 1 rfl) ?_
  refine q_iald hx hb hK hw (k := 121) (o := o) (fun _ _ _ => rfl) ho hf dX0_stemAt_15 (fun hf => ?_)
  refine lv_goto (tgt := 20) hx hb dX0_stemAt_16 (by decide) ?_
  exact q_iret hf hx hb hr rfl hk hw dX0_stemAt_20 (Nat.le_of_ble_eq_true rfl) (Nat.le_of_ble_eq_true rfl)
set_option maxRecDepth 100000 in
theorem kX1_remember {Γ : Gm} {S : List (String × Nat × String)} {l : Launch} {N : Nat} {σ τ : St} {x1 : UInt32} {x2 : Int32}  (hf : fX1_remember N σ x1 x2 = some τ) : CT Γ S l yX1_remember cX1_remember 4 none 0 0 0 0 [.ref (ga Γ 1 0), .float x1, .int x2] none σ τ := by
  unfold fX1_remember at hf
  refine ct_body (lv := [(0, .ref (ga Γ 1 0)), (1, .float x1), (2, .int x2)]) (by decide +kernel) rfl (Nat.le_of_ble_eq_true rfl) ?_
  intro p e s m below meth c ls X hr hk hK hw hl
  have hx := X.1
  have hb := X.2.1
  have hown := X.2.2.2
  refine lv_aload_n hx hb dX1_remember_0 rfl (lv_at hl 0 rfl) ?_
  refine q_get (v := .int (gI σ 1 0 12)) hx hb hK hw hown in_X1 ins_X1 (rfl : vwCl[3]? = some (RX1, TX1, 13)) rfl (Nat.le_of_ble_eq_true rfl : 0 < cnt (gn Γ) 1) 12 (by decide) 118 fl_X1_51 rfl rfl dX1_remember_1 ?_
  refine lv_iconst (v := 1) hx hb dX1_remember_4 (by decide) ?_
  refine lv_isub hx hb dX1_remember_5 ?_
  refine q_istore_n (lv1 := [(0, .ref (ga Γ 1 0)), (1, .float x1), (2, .int x2)]) hx hb hf dX1_remember_6 rfl hl (by decide) rfl (fun v1 ls hf hl => ?_)
  refine lv_iload_n hx hb dX1_remember_7 rfl (lv_at hl 0 rfl) ?_
  refine q_if_lt (tgt := 32) hx hb hf dX1_remember_8 (by decide) (fun hf => ?_) (fun hf => ?_)
  · exact q_vret hx hb hr hk hw dX1_remember_32 hf (Nat.le_of_ble_eq_true rfl) (Nat.le_of_ble_eq_true rfl)
  refine lv_iload_n hx hb dX1_remember_11 rfl (lv_at hl 0 rfl) ?_
  refine lv_sipush (v := 3000) hx hb dX1_remember_12 (by decide) ?_
  refine q_ic_ge (tgt := 32) hx hb hf dX1_remember_15 (by decide) (fun hf => ?_) (fun hf => ?_)
  · exact q_vret hx hb hr hk hw dX1_remember_32 hf (Nat.le_of_ble_eq_true rfl) (Nat.le_of_ble_eq_true rfl)
  refine lv_aload_n hx hb dX1_remember_18 rfl (lv_at hl 1 rfl) ?_
  refine q_get (v := .ref (ga Γ 109 0)) hx hb hK hw hown in_X1 ins_X1 (rfl : vwCl[3]? = some (RX1, TX1, 13)) rfl (Nat.le_of_ble_eq_true rfl : 0 < cnt (gn Γ) 1) 9 (by decide) 111 fl_X1_41 rfl rfl dX1_remember_19 ?_
  refine lv_iload_n hx hb dX1_remember_22 rfl (lv_at hl 0 rfl) ?_
  refine lv_fload_n hx hb dX1_remember_23 rfl (lv_at hl 2 rfl) ?_
  refine q_fast hx hb hK hw (k := 109) (o := 0) (fun _ _ _ => rfl) (Nat.le_of_ble_eq_true rfl : 0 < cnt (gn Γ) 109) hf dX1_remember_24 (fun σ2 H locs hf hw => ?_)
  refine lv_aload_n hx hb dX1_remember_25 rfl (lv_at hl 1 rfl) ?_
  refine q_get (v := .ref (ga Γ 110 0)) hx hb hK hw hown in_X1 ins_X1 (rfl : vwCl[3]? = some (RX1, TX1, 13)) rfl (Nat.le_of_ble_eq_true rfl : 0 < cnt (gn Γ) 1) 10 (by decide) 113 fl_X1_44 rfl rfl dX1_remember_26 ?_
  refine lv_iload_n hx hb dX1_remember_29 rfl (lv_at hl 0 rfl) ?_
  refine lv_iload_n hx hb dX1_remember_30 rfl (lv_at hl 3 rfl) ?_
  refine q_iast hx hb hK hw (k := 110) (o := 0) (fun _ _ _ => rfl) (Nat.le_of_ble_eq_true rfl : 0 < cnt (gn Γ) 110) hf dX1_remember_31 (fun σ3 H locs hf hw => ?_)
  exact q_vret hx hb hr hk hw dX1_remember_32 hf (Nat.le_of_ble_eq_true rfl) (Nat.le_of_ble_eq_true rfl)
set_option maxRecDepth 100000 in
theorem kX5_write {Γ : Gm} {S : List (String × Nat × String)} {l : Launch} {N : Nat} {σ τ : St} {o : Nat} {x1 : Int32} {x2 : UInt32} (ho : o < 3) (hf : fX5_write N σ o x1 x2 = some τ) : CT Γ S l yX5_write cX5_write 3 none 1 24 0 0 [.ref (ga Γ 4 o), .int x1, .float x2] none σ τ := by
  unfold fX5_write at hf
  refine ct_body (lv := [(0, .ref (ga Γ 4 o)), (1, .int x1), (2, .float x2)]) (by decide +kernel) rfl (Nat.le_of_ble_eq_true rfl) ?_
  intro p e s m below meth c ls X hr hk hK hw hl
  have hx := X.1
  have hb := X.2.1
  have hown := X.2.2.2
  refine lv_aload_n hx hb dX5_write_0 rfl (lv_at hl 0 rfl) ?_
  refine q_get (v := .ref (ga Γ 1 0)) hx hb hK hw hown in_X5 ins_X5 (rfl : vwCl[7]? = some (RX5, TX5, 8)) rfl ho 1 (by decide) 297 fl_X5_22 rfl rfl dX5_write_1 ?_
  refine lv_iload_n hx hb dX5_write_4 rfl (lv_at hl 1 rfl) ?_
  refine lv_fload_n hx hb dX5_write_5 rfl (lv_at hl 2 rfl) ?_
  refine lv_aload_n hx hb dX5_write_6 rfl (lv_at hl 0 rfl) ?_
  refine q_get (v := .int (gI σ 4 o 7)) hx hb hK hw hown in_X5 ins_X5 (rfl : vwCl[7]? = some (RX5, TX5, 8)) rfl ho 7 (by decide) 306 fl_X5_15 rfl rfl dX5_write_7 ?_
  refine q_eV hf hw (fun τ h => q_rV (As := [.int x1, .float x2, .int (gI σ 4 o 7)]) (rest := []) (q := (RX1, TX1, 13)) X hK hw rfl (Nat.le_of_ble_eq_true rfl : 0 < cnt (gn Γ) 1) (rfl : vwCl[3]? = _) (kX1_add h) mvX1_add lk_X5_74 ⟨Nat.le_of_ble_eq_true rfl, Nat.le_of_ble_eq_true rfl⟩ rfl hl.1 rfl (Nat.le_of_ble_eq_true rfl) dX5_write_10 ⟨Nat.le_of_ble_eq_true rfl, Nat.le_of_ble_eq_true rfl⟩) (fun σ1 H locs hf hw => ?_)
  refine lv_aload_n hx hb dX5_write_13 rfl (lv_at hl 0 rfl) ?_
  refine q_get (v := .ref (ga Γ 1 0)) hx hb hK hw hown in_X5 ins_X5 (rfl : vwCl[7]? = some (RX5, TX5, 8)) rfl ho 1 (by decide) 297 fl_X5_22 rfl rfl dX5_write_14 ?_
  refine lv_aload_n hx hb dX5_write_17 rfl (lv_at hl 0 rfl) ?_
  refine q_get (v := .ref (ga Γ 3 o)) hx hb hK hw hown in_X5 ins_X5 (rfl : vwCl[7]? = some (RX5, TX5, 8)) rfl ho 2 (by decide) 298 fl_X5_31 rfl rfl dX5_write_18 ?_
  refine lv_iload_n hx hb dX5_write_21 rfl (lv_at hl 1 rfl) ?_
  refine q_pF hf hw (fun v h => q_rV (As := [.int x1]) (rest := [.ref (ga Γ 1 0)]) (q := (RX0, TX0, 4)) X hK hw rfl (Nat.lt_of_lt_of_le ho (Nat.le_of_ble_eq_true rfl : 3 ≤ cnt (gn Γ) 3)) (rfl : vwCl[2]? = _) (kX0_valueAt (Nat.lt_of_lt_of_le ho (Nat.le_of_ble_eq_true rfl : 3 ≤ cnt (gn Γ) 3)) h) mvX0_valueAt lk_X5_78 ⟨Nat.le_of_ble_eq_true rfl, Nat.le_of_ble_eq_true rfl⟩ rfl hl.1 rfl (Nat.le_of_ble_eq_true rfl) dX5_write_22 ⟨Nat.le_of_ble_eq_true rfl, Nat.le_of_ble_eq_true rfl⟩) (fun v2 H locs hf hw => ?_)
  refine lv_aload_n hx hb dX5_write_25 rfl (lv_at hl 0 rfl) ?_
  refine q_get (v := .ref (ga Γ 3 o)) hx hb hK hw hown in_X5 ins_X5 (rfl : vwCl[7]? = some (RX5, TX5, 8)) rfl ho 2 (by decide) 298 fl_X5_31 rfl rfl dX5_write_26 ?_
  refine lv_iload_n hx hb dX5_write_29 rfl (lv_at hl 1 rfl) ?_
  refine q_pI hf hw (fun v h => q_rV (As := [.int x1]) (rest := [.float v2, .ref (ga Γ 1 0)]) (q := (RX0, TX0, 4)) X hK hw rfl (Nat.lt_of_lt_of_le ho (Nat.le_of_ble_eq_true rfl : 3 ≤ cnt (gn Γ) 3)) (rfl : vwCl[2]? = _) (kX0_stemAt (Nat.lt_of_lt_of_le ho (Nat.le_of_ble_eq_true rfl : 3 ≤ cnt (gn Γ) 3)) h) mvX0_stemAt lk_X5_82 ⟨Nat.le_of_ble_eq_true rfl, Nat.le_of_ble_eq_true rfl⟩ rfl hl.1 rfl (Nat.le_of_ble_eq_true rfl) dX5_write_30 ⟨Nat.le_of_ble_eq_true rfl, Nat.le_of_ble_eq_true rfl⟩) (fun v3 H locs hf hw => ?_)
  refine q_eV hf hw (fun τ h => q_rV (As := [.float v2, .int v3]) (rest := []) (q := (RX1, TX1, 13)) X hK hw rfl (Nat.le_of_ble_eq_true rfl : 0 < cnt (gn Γ) 1) (rfl : vwCl[3]? = _) (kX1_remember h) mvX1_remember lk_X5_85 ⟨Nat.le_of_ble_eq_true rfl, Nat.le_of_ble_eq_true rfl⟩ rfl hl.1 rfl (Nat.le_of_ble_eq_true rfl) dX5_write_33 ⟨Nat.le_of_ble_eq_true rfl, Nat.le_of_ble_eq_true rfl⟩) (fun σ4 H locs hf hw => ?_)
  exact q_vret hx hb hr hk hw dX5_write_36 hf (Nat.le_of_ble_eq_true rfl) (Nat.le_of_ble_eq_true rfl)
set_option maxRecDepth 100000 in
theorem kX7_cellAt {Γ : Gm} {S : List (String × Nat × String)} {l : Launch} {N : Nat} {σ : St} {x1 : Int32} {x2 : Int32} {r : Int32}  (hf : fX7_cellAt N σ x1 x2 = some r) : CT Γ S l yX7_cellAt cX7_cellAt 2 (some (.int)) 0 0 0 0 [.int x1, .int x2] (some (.int r)) σ σ := by
  unfold fX7_cellAt at hf
  refine ct_body (lv := [(0, .int x1), (1, .int x2)]) (by decide +kernel) rfl (Nat.le_of_ble_eq_true rfl) ?_
  intro p e s m below meth c ls X hr hk hK hw hl
  have hx := X.1
  have hb := X.2.1
  have hown := X.2.2.2
  refine lv_iload_n hx hb dX7_cellAt_0 rfl (lv_at hl 0 rfl) ?_
  refine q_if_lt (tgt := 29) hx hb hf dX7_cellAt_1 (by decide) (fun hf => ?_) (fun hf => ?_)
  · refine lv_iconst (v := (-1)) hx hb dX7_cellAt_29 (by decide) ?_
    exact q_iret hf hx hb hr rfl hk hw dX7_cellAt_30 (Nat.le_of_ble_eq_true rfl) (Nat.le_of_ble_eq_true rfl)
  refine lv_iload_n hx hb dX7_cellAt_4 rfl (lv_at hl 0 rfl) ?_
  refine lv_bipush (v := 24) hx hb dX7_cellAt_5 (by decide) ?_
  refine q_ic_ge (tgt := 29) hx hb hf dX7_cellAt_7 (by decide) (fun hf => ?_) (fun hf => ?_)
  · refine lv_iconst (v := (-1)) hx hb dX7_cellAt_29 (by decide) ?_
    exact q_iret hf hx hb hr rfl hk hw dX7_cellAt_30 (Nat.le_of_ble_eq_true rfl) (Nat.le_of_ble_eq_true rfl)
  refine lv_iload_n hx hb dX7_cellAt_10 rfl (lv_at hl 1 rfl) ?_
  refine q_if_lt (tgt := 29) hx hb hf dX7_cellAt_11 (by decide) (fun hf => ?_) (fun hf => ?_)
  · refine lv_iconst (v := (-1)) hx hb dX7_cellAt_29 (by decide) ?_
    exact q_iret hf hx hb hr rfl hk hw dX7_cellAt_30 (Nat.le_of_ble_eq_true rfl) (Nat.le_of_ble_eq_true rfl)
  refine lv_iload_n hx hb dX7_cellAt_14 rfl (lv_at hl 1 rfl) ?_
  refine lv_bipush (v := 16) hx hb dX7_cellAt_15 (by decide) ?_
  refine q_ic_ge (tgt := 29) hx hb hf dX7_cellAt_17 (by decide) (fun hf => ?_) (fun hf => ?_)
  · refine lv_iconst (v := (-1)) hx hb dX7_cellAt_29 (by decide) ?_
    exact q_iret hf hx hb hr rfl hk hw dX7_cellAt_30 (Nat.le_of_ble_eq_true rfl) (Nat.le_of_ble_eq_true rfl)
  refine lv_iload_n hx hb dX7_cellAt_20 rfl (lv_at hl 1 rfl) ?_
  refine lv_bipush (v := 24) hx hb dX7_cellAt_21 (by decide) ?_
  refine lv_imul hx hb dX7_cellAt_23 ?_
  refine lv_iload_n hx hb dX7_cellAt_24 rfl (lv_at hl 0 rfl) ?_
  refine lv_iadd hx hb dX7_cellAt_25 ?_
  refine lv_goto (tgt := 30) hx hb dX7_cellAt_26 (by decide) ?_
  exact q_iret hf hx hb hr rfl hk hw dX7_cellAt_30 (Nat.le_of_ble_eq_true rfl) (Nat.le_of_ble_eq_true rfl)
set_option maxRecDepth 100000 in
theorem kX7_intAt {Γ : Gm} {S : List (String × Nat × String)} {l : Launch} {N : Nat} {σ : St} {k1 : Nat} {o1 : Nat} {n_k1 : Nat} {x2 : Int32} {x3 : Int32} {r : Int32} (hc_k1 : ∀ f g ρ, cell1 Γ k1 o1 f g ρ = aI Γ n_k1 f) (ho_k1 : o1 < cnt (gn Γ) k1) (hf : fX7_intAt N σ k1 o1 n_k1 x2 x3 = some r) : CT Γ S l yX7_intAt cX7_intAt 3 (some (.int)) 0 0 0 0 [.ref (ga Γ k1 o1), .int x2, .int x3] (some (.int r)) σ σ := by
  unfold fX7_intAt at hf
  refine ct_body (lv := [(0, .ref (ga Γ k1 o1)), (1, .int x2), (2, .int x3)]) (by decide +kernel) rfl (Nat.le_of_ble_eq_true rfl) ?_
  intro p e s m below meth c ls X hr hk hK hw hl
  have hx := X.1
  have hb := X.2.1
  have hown := X.2.2.2
  refine lv_iload_n hx hb dX7_intAt_0 rfl (lv_at hl 1 rfl) ?_
  refine q_if_lt (tgt := 16) hx hb hf dX7_intAt_1 (by decide) (fun hf => ?_) (fun hf => ?_)
  · refine lv_iload_n hx hb dX7_intAt_16 rfl (lv_at hl 2 rfl) ?_
    exact q_iret hf hx hb hr rfl hk hw dX7_intAt_17 (Nat.le_of_ble_eq_true rfl) (Nat.le_of_ble_eq_true rfl)
  refine lv_iload_n hx hb dX7_intAt_4 rfl (lv_at hl 1 rfl) ?_
  refine lv_aload_n hx hb dX7_intAt_5 rfl (lv_at hl 0 rfl) ?_
  refine q_alenI (v := (Int32.ofNat n_k1)) hx hb hK hw (k := k1) (o := o1) hc_k1 ho_k1 rfl dX7_intAt_6 ?_
  refine q_ic_ge (tgt := 16) hx hb hf dX7_intAt_7 (by decide) (fun hf => ?_) (fun hf => ?_)
  · refine lv_iload_n hx hb dX7_intAt_16 rfl (lv_at hl 2 rfl) ?_
    exact q_iret hf hx hb hr rfl hk hw dX7_intAt_17 (Nat.le_of_ble_eq_true rfl) (Nat.le_of_ble_eq_true rfl)
  refine lv_aload_n hx hb dX7_intAt_10 rfl (lv_at hl 0 rfl) ?_
  refine lv_iload_n hx hb dX7_intAt_11 rfl (lv_at hl 1 rfl) ?_
  refine q_iald hx hb hK hw (k := k1) (o := o1) hc_k1 ho_k1 hf dX7_intAt_12 (fun hf => ?_)
  refine lv_goto (tgt := 17) hx hb dX7_intAt_13 (by decide) ?_
  exact q_iret hf hx hb hr rfl hk hw dX7_intAt_17 (Nat.le_of_ble_eq_true rfl) (Nat.le_of_ble_eq_true rfl)
set_option maxRecDepth 100000 in
theorem kX1_clockAt {Γ : Gm} {S : List (String × Nat × String)} {l : Launch} {N : Nat} {σ : St} {x1 : Int32} {r : Int32}  (hf : fX1_clockAt N σ x1 = some r) : CT Γ S l yX1_clockAt cX1_clockAt 2 (some (.int)) 1 22 0 0 [.ref (ga Γ 1 0), .int x1] (some (.int r)) σ σ := by
  unfold fX1_clockAt at hf
  refine ct_body (lv := [(0, .ref (ga Γ 1 0)), (1, .int x1)]) (by decide +kernel) rfl (Nat.le_of_ble_eq_true rfl) ?_
  intro p e s m below meth c ls X hr hk hK hw hl
  have hx := X.1
  have hb := X.2.1
  have hown := X.2.2.2
  refine lv_aload_n hx hb dX1_clockAt_0 rfl (lv_at hl 0 rfl) ?_
  refine q_get (v := .ref (ga Γ 101 0)) hx hb hK hw hown in_X1 ins_X1 (rfl : vwCl[3]? = some (RX1, TX1, 13)) rfl (Nat.le_of_ble_eq_true rfl : 0 < cnt (gn Γ) 1) 1 (by decide) 99 fl_X1_15 rfl rfl dX1_clockAt_1 ?_
  refine lv_iload_n hx hb dX1_clockAt_4 rfl (lv_at hl 1 rfl) ?_
  refine lv_iconst (v := 0) hx hb dX1_clockAt_5 (by decide) ?_
  refine q_pI hf hw (fun v h => q_rSN (As := [.ref (ga Γ 101 0), .int x1, .int (0 : Int32)]) (rest := []) X hK hw (kX7_intAt (fun _ _ _ => rfl) (Nat.le_of_ble_eq_true rfl : 0 < cnt (gn Γ) 101) h) msX7_intAt lk_X1_70 ⟨Nat.le_of_ble_eq_true rfl, Nat.le_of_ble_eq_true rfl⟩ rfl hl.1 rfl (Nat.le_of_ble_eq_true rfl) dX1_clockAt_6 ⟨Nat.le_of_ble_eq_true rfl, Nat.le_of_ble_eq_true rfl⟩) (fun v1 H locs hf hw => ?_)
  exact q_iret hf hx hb hr rfl hk hw dX1_clockAt_9 (Nat.le_of_ble_eq_true rfl) (Nat.le_of_ble_eq_true rfl)
set_option maxRecDepth 100000 in
theorem kX1_endRowOf {Γ : Gm} {S : List (String × Nat × String)} {l : Launch} {N : Nat} {σ : St} {x1 : Int32} {r : Int32}  (hf : fX1_endRowOf N σ x1 = some r) : CT Γ S l yX1_endRowOf cX1_endRowOf 2 (some (.int)) 0 0 0 0 [.ref (ga Γ 1 0), .int x1] (some (.int r)) σ σ := by
  unfold fX1_endRowOf at hf
  refine ct_body (lv := [(0, .ref (ga Γ 1 0)), (1, .int x1)]) (by decide +kernel) rfl (Nat.le_of_ble_eq_true rfl) ?_
  intro p e s m below meth c ls X hr hk hK hw hl
  have hx := X.1
  have hb := X.2.1
  have hown := X.2.2.2
  refine lv_iload_n hx hb dX1_endRowOf_0 rfl (lv_at hl 1 rfl) ?_
  refine q_if_lt (tgt := 20) hx hb hf dX1_endRowOf_1 (by decide) (fun hf => ?_) (fun hf => ?_)
  · refine lv_iconst (v := 0) hx hb dX1_endRowOf_20 (by decide) ?_
    exact q_iret hf hx hb hr rfl hk hw dX1_endRowOf_21 (Nat.le_of_ble_eq_true rfl) (Nat.le_of_ble_eq_true rfl)
  refine lv_iload_n hx hb dX1_endRowOf_4 rfl (lv_at hl 1 rfl) ?_
  refine lv_sipush (v := 250) hx hb dX1_endRowOf_5 (by decide) ?_
  refine q_ic_ge (tgt := 20) hx hb hf dX1_endRowOf_8 (by decide) (fun hf => ?_) (fun hf => ?_)
  · refine lv_iconst (v := 0) hx hb dX1_endRowOf_20 (by decide) ?_
    exact q_iret hf hx hb hr rfl hk hw dX1_endRowOf_21 (Nat.le_of_ble_eq_true rfl) (Nat.le_of_ble_eq_true rfl)
  refine lv_aload_n hx hb dX1_endRowOf_11 rfl (lv_at hl 0 rfl) ?_
  refine q_get (v := .ref (ga Γ 104 0)) hx hb hK hw hown in_X1 ins_X1 (rfl : vwCl[3]? = some (RX1, TX1, 13)) rfl (Nat.le_of_ble_eq_true rfl : 0 < cnt (gn Γ) 1) 4 (by decide) 102 fl_X1_25 rfl rfl dX1_endRowOf_12 ?_
  refine lv_iload_n hx hb dX1_endRowOf_15 rfl (lv_at hl 1 rfl) ?_
  refine q_iald hx hb hK hw (k := 104) (o := 0) (fun _ _ _ => rfl) (Nat.le_of_ble_eq_true rfl : 0 < cnt (gn Γ) 104) hf dX1_endRowOf_16 (fun hf => ?_)
  refine lv_goto (tgt := 21) hx hb dX1_endRowOf_17 (by decide) ?_
  exact q_iret hf hx hb hr rfl hk hw dX1_endRowOf_21 (Nat.le_of_ble_eq_true rfl) (Nat.le_of_ble_eq_true rfl)
