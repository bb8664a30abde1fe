/-! Contracts, by program. -/
set_option maxRecDepth 100000 in
theorem kX0_hasSameValues {Γ : Gm} {S : List (String × Nat × String)} {l : Launch} {N : Nat} {σ : St} {o : Nat} {o1 : Nat} {r : Int32} (ho : o < 5) (ho1 : o1 < 5) (hf : fX0_hasSameValues N σ o o1 = some r) : CT Γ S l yX0_hasSameValues cX0_hasSameValues 3 (some (.boolean)) 2 41 0 0 [.ref (ga Γ 3 o), .ref (ga Γ 3 o1)] (some (.int r)) σ σ := by
  unfold fX0_hasSameValues at hf
  refine ct_body (lv := [(0, .ref (ga Γ 3 o)), (1, .ref (ga Γ 3 o1))]) (by decide +kernel) rfl (Nat.le_of_ble_eq_true rfl) ?_
  intro p e s m below meth c ls X hr hk hK hw hl
  have hx := X.1
  have hb := X.2.1
  have hown := X.2.2.2
  refine lv_iconst (v := 0) hx hb dX0_hasSameValues_0 (by decide) ?_
  refine lv_istore_n (lv' := [(2, .int (0 : Int32)), (0, .ref (ga Γ 3 o)), (1, .ref (ga Γ 3 o1))]) hx hb dX0_hasSameValues_1 rfl hl (by decide) rfl (fun ls hl => ?_)
  have L2 : ∀ (K : Int32 → Option (Int32)) (hkk : ∀ (y2 : Int32) (H : Heap) (locs : List Loc) (ls : Array Slot), K y2 = some r → Sit Γ σ s H locs → lv_has ls 3 [] → W p l e { frames := 2, cells := 0, slots := 0, locals := 41 } s m [.ref (ga Γ 3 o), .ref (ga Γ 3 o1)].toArray below meth c H locs 0 0 (MQ below (Qg Γ (some (.int r)) σ (AA Γ s.heap.size)) [.ref (ga Γ 3 o), .ref (ga Γ 3 o1)].toArray s 0 0 (AA Γ s.heap.size)) (F0 m 34 ls [])) (n : Nat) (v1 : Int32) (H : Heap) (locs : List Loc) (ls : Array Slot), fX0_hasSameValues_L2 K N σ o o1 n v1 = some r → Sit Γ σ s H locs → lv_has ls 3 [(0, .ref (ga Γ 3 o)), (1, .ref (ga Γ 3 o1)), (2, .int v1)] → W p l e { frames := 2, cells := 0, slots := 0, locals := 41 } s m [.ref (ga Γ 3 o), .ref (ga Γ 3 o1)].toArray below meth c H locs 0 0 (MQ below (Qg Γ (some (.int r)) σ (AA Γ s.heap.size)) [.ref (ga Γ 3 o), .ref (ga Γ 3 o1)].toArray s 0 0 (AA Γ s.heap.size)) (F0 m 2 ls []) := by
    intro K hkk n
    induction n with
    | zero =>
      intro _ _ _ _ hf
      exact nomatch hf
    | succ n ih =>
      intro v1 H locs ls hf hw hl
      refine lv_iload_n hx hb dX0_hasSameValues_2 rfl (lv_at hl 2 rfl) ?_
      refine lv_bipush (v := 93) hx hb dX0_hasSameValues_3 (by decide) ?_
      refine q_ic_ge (tgt := 34) hx hb hf dX0_hasSameValues_5 (by decide) (fun hf => ?_) (fun hf => ?_)
      · exact hkk _ _ _ _ hf hw (lv_sub hl [] rfl)
      refine lv_aload_n hx hb dX0_hasSameValues_8 rfl (lv_at hl 0 rfl) ?_
      refine q_get (v := .ref (ga Γ 120 o)) hx hb hK hw hown in_X0 ins_X0 (rfl : vwCl[2]? = some (RX0, TX0, 4)) rfl ho 1 (by decide) 201 fl_X0_9 rfl rfl dX0_hasSameValues_9 ?_
      refine lv_iload_n hx hb dX0_hasSameValues_12 rfl (lv_at hl 2 rfl) ?_
      refine q_fald hx hb hK hw (k := 120) (o := o) (fun _ _ _ => rfl) ho hf dX0_hasSameValues_13 (fun hf => ?_)
      refine lv_aload_n hx hb dX0_hasSameValues_14 rfl (lv_at hl 1 rfl) ?_
      refine q_get (v := .ref (ga Γ 120 o1)) hx hb hK hw hown in_X0 ins_X0 (rfl : vwCl[2]? = some (RX0, TX0, 4)) rfl ho1 1 (by decide) 201 fl_X0_9 rfl rfl dX0_hasSameValues_15 ?_
      refine lv_iload_n hx hb dX0_hasSameValues_18 rfl (lv_at hl 2 rfl) ?_
      refine q_fald hx hb hK hw (k := 120) (o := o1) (fun _ _ _ => rfl) ho1 hf dX0_hasSameValues_19 (fun hf => ?_)
      refine q_pI hf hw (fun v h => q_rSN (As := [.float (gF σ 120 o (Int32.toNatClampNeg v1)), .float (gF σ 120 o1 (Int32.toNatClampNeg v1))]) (rest := []) X hK hw (kX7_isSameValue h) msX7_isSameValue lk_X0_52 ⟨Nat.le_of_ble_eq_true rfl, Nat.le_of_ble_eq_true rfl⟩ rfl hl.1 rfl (Nat.le_of_ble_eq_true rfl) dX0_hasSameValues_20 ⟨Nat.le_of_ble_eq_true rfl, Nat.le_of_ble_eq_true rfl⟩) (fun v2 H locs hf hw => ?_)
      refine q_if_ne (tgt := 28) hx hb hf dX0_hasSameValues_23 (by decide) (fun hf => ?_) (fun hf => ?_)
      · refine q_iinc (lv1 := [(0, .ref (ga Γ 3 o)), (1, .ref (ga Γ 3 o1))]) (d := 1) hx hb hf dX0_hasSameValues_28 hl (k := 2) rfl (by decide) (by decide) rfl (fun v3 ls hf hl => ?_)
        refine lv_goto (tgt := 2) hx hb dX0_hasSameValues_31 (by decide) ?_
        exact ih _ _ _ _ hf hw (lv_sub hl [1, 2, 0] rfl)
      refine lv_iconst (v := 0) hx hb dX0_hasSameValues_26 (by decide) ?_
      exact q_iret hf hx hb hr rfl hk hw dX0_hasSameValues_27 (Nat.le_of_ble_eq_true rfl) (Nat.le_of_ble_eq_true rfl)
  refine L2 _ (fun _ H locs ls hf hw hl => ?_) N (0 : Int32) _ _ _ hf hw (lv_sub hl [1, 2, 0] rfl)
  refine lv_iconst (v := 1) hx hb dX0_hasSameValues_34 (by decide) ?_
  exact q_iret hf hx hb hr rfl hk hw dX0_hasSameValues_35 (Nat.le_of_ble_eq_true rfl) (Nat.le_of_ble_eq_true rfl)
set_option maxRecDepth 100000 in
theorem kX6_countFrames {Γ : Gm} {S : List (String × Nat × String)} {l : Launch} {N : Nat} {σ : St} {o : Nat} {r : Int32} (ho : o < 4) (hf : fX6_countFrames N σ o = some r) : CT Γ S l yX6_countFrames cX6_countFrames 3 (some (.int)) 2 42 0 0 [.ref (ga Γ 7 o)] (some (.int r)) σ σ := by
  unfold fX6_countFrames at hf
  refine ct_body (lv := [(0, .ref (ga Γ 7 o))]) (by decide +kernel) rfl (Nat.le_of_ble_eq_true rfl) ?_
  intro p e s m below meth c ls X hr hk hK hw hl
  have hx := X.1
  have hb := X.2.1
  have hown := X.2.2.2
  refine lv_iconst (v := 0) hx hb dX6_countFrames_0 (by decide) ?_
  refine lv_istore_n (lv' := [(1, .int (0 : Int32)), (0, .ref (ga Γ 7 o))]) hx hb dX6_countFrames_1 rfl hl (by decide) rfl (fun ls hl => ?_)
  refine lv_iconst (v := 0) hx hb dX6_countFrames_2 (by decide) ?_
  refine lv_istore_n (lv' := [(2, .int (0 : Int32)), (1, .int (0 : Int32)), (0, .ref (ga Γ 7 o))]) hx hb dX6_countFrames_3 rfl hl (by decide) rfl (fun ls hl => ?_)
  have L4 : ∀ (K : Int32 → Int32 → Option (Int32)) (hkk : ∀ (y1 : Int32) (y2 : Int32) (H : Heap) (locs : List Loc) (ls : Array Slot), K y1 y2 = some r → Sit Γ σ s H locs → lv_has ls 3 [(1, .int y1)] → W p l e { frames := 2, cells := 0, slots := 0, locals := 42 } s m [.ref (ga Γ 7 o)].toArray below meth c H locs 0 0 (MQ below (Qg Γ (some (.int r)) σ (AA Γ s.heap.size)) [.ref (ga Γ 7 o)].toArray s 0 0 (AA Γ s.heap.size)) (F0 m 38 ls [])) (n : Nat) (v1 : Int32) (v2 : Int32) (H : Heap) (locs : List Loc) (ls : Array Slot), fX6_countFrames_L4 K N σ o n v1 v2 = some r → Sit Γ σ s H locs → lv_has ls 3 [(0, .ref (ga Γ 7 o)), (1, .int v1), (2, .int v2)] → W p l e { frames := 2, cells := 0, slots := 0, locals := 42 } s m [.ref (ga Γ 7 o)].toArray below meth c H locs 0 0 (MQ below (Qg Γ (some (.int r)) σ (AA Γ s.heap.size)) [.ref (ga Γ 7 o)].toArray s 0 0 (AA Γ s.heap.size)) (F0 m 4 ls []) := by
    intro K hkk n
    induction n with
    | zero =>
      intro _ _ _ _ _ hf
      exact nomatch hf
    | succ n ih =>
      intro v1 v2 H locs ls hf hw hl
      refine lv_iload_n hx hb dX6_countFrames_4 rfl (lv_at hl 2 rfl) ?_
      refine lv_bipush (v := 12) hx hb dX6_countFrames_5 (by decide) ?_
      refine q_ic_ge (tgt := 38) hx hb hf dX6_countFrames_7 (by decide) (fun hf => ?_) (fun hf => ?_)
      · exact hkk _ _ _ _ _ hf hw (lv_sub hl [1] rfl)
      refine lv_aload_n hx hb dX6_countFrames_10 rfl (lv_at hl 0 rfl) ?_
      refine lv_iload_n hx hb dX6_countFrames_11 rfl (lv_at hl 2 rfl) ?_
      refine q_pI hf hw (fun v h => q_rV (As := [.int v2]) (rest := []) (q := (RX6, TX6, 2)) X hK hw rfl ho (rfl : vwCl[8]? = _) (kX6_isSeen ho h) mvX6_isSeen lk_X6_31 ⟨Nat.le_of_ble_eq_true rfl, Nat.le_of_ble_eq_true rfl⟩ rfl hl.1 rfl (Nat.le_of_ble_eq_true rfl) dX6_countFrames_12 ⟨Nat.le_of_ble_eq_true rfl, Nat.le_of_ble_eq_true rfl⟩) (fun v3 H locs hf hw => ?_)
      refine q_if_eq (tgt := 32) hx hb hf dX6_countFrames_15 (by decide) (fun hf => ?_) (fun hf => ?_)
      · refine q_iinc (lv1 := [(0, .ref (ga Γ 7 o)), (1, .int v1)]) (d := 1) hx hb hf dX6_countFrames_32 hl (k := 2) rfl (by decide) (by decide) rfl (fun v4 ls hf hl => ?_)
        refine lv_goto (tgt := 4) hx hb dX6_countFrames_35 (by decide) ?_
        exact ih _ _ _ _ _ hf hw (lv_sub hl [1, 2, 0] rfl)
      refine lv_aload_n hx hb dX6_countFrames_18 rfl (lv_at hl 0 rfl) ?_
      refine q_get (v := .ref (ga Γ 2 0)) hx hb hK hw hown in_X6 ins_X6 (rfl : vwCl[8]? = some (RX6, TX6, 2)) rfl ho 1 (by decide) 220 fl_X6_15 rfl rfl dX6_countFrames_19 ?_
      refine lv_iload_n hx hb dX6_countFrames_22 rfl (lv_at hl 2 rfl) ?_
      refine q_pI hf hw (fun v h => q_rV (As := [.int v2]) (rest := []) (q := (RX2, TX2, 9)) X hK hw rfl (Nat.le_of_ble_eq_true rfl : 0 < cnt (gn Γ) 2) (rfl : vwCl[4]? = _) (kX2_isFrameAt h) mvX2_isFrameAt lk_X6_34 ⟨Nat.le_of_ble_eq_true rfl, Nat.le_of_ble_eq_true rfl⟩ rfl hl.1 rfl (Nat.le_of_ble_eq_true rfl) dX6_countFrames_23 ⟨Nat.le_of_ble_eq_true rfl, Nat.le_of_ble_eq_true rfl⟩) (fun v5 H locs hf hw => ?_)
      refine q_if_eq (tgt := 32) hx hb hf dX6_countFrames_26 (by decide) (fun hf => ?_) (fun hf => ?_)
      · refine q_iinc (lv1 := [(0, .ref (ga Γ 7 o)), (1, .int v1)]) (d := 1) hx hb hf dX6_countFrames_32 hl (k := 2) rfl (by decide) (by decide) rfl (fun v6 ls hf hl => ?_)
        refine lv_goto (tgt := 4) hx hb dX6_countFrames_35 (by decide) ?_
        exact ih _ _ _ _ _ hf hw (lv_sub hl [1, 2, 0] rfl)
      refine q_iinc (lv1 := [(0, .ref (ga Γ 7 o)), (2, .int v2)]) (d := 1) hx hb hf dX6_countFrames_29 hl (k := 1) rfl (by decide) (by decide) rfl (fun v7 ls hf hl => ?_)
      refine q_iinc (lv1 := [(1, .int v7), (0, .ref (ga Γ 7 o))]) (d := 1) hx hb hf dX6_countFrames_32 hl (k := 2) rfl (by decide) (by decide) rfl (fun v8 ls hf hl => ?_)
      refine lv_goto (tgt := 4) hx hb dX6_countFrames_35 (by decide) ?_
      exact ih _ _ _ _ _ hf hw (lv_sub hl [2, 1, 0] rfl)
  refine L4 _ (fun v9 _ H locs ls hf hw hl => ?_) N (0 : Int32) (0 : Int32) _ _ _ hf hw (lv_sub hl [2, 1, 0] rfl)
  refine lv_iload_n hx hb dX6_countFrames_38 rfl (lv_at hl 0 rfl) ?_
  exact q_iret hf hx hb hr rfl hk hw dX6_countFrames_39 (Nat.le_of_ble_eq_true rfl) (Nat.le_of_ble_eq_true rfl)
set_option maxRecDepth 100000 in
theorem kX6_sumOfAreas {Γ : Gm} {S : List (String × Nat × String)} {l : Launch} {N : Nat} {σ : St} {o : Nat} {r : Int64} (ho : o < 4) (hf : fX6_sumOfAreas N σ o = some r) : CT Γ S l yX6_sumOfAreas cX6_sumOfAreas 4 (some (.long)) 2 43 0 0 [.ref (ga Γ 7 o)] (some (.long r)) σ σ := by
  unfold fX6_sumOfAreas at hf
  refine ct_body (lv := [(0, .ref (ga Γ 7 o))]) (by decide +kernel) rfl (Nat.le_of_ble_eq_true rfl) ?_
  intro p e s m below meth c ls X hr hk hK hw hl
  have hx := X.1
  have hb := X.2.1
  have hown := X.2.2.2
  refine lv_lconst (v := 0) hx hb dX6_sumOfAreas_0 rfl ?_
  refine lv_lstore_n (lv' := [(1, .long (0 : Int64)), (0, .ref (ga Γ 7 o))]) hx hb dX6_sumOfAreas_1 rfl hl (by decide) rfl (fun ls hl => ?_)
  refine lv_iconst (v := 0) hx hb dX6_sumOfAreas_2 (by decide) ?_
  refine lv_istore_n (lv' := [(3, .int (0 : Int32)), (1, .long (0 : Int64)), (0, .ref (ga Γ 7 o))]) hx hb dX6_sumOfAreas_3 rfl hl (by decide) rfl (fun ls hl => ?_)
  have L4 : ∀ (K : Int64 → Int32 → Option (Int64)) (hkk : ∀ (y1 : Int64) (y3 : Int32) (H : Heap) (locs : List Loc) (ls : Array Slot), K y1 y3 = some r → Sit Γ σ s H locs → lv_has ls 4 [(1, .long y1)] → W p l e { frames := 2, cells := 0, slots := 0, locals := 43 } s m [.ref (ga Γ 7 o)].toArray below meth c H locs 0 0 (MQ below (Qg Γ (some (.long r)) σ (AA Γ s.heap.size)) [.ref (ga Γ 7 o)].toArray s 0 0 (AA Γ s.heap.size)) (F0 m 46 ls [])) (n : Nat) (v1 : Int64) (v2 : Int32) (H : Heap) (locs : List Loc) (ls : Array Slot), fX6_sumOfAreas_L4 K N σ o n v1 v2 = some r → Sit Γ σ s H locs → lv_has ls 4 [(0, .ref (ga Γ 7 o)), (1, .long v1), (3, .int v2)] → W p l e { frames := 2, cells := 0, slots := 0, locals := 43 } s m [.ref (ga Γ 7 o)].toArray below meth c H locs 0 0 (MQ below (Qg Γ (some (.long r)) σ (AA Γ s.heap.size)) [.ref (ga Γ 7 o)].toArray s 0 0 (AA Γ s.heap.size)) (F0 m 4 ls []) := by
    intro K hkk n
    induction n with
    | zero =>
      intro _ _ _ _ _ hf
      exact nomatch hf
    | succ n ih =>
      intro v1 v2 H locs ls hf hw hl
      refine lv_iload_n hx hb dX6_sumOfAreas_4 rfl (lv_at hl 2 rfl) ?_
      refine lv_bipush (v := 12) hx hb dX6_sumOfAreas_5 (by decide) ?_
      refine q_ic_ge (tgt := 46) hx hb hf dX6_sumOfAreas_7 (by decide) (fun hf => ?_) (fun hf => ?_)
      · exact hkk _ _ _ _ _ hf hw (lv_sub hl [1] rfl)
      refine lv_aload_n hx hb dX6_sumOfAreas_10 rfl (lv_at hl 0 rfl) ?_
      refine lv_iload_n hx hb dX6_sumOfAreas_11 rfl (lv_at hl 2 rfl) ?_
      refine q_pI hf hw (fun v h => q_rV (As := [.int v2]) (rest := []) (q := (RX6, TX6, 2)) X hK hw rfl ho (rfl : vwCl[8]? = _) (kX6_isSeen ho h) mvX6_isSeen lk_X6_31 ⟨Nat.le_of_ble_eq_true rfl, Nat.le_of_ble_eq_true rfl⟩ rfl hl.1 rfl (Nat.le_of_ble_eq_true rfl) dX6_sumOfAreas_12 ⟨Nat.le_of_ble_eq_true rfl, Nat.le_of_ble_eq_true rfl⟩) (fun v3 H locs hf hw => ?_)
      refine q_if_eq (tgt := 40) hx hb hf dX6_sumOfAreas_15 (by decide) (fun hf => ?_) (fun hf => ?_)
      · refine q_iinc (lv1 := [(0, .ref (ga Γ 7 o)), (1, .long v1)]) (d := 1) hx hb hf dX6_sumOfAreas_40 hl (k := 2) rfl (by decide) (by decide) rfl (fun v4 ls hf hl => ?_)
        refine lv_goto (tgt := 4) hx hb dX6_sumOfAreas_43 (by decide) ?_
        exact ih _ _ _ _ _ hf hw (lv_sub hl [1, 2, 0] rfl)
      refine lv_lload_n hx hb dX6_sumOfAreas_18 rfl (lv_at hl 1 rfl) ?_
      refine lv_aload_n hx hb dX6_sumOfAreas_19 rfl (lv_at hl 0 rfl) ?_
      refine q_get (v := .ref (ga Γ 2 0)) hx hb hK hw hown in_X6 ins_X6 (rfl : vwCl[8]? = some (RX6, TX6, 2)) rfl ho 1 (by decide) 220 fl_X6_15 rfl rfl dX6_sumOfAreas_20 ?_
      refine lv_iload_n hx hb dX6_sumOfAreas_23 rfl (lv_at hl 2 rfl) ?_
      refine q_pI hf hw (fun v h => q_rV (As := [.int v2]) (rest := [.long v1]) (q := (RX2, TX2, 9)) X hK hw rfl (Nat.le_of_ble_eq_true rfl : 0 < cnt (gn Γ) 2) (rfl : vwCl[4]? = _) (kX2_widthAt h) mvX2_widthAt lk_X6_37 ⟨Nat.le_of_ble_eq_true rfl, Nat.le_of_ble_eq_true rfl⟩ rfl hl.1 rfl (Nat.le_of_ble_eq_true rfl) dX6_sumOfAreas_24 ⟨Nat.le_of_ble_eq_true rfl, Nat.le_of_ble_eq_true rfl⟩) (fun v5 H locs hf hw => ?_)
      refine lv_i2l hx hb dX6_sumOfAreas_27 rfl ?_
      refine lv_aload_n hx hb dX6_sumOfAreas_28 rfl (lv_at hl 0 rfl) ?_
      refine q_get (v := .ref (ga Γ 2 0)) hx hb hK hw hown in_X6 ins_X6 (rfl : vwCl[8]? = some (RX6, TX6, 2)) rfl ho 1 (by decide) 220 fl_X6_15 rfl rfl dX6_sumOfAreas_29 ?_
      refine lv_iload_n hx hb dX6_sumOfAreas_32 rfl (lv_at hl 2 rfl) ?_
      refine q_pI hf hw (fun v h => q_rV (As := [.int v2]) (rest := [.long (Int32.toInt64 v5), .long v1]) (q := (RX2, TX2, 9)) X hK hw rfl (Nat.le_of_ble_eq_true rfl : 0 < cnt (gn Γ) 2) (rfl : vwCl[4]? = _) (kX2_heightAt h) mvX2_heightAt lk_X6_41 ⟨Nat.le_of_ble_eq_true rfl, Nat.le_of_ble_eq_true rfl⟩ rfl hl.1 rfl (Nat.le_of_ble_eq_true rfl) dX6_sumOfAreas_33 ⟨Nat.le_of_ble_eq_true rfl, Nat.le_of_ble_eq_true rfl⟩) (fun v6 H locs hf hw => ?_)
      refine lv_i2l hx hb dX6_sumOfAreas_36 rfl ?_
      refine lv_lmul hx hb dX6_sumOfAreas_37 ?_
      refine lv_ladd hx hb dX6_sumOfAreas_38 ?_
      refine q_lstore_n (lv1 := [(0, .ref (ga Γ 7 o)), (3, .int v2)]) hx hb hf dX6_sumOfAreas_39 rfl hl (by decide) rfl (fun v7 ls hf hl => ?_)
      refine q_iinc (lv1 := [(1, .long v7), (0, .ref (ga Γ 7 o))]) (d := 1) hx hb hf dX6_sumOfAreas_40 hl (k := 2) rfl (by decide) (by decide) rfl (fun v8 ls hf hl => ?_)
      refine lv_goto (tgt := 4) hx hb dX6_sumOfAreas_43 (by decide) ?_
      exact ih _ _ _ _ _ hf hw (lv_sub hl [2, 1, 0] rfl)
  refine L4 _ (fun v9 _ H locs ls hf hw hl => ?_) N (0 : Int64) (0 : Int32) _ _ _ hf hw (lv_sub hl [2, 1, 0] rfl)
  refine lv_lload_n hx hb dX6_sumOfAreas_46 rfl (lv_at hl 0 rfl) ?_
  exact q_lret hf hx hb hr hk hw dX6_sumOfAreas_47 (Nat.le_of_ble_eq_true rfl) (Nat.le_of_ble_eq_true rfl)
