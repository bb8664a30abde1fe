/-! Contracts, by program. -/
set_option maxRecDepth 100000 in
theorem kX1_firstRowOf {Γ : Gm} {S : List (String × Nat × String)} {l : Launch} {N : Nat} {σ : St} {x1 : Int32} {r : Int32}  (hf : fX1_firstRowOf N σ x1 = some r) : CT Γ S l yX1_firstRowOf cX1_firstRowOf 2 (some (.int)) 0 0 0 0 [.ref (ga Γ 1 0), .int x1] (some (.int r)) σ σ := by
  unfold fX1_firstRowOf at hf
  refine ct_body (lv := [(0, .ref (ga Γ 1 0)), (1, .int x1)]) (by decide +kernel) rfl (Nat.le_of_ble_eq_true rfl) ?_
  intro p e s m below meth c ls X hr hk hK hw hl
  have hx := X.1
  have hb := X.2.1
  have hown := X.2.2.2
  refine lv_iload_n hx hb dX1_firstRowOf_0 rfl (lv_at hl 1 rfl) ?_
  refine q_if_lt (tgt := 20) hx hb hf dX1_firstRowOf_1 (by decide) (fun hf => ?_) (fun hf => ?_)
  · refine lv_iconst (v := 0) hx hb dX1_firstRowOf_20 (by decide) ?_
    exact q_iret hf hx hb hr rfl hk hw dX1_firstRowOf_21 (Nat.le_of_ble_eq_true rfl) (Nat.le_of_ble_eq_true rfl)
  refine lv_iload_n hx hb dX1_firstRowOf_4 rfl (lv_at hl 1 rfl) ?_
  refine lv_sipush (v := 250) hx hb dX1_firstRowOf_5 (by decide) ?_
  refine q_ic_ge (tgt := 20) hx hb hf dX1_firstRowOf_8 (by decide) (fun hf => ?_) (fun hf => ?_)
  · refine lv_iconst (v := 0) hx hb dX1_firstRowOf_20 (by decide) ?_
    exact q_iret hf hx hb hr rfl hk hw dX1_firstRowOf_21 (Nat.le_of_ble_eq_true rfl) (Nat.le_of_ble_eq_true rfl)
  refine lv_aload_n hx hb dX1_firstRowOf_11 rfl (lv_at hl 0 rfl) ?_
  refine q_get (v := .ref (ga Γ 103 0)) hx hb hK hw hown in_X1 ins_X1 (rfl : vwCl[3]? = some (RX1, TX1, 13)) rfl (Nat.le_of_ble_eq_true rfl : 0 < cnt (gn Γ) 1) 3 (by decide) 101 fl_X1_22 rfl rfl dX1_firstRowOf_12 ?_
  refine lv_iload_n hx hb dX1_firstRowOf_15 rfl (lv_at hl 1 rfl) ?_
  refine q_iald hx hb hK hw (k := 103) (o := 0) (fun _ _ _ => rfl) (Nat.le_of_ble_eq_true rfl : 0 < cnt (gn Γ) 103) hf dX1_firstRowOf_16 (fun hf => ?_)
  refine lv_goto (tgt := 21) hx hb dX1_firstRowOf_17 (by decide) ?_
  exact q_iret hf hx hb hr rfl hk hw dX1_firstRowOf_21 (Nat.le_of_ble_eq_true rfl) (Nat.le_of_ble_eq_true rfl)
set_option maxRecDepth 100000 in
theorem kX7_floatAt {Γ : Gm} {S : List (String × Nat × String)} {l : Launch} {N : Nat} {σ : St} {k1 : Nat} {o1 : Nat} {n_k1 : Nat} {x2 : Int32} {r : UInt32} (hc_k1 : ∀ f g ρ, cell1 Γ k1 o1 f g ρ = aF Γ n_k1 g) (ho_k1 : o1 < cnt (gn Γ) k1) (hf : fX7_floatAt N σ k1 o1 n_k1 x2 = some r) : CT Γ S l yX7_floatAt cX7_floatAt 2 (some (.float)) 0 0 0 0 [.ref (ga Γ k1 o1), .int x2] (some (.float r)) σ σ := by
  unfold fX7_floatAt at hf
  refine ct_body (lv := [(0, .ref (ga Γ k1 o1)), (1, .int x2)]) (by decide +kernel) rfl (Nat.le_of_ble_eq_true rfl) ?_
  intro p e s m below meth c ls X hr hk hK hw hl
  have hx := X.1
  have hb := X.2.1
  have hown := X.2.2.2
  refine lv_iload_n hx hb dX7_floatAt_0 rfl (lv_at hl 1 rfl) ?_
  refine q_if_lt (tgt := 16) hx hb hf dX7_floatAt_1 (by decide) (fun hf => ?_) (fun hf => ?_)
  · refine lv_fconst0 hx hb dX7_floatAt_16 ?_
    exact q_fret hf hx hb hr hk hw dX7_floatAt_17 (Nat.le_of_ble_eq_true rfl) (Nat.le_of_ble_eq_true rfl)
  refine lv_iload_n hx hb dX7_floatAt_4 rfl (lv_at hl 1 rfl) ?_
  refine lv_aload_n hx hb dX7_floatAt_5 rfl (lv_at hl 0 rfl) ?_
  refine q_alenF (v := (Int32.ofNat n_k1)) hx hb hK hw (k := k1) (o := o1) hc_k1 ho_k1 rfl dX7_floatAt_6 ?_
  refine q_ic_ge (tgt := 16) hx hb hf dX7_floatAt_7 (by decide) (fun hf => ?_) (fun hf => ?_)
  · refine lv_fconst0 hx hb dX7_floatAt_16 ?_
    exact q_fret hf hx hb hr hk hw dX7_floatAt_17 (Nat.le_of_ble_eq_true rfl) (Nat.le_of_ble_eq_true rfl)
  refine lv_aload_n hx hb dX7_floatAt_10 rfl (lv_at hl 0 rfl) ?_
  refine lv_iload_n hx hb dX7_floatAt_11 rfl (lv_at hl 1 rfl) ?_
  refine q_fald hx hb hK hw (k := k1) (o := o1) hc_k1 ho_k1 hf dX7_floatAt_12 (fun hf => ?_)
  refine lv_goto (tgt := 17) hx hb dX7_floatAt_13 (by decide) ?_
  exact q_fret hf hx hb hr hk hw dX7_floatAt_17 (Nat.le_of_ble_eq_true rfl) (Nat.le_of_ble_eq_true rfl)
set_option maxRecDepth 100000 in
theorem kX0_take {Γ : Gm} {S : List (String × Nat × String)} {l : Launch} {N : Nat} {σ τ : St} {o : Nat} {x1 : Int32} (ho : o < 5) (hf : fX0_take N σ o x1 = some τ) : CT Γ S l yX0_take cX0_take 5 none 1 23 0 0 [.ref (ga Γ 3 o), .int x1] none σ τ := by
  unfold fX0_take at hf
  refine ct_body (lv := [(0, .ref (ga Γ 3 o)), (1, .int x1)]) (by decide +kernel) rfl (Nat.le_of_ble_eq_true rfl) ?_
  intro p e s m below meth c ls X hr hk hK hw hl
  have hx := X.1
  have hb := X.2.1
  have hown := X.2.2.2
  refine lv_aload_n hx hb dX0_take_0 rfl (lv_at hl 0 rfl) ?_
  refine q_get (v := .ref (ga Γ 1 0)) hx hb hK hw hown in_X0 ins_X0 (rfl : vwCl[2]? = some (RX0, TX0, 4)) rfl ho 0 (by decide) 200 fl_X0_22 rfl rfl dX0_take_1 ?_
  refine lv_iload_n hx hb dX0_take_4 rfl (lv_at hl 1 rfl) ?_
  refine q_pI hf hw (fun v h => q_rV (As := [.int x1]) (rest := []) (q := (RX1, TX1, 13)) X hK hw rfl (Nat.le_of_ble_eq_true rfl : 0 < cnt (gn Γ) 1) (rfl : vwCl[3]? = _) (kX1_endRowOf h) mvX1_endRowOf lk_X0_26 ⟨Nat.le_of_ble_eq_true rfl, Nat.le_of_ble_eq_true rfl⟩ rfl hl.1 rfl (Nat.le_of_ble_eq_true rfl) dX0_take_5 ⟨Nat.le_of_ble_eq_true rfl, Nat.le_of_ble_eq_true rfl⟩) (fun v1 H locs hf hw => ?_)
  refine lv_istore_n (lv' := [(2, .int v1), (0, .ref (ga Γ 3 o)), (1, .int x1)]) hx hb dX0_take_8 rfl hl (by decide) rfl (fun ls hl => ?_)
  refine lv_aload_n hx hb dX0_take_9 rfl (lv_at hl 1 rfl) ?_
  refine q_get (v := .ref (ga Γ 1 0)) hx hb hK hw hown in_X0 ins_X0 (rfl : vwCl[2]? = some (RX0, TX0, 4)) rfl ho 0 (by decide) 200 fl_X0_22 rfl rfl dX0_take_10 ?_
  refine lv_iload_n hx hb dX0_take_13 rfl (lv_at hl 2 rfl) ?_
  refine q_pI hf hw (fun v h => q_rV (As := [.int x1]) (rest := []) (q := (RX1, TX1, 13)) X hK hw rfl (Nat.le_of_ble_eq_true rfl : 0 < cnt (gn Γ) 1) (rfl : vwCl[3]? = _) (kX1_firstRowOf h) mvX1_firstRowOf lk_X0_32 ⟨Nat.le_of_ble_eq_true rfl, Nat.le_of_ble_eq_true rfl⟩ rfl hl.1 rfl (Nat.le_of_ble_eq_true rfl) dX0_take_14 ⟨Nat.le_of_ble_eq_true rfl, Nat.le_of_ble_eq_true rfl⟩) (fun v2 H locs hf hw => ?_)
  refine lv_istore_n (lv' := [(3, .int v2), (2, .int v1), (0, .ref (ga Γ 3 o)), (1, .int x1)]) hx hb dX0_take_17 rfl hl (by decide) rfl (fun ls hl => ?_)
  have L18 : ∀ (K : Int32 → St → Option (St)) (hkk : ∀ (y3 : Int32) (σq : St) (H : Heap) (locs : List Loc) (ls : Array Slot), K y3 σq = some τ → Sit Γ σq s H locs → lv_has ls 5 [] → W p l e { frames := 1, cells := 0, slots := 0, locals := 23 } s m [.ref (ga Γ 3 o), .int x1].toArray below meth c H locs 0 0 (MQ below (Qg Γ (none) τ (AA Γ s.heap.size)) [.ref (ga Γ 3 o), .int x1].toArray s 0 0 (AA Γ s.heap.size)) (F0 m 118 ls [])) (n : Nat) (v3 : Int32) (σ4 : St) (H : Heap) (locs : List Loc) (ls : Array Slot), fX0_take_L18 K N o x1 v1 n v3 σ4 = some τ → Sit Γ σ4 s H locs → lv_has ls 5 [(0, .ref (ga Γ 3 o)), (1, .int x1), (2, .int v1), (3, .int v3)] → W p l e { frames := 1, cells := 0, slots := 0, locals := 23 } s m [.ref (ga Γ 3 o), .int x1].toArray below meth c H locs 0 0 (MQ below (Qg Γ (none) τ (AA Γ s.heap.size)) [.ref (ga Γ 3 o), .int x1].toArray s 0 0 (AA Γ s.heap.size)) (F0 m 18 ls []) := by
    intro K hkk n
    induction n with
    | zero =>
      intro _ _ _ _ _ hf
      exact nomatch hf
    | succ n ih =>
      intro v3 σ4 H locs ls hf hw hl
      refine lv_iload_n hx hb dX0_take_18 rfl (lv_at hl 3 rfl) ?_
      refine lv_iload_n hx hb dX0_take_19 rfl (lv_at hl 2 rfl) ?_
      refine q_ic_ge (tgt := 118) hx hb hf dX0_take_20 (by decide) (fun hf => ?_) (fun hf => ?_)
      · exact hkk _ _ _ _ _ hf hw (lv_sub hl [] rfl)
      refine lv_aload_n hx hb dX0_take_23 rfl (lv_at hl 0 rfl) ?_
      refine q_get (v := .ref (ga Γ 1 0)) hx hb hK hw hown in_X0 ins_X0 (rfl : vwCl[2]? = some (RX0, TX0, 4)) rfl ho 0 (by decide) 200 fl_X0_22 rfl rfl dX0_take_24 ?_
      refine q_get (v := .ref (ga Γ 106 0)) hx hb hK hw hown in_X1 ins_X1 (rfl : vwCl[3]? = some (RX1, TX1, 13)) rfl (Nat.le_of_ble_eq_true rfl : 0 < cnt (gn Γ) 1) 6 (by decide) 105 fl_X0_35 rfl rfl dX0_take_27 ?_
      refine lv_iload_n hx hb dX0_take_30 rfl (lv_at hl 3 rfl) ?_
      refine lv_iconst (v := (-1)) hx hb dX0_take_31 (by decide) ?_
      refine q_pI hf hw (fun v h => q_rSN (As := [.ref (ga Γ 106 0), .int v3, .int ((-1) : Int32)]) (rest := []) X hK hw (kX7_intAt (fun _ _ _ => rfl) (Nat.le_of_ble_eq_true rfl : 0 < cnt (gn Γ) 106) h) msX7_intAt lk_X0_38 ⟨Nat.le_of_ble_eq_true rfl, Nat.le_of_ble_eq_true rfl⟩ rfl hl.1 rfl (Nat.le_of_ble_eq_true rfl) dX0_take_32 ⟨Nat.le_of_ble_eq_true rfl, Nat.le_of_ble_eq_true rfl⟩) (fun v5 H locs hf hw => ?_)
      refine lv_istore (lv' := [(4, .int v5), (0, .ref (ga Γ 3 o)), (1, .int x1), (2, .int v1), (3, .int v3)]) hx hb dX0_take_35 hl (by decide) rfl (fun ls hl => ?_)
      refine lv_iload hx hb dX0_take_37 (lv_at hl 0 rfl) ?_
      refine q_if_lt (tgt := 112) hx hb hf dX0_take_39 (by decide) (fun hf => ?_) (fun hf => ?_)
      · refine q_iinc (lv1 := [(4, .int v5), (0, .ref (ga Γ 3 o)), (1, .int x1), (2, .int v1)]) (d := 1) hx hb hf dX0_take_112 hl (k := 4) rfl (by decide) (by decide) rfl (fun v6 ls hf hl => ?_)
        refine lv_goto (tgt := 18) hx hb dX0_take_115 (by decide) ?_
        exact ih _ _ _ _ _ hf hw (lv_sub hl [2, 3, 4, 0] rfl)
      refine lv_iload hx hb dX0_take_42 (lv_at hl 0 rfl) ?_
      refine lv_bipush (v := 93) hx hb dX0_take_44 (by decide) ?_
      refine q_ic_ge (tgt := 112) hx hb hf dX0_take_46 (by decide) (fun hf => ?_) (fun hf => ?_)
      · refine q_iinc (lv1 := [(4, .int v5), (0, .ref (ga Γ 3 o)), (1, .int x1), (2, .int v1)]) (d := 1) hx hb hf dX0_take_112 hl (k := 4) rfl (by decide) (by decide) rfl (fun v7 ls hf hl => ?_)
        refine lv_goto (tgt := 18) hx hb dX0_take_115 (by decide) ?_
        exact ih _ _ _ _ _ hf hw (lv_sub hl [2, 3, 4, 0] rfl)
      refine lv_aload_n hx hb dX0_take_49 rfl (lv_at hl 1 rfl) ?_
      refine q_get (v := .ref (ga Γ 1 0)) hx hb hK hw hown in_X0 ins_X0 (rfl : vwCl[2]? = some (RX0, TX0, 4)) rfl ho 0 (by decide) 200 fl_X0_22 rfl rfl dX0_take_50 ?_
      refine lv_iload_n hx hb dX0_take_53 rfl (lv_at hl 2 rfl) ?_
      refine lv_aload_n hx hb dX0_take_54 rfl (lv_at hl 1 rfl) ?_
      refine q_get (v := .ref (ga Γ 122 o)) hx hb hK hw hown in_X0 ins_X0 (rfl : vwCl[2]? = some (RX0, TX0, 4)) rfl ho 3 (by decide) 203 fl_X0_19 rfl rfl dX0_take_55 ?_
      refine lv_iload hx hb dX0_take_58 (lv_at hl 0 rfl) ?_
      refine q_iald hx hb hK hw (k := 122) (o := o) (fun _ _ _ => rfl) ho hf dX0_take_60 (fun hf => ?_)
      refine q_pI hf hw (fun v h => q_rV (As := [.int x1, .int (gI σ4 122 o (Int32.toNatClampNeg v5))]) (rest := []) (q := (RX1, TX1, 13)) X hK hw rfl (Nat.le_of_ble_eq_true rfl : 0 < cnt (gn Γ) 1) (rfl : vwCl[3]? = _) (kX1_isLater h) mvX1_isLater lk_X0_42 ⟨Nat.le_of_ble_eq_true rfl, Nat.le_of_ble_eq_true rfl⟩ rfl hl.1 rfl (Nat.le_of_ble_eq_true rfl) dX0_take_61 ⟨Nat.le_of_ble_eq_true rfl, Nat.le_of_ble_eq_true rfl⟩) (fun v8 H locs hf hw => ?_)
      refine q_if_eq (tgt := 112) hx hb hf dX0_take_64 (by decide) (fun hf => ?_) (fun hf => ?_)
      · refine q_iinc (lv1 := [(4, .int v5), (0, .ref (ga Γ 3 o)), (1, .int x1), (2, .int v1)]) (d := 1) hx hb hf dX0_take_112 hl (k := 4) rfl (by decide) (by decide) rfl (fun v9 ls hf hl => ?_)
        refine lv_goto (tgt := 18) hx hb dX0_take_115 (by decide) ?_
        exact ih _ _ _ _ _ hf hw (lv_sub hl [2, 3, 4, 0] rfl)
      refine lv_aload_n hx hb dX0_take_67 rfl (lv_at hl 1 rfl) ?_
      refine q_get (v := .ref (ga Γ 120 o)) hx hb hK hw hown in_X0 ins_X0 (rfl : vwCl[2]? = some (RX0, TX0, 4)) rfl ho 1 (by decide) 201 fl_X0_9 rfl rfl dX0_take_68 ?_
      refine lv_iload hx hb dX0_take_71 (lv_at hl 0 rfl) ?_
      refine lv_aload_n hx hb dX0_take_73 rfl (lv_at hl 1 rfl) ?_
      refine q_get (v := .ref (ga Γ 1 0)) hx hb hK hw hown in_X0 ins_X0 (rfl : vwCl[2]? = some (RX0, TX0, 4)) rfl ho 0 (by decide) 200 fl_X0_22 rfl rfl dX0_take_74 ?_
      refine q_get (v := .ref (ga Γ 107 0)) hx hb hK hw hown in_X1 ins_X1 (rfl : vwCl[3]? = some (RX1, TX1, 13)) rfl (Nat.le_of_ble_eq_true rfl : 0 < cnt (gn Γ) 1) 7 (by decide) 108 fl_X0_46 rfl rfl dX0_take_77 ?_
      refine lv_iload_n hx hb dX0_take_80 rfl (lv_at hl 4 rfl) ?_
      refine q_pF hf hw (fun v h => q_rSN (As := [.ref (ga Γ 107 0), .int v3]) (rest := [.int v5, .ref (ga Γ 120 o)]) X hK hw (kX7_floatAt (fun _ _ _ => rfl) (Nat.le_of_ble_eq_true rfl : 0 < cnt (gn Γ) 107) h) msX7_floatAt lk_X0_47 ⟨Nat.le_of_ble_eq_true rfl, Nat.le_of_ble_eq_true rfl⟩ rfl hl.1 rfl (Nat.le_of_ble_eq_true rfl) dX0_take_81 ⟨Nat.le_of_ble_eq_true rfl, Nat.le_of_ble_eq_true rfl⟩) (fun v10 H locs hf hw => ?_)
      refine q_fast hx hb hK hw (k := 120) (o := o) (fun _ _ _ => rfl) ho hf dX0_take_84 (fun σ11 H locs hf hw => ?_)
      refine lv_aload_n hx hb dX0_take_85 rfl (lv_at hl 1 rfl) ?_
      refine q_get (v := .ref (ga Γ 121 o)) hx hb hK hw hown in_X0 ins_X0 (rfl : vwCl[2]? = some (RX0, TX0, 4)) rfl ho 2 (by decide) 202 fl_X0_15 rfl rfl dX0_take_86 ?_
      refine lv_iload hx hb dX0_take_89 (lv_at hl 0 rfl) ?_
      refine lv_aload_n hx hb dX0_take_91 rfl (lv_at hl 1 rfl) ?_
      refine q_get (v := .ref (ga Γ 1 0)) hx hb hK hw hown in_X0 ins_X0 (rfl : vwCl[2]? = some (RX0, TX0, 4)) rfl ho 0 (by decide) 200 fl_X0_22 rfl rfl dX0_take_92 ?_
      refine q_get (v := .ref (ga Γ 108 0)) hx hb hK hw hown in_X1 ins_X1 (rfl : vwCl[3]? = some (RX1, TX1, 13)) rfl (Nat.le_of_ble_eq_true rfl : 0 < cnt (gn Γ) 1) 8 (by decide) 110 fl_X0_51 rfl rfl dX0_take_95 ?_
      refine lv_iload_n hx hb dX0_take_98 rfl (lv_at hl 4 rfl) ?_
      refine lv_iconst (v := (-1)) hx hb dX0_take_99 (by decide) ?_
      refine q_pI hf hw (fun v h => q_rSN (As := [.ref (ga Γ 108 0), .int v3, .int ((-1) : Int32)]) (rest := [.int v5, .ref (ga Γ 121 o)]) X hK hw (kX7_intAt (fun _ _ _ => rfl) (Nat.le_of_ble_eq_true rfl : 0 < cnt (gn Γ) 108) h) msX7_intAt lk_X0_38 ⟨Nat.le_of_ble_eq_true rfl, Nat.le_of_ble_eq_true rfl⟩ rfl hl.1 rfl (Nat.le_of_ble_eq_true rfl) dX0_take_100 ⟨Nat.le_of_ble_eq_true rfl, Nat.le_of_ble_eq_true rfl⟩) (fun v12 H locs hf hw => ?_)
      refine q_iast hx hb hK hw (k := 121) (o := o) (fun _ _ _ => rfl) ho hf dX0_take_103 (fun σ13 H locs hf hw => ?_)
      refine lv_aload_n hx hb dX0_take_104 rfl (lv_at hl 1 rfl) ?_
      refine q_get (v := .ref (ga Γ 122 o)) hx hb hK hw hown in_X0 ins_X0 (rfl : vwCl[2]? = some (RX0, TX0, 4)) rfl ho 3 (by decide) 203 fl_X0_19 rfl rfl dX0_take_105 ?_
      refine lv_iload hx hb dX0_take_108 (lv_at hl 0 rfl) ?_
      refine lv_iload_n hx hb dX0_take_110 rfl (lv_at hl 2 rfl) ?_
      refine q_iast hx hb hK hw (k := 122) (o := o) (fun _ _ _ => rfl) ho hf dX0_take_111 (fun σ14 H locs hf hw => ?_)
      refine q_iinc (lv1 := [(4, .int v5), (0, .ref (ga Γ 3 o)), (1, .int x1), (2, .int v1)]) (d := 1) hx hb hf dX0_take_112 hl (k := 4) rfl (by decide) (by decide) rfl (fun v15 ls hf hl => ?_)
      refine lv_goto (tgt := 18) hx hb dX0_take_115 (by decide) ?_
      exact ih _ _ _ _ _ hf hw (lv_sub hl [2, 3, 4, 0] rfl)
  refine L18 _ (fun _ σ16 H locs ls hf hw hl => ?_) N v2 σ _ _ _ hf hw (lv_sub hl [2, 3, 1, 0] rfl)
  exact q_vret hx hb hr hk hw dX0_take_118 hf (Nat.le_of_ble_eq_true rfl) (Nat.le_of_ble_eq_true rfl)
set_option maxRecDepth 100000 in
theorem kX5_learn {Γ : Gm} {S : List (String × Nat × String)} {l : Launch} {N : Nat} {σ τ : St} {o : Nat} {x1 : Int32} (ho : o < 3) (hf : fX5_learn N σ o x1 = some τ) : CT Γ S l yX5_learn cX5_learn 2 none 2 60 0 0 [.ref (ga Γ 4 o), .int x1] none σ τ := by
  unfold fX5_learn at hf
  refine ct_body (lv := [(0, .ref (ga Γ 4 o)), (1, .int x1)]) (by decide +kernel) rfl (Nat.le_of_ble_eq_true rfl) ?_
  intro p e s m below meth c ls X hr hk hK hw hl
  have hx := X.1
  have hb := X.2.1
  have hown := X.2.2.2
  refine lv_iload_n hx hb dX5_learn_0 rfl (lv_at hl 1 rfl) ?_
  refine q_if_lt (tgt := 11) hx hb hf dX5_learn_1 (by decide) (fun hf => ?_) (fun hf => ?_)
  · exact q_vret hx hb hr hk hw dX5_learn_11 hf (Nat.le_of_ble_eq_true rfl) (Nat.le_of_ble_eq_true rfl)
  refine lv_iload_n hx hb dX5_learn_4 rfl (lv_at hl 1 rfl) ?_
  refine lv_sipush (v := 250) hx hb dX5_learn_5 (by decide) ?_
  refine q_ic_lt (tgt := 12) hx hb hf dX5_learn_8 (by decide) (fun hf => ?_) (fun hf => ?_)
  · refine lv_aload_n hx hb dX5_learn_12 rfl (lv_at hl 0 rfl) ?_
    refine q_get (v := .ref (ga Γ 123 o)) hx hb hK hw hown in_X5 ins_X5 (rfl : vwCl[7]? = some (RX5, TX5, 8)) rfl ho 4 (by decide) 302 fl_X5_9 rfl rfl dX5_learn_13 ?_
    refine lv_iload_n hx hb dX5_learn_16 rfl (lv_at hl 1 rfl) ?_
    refine lv_iconst (v := 1) hx hb dX5_learn_17 (by decide) ?_
    refine q_zast hx hb hK hw (k := 123) (o := o) (fun _ _ _ => rfl) ho hf dX5_learn_18 (fun σ1 H locs hf hw => ?_)
    refine lv_aload_n hx hb dX5_learn_19 rfl (lv_at hl 0 rfl) ?_
    refine lv_dup hx hb dX5_learn_20 rfl ?_
    refine q_get (v := .int (gI σ1 4 o 5)) hx hb hK hw hown in_X5 ins_X5 (rfl : vwCl[7]? = some (RX5, TX5, 8)) rfl ho 5 (by decide) 303 fl_X5_48 rfl rfl dX5_learn_21 ?_
    refine lv_iconst (v := 1) hx hb dX5_learn_24 (by decide) ?_
    refine lv_iadd hx hb dX5_learn_25 ?_
    refine q_puti (v := ((gI σ1 4 o 5) + (1 : Int32))) hx hb hK hw hown in_X5 ins_X5 tyX5 tyX5_ok nmX5 (rfl : vwCl[7]? = some (RX5, TX5, 8)) (fun _ _ _ => rfl) ho 5 (by decide) 303 fl_X5_48 rfl rfl rfl (fun _ _ _ => Nat.le_of_ble_eq_true rfl) (fun _ _ _ => rfl) hf dX5_learn_26 (fun σ2 H locs hf hw => ?_)
    refine lv_aload_n hx hb dX5_learn_29 rfl (lv_at hl 0 rfl) ?_
    refine lv_aload_n hx hb dX5_learn_30 rfl (lv_at hl 0 rfl) ?_
    refine q_get (v := .int (gI σ2 4 o 6)) hx hb hK hw hown in_X5 ins_X5 (rfl : vwCl[7]? = some (RX5, TX5, 8)) rfl ho 6 (by decide) 305 fl_X5_51 rfl rfl dX5_learn_31 ?_
    refine lv_aload_n hx hb dX5_learn_34 rfl (lv_at hl 0 rfl) ?_
    refine q_get (v := .ref (ga Γ 1 0)) hx hb hK hw hown in_X5 ins_X5 (rfl : vwCl[7]? = some (RX5, TX5, 8)) rfl ho 1 (by decide) 297 fl_X5_22 rfl rfl dX5_learn_35 ?_
    refine lv_iload_n hx hb dX5_learn_38 rfl (lv_at hl 1 rfl) ?_
    refine q_pI hf hw (fun v h => q_rV (As := [.int x1]) (rest := [.int (gI σ2 4 o 6), .ref (ga Γ 4 o)]) (q := (RX1, TX1, 13)) X hK hw rfl (Nat.le_of_ble_eq_true rfl : 0 < cnt (gn Γ) 1) (rfl : vwCl[3]? = _) (kX1_clockAt h) mvX1_clockAt lk_X5_54 ⟨Nat.le_of_ble_eq_true rfl, Nat.le_of_ble_eq_true rfl⟩ rfl hl.1 rfl (Nat.le_of_ble_eq_true rfl) dX5_learn_39 ⟨Nat.le_of_ble_eq_true rfl, Nat.le_of_ble_eq_true rfl⟩) (fun v3 H locs hf hw => ?_)
    refine q_mmax X hK hl.1 lk_X5_60 jm_max ⟨Nat.le_of_ble_eq_true rfl, Nat.le_of_ble_eq_true rfl⟩ ⟨Nat.le_of_ble_eq_true rfl, Nat.le_of_ble_eq_true rfl⟩ dX5_learn_42 ?_
    refine q_puti (v := (if (gI σ2 4 o 6) < v3 then v3 else (gI σ2 4 o 6))) hx hb hK hw hown in_X5 ins_X5 tyX5 tyX5_ok nmX5 (rfl : vwCl[7]? = some (RX5, TX5, 8)) (fun _ _ _ => rfl) ho 6 (by decide) 305 fl_X5_51 rfl rfl rfl (fun _ _ _ => Nat.le_of_ble_eq_true rfl) (fun _ _ _ => rfl) hf dX5_learn_45 (fun σ4 H locs hf hw => ?_)
    refine lv_aload_n hx hb dX5_learn_48 rfl (lv_at hl 0 rfl) ?_
    refine q_get (v := .ref (ga Γ 3 o)) hx hb hK hw hown in_X5 ins_X5 (rfl : vwCl[7]? = some (RX5, TX5, 8)) rfl ho 2 (by decide) 298 fl_X5_31 rfl rfl dX5_learn_49 ?_
    refine lv_iload_n hx hb dX5_learn_52 rfl (lv_at hl 1 rfl) ?_
    refine q_eV hf hw (fun τ h => q_rV (As := [.int x1]) (rest := []) (q := (RX0, TX0, 4)) X hK hw rfl (Nat.lt_of_lt_of_le ho (Nat.le_of_ble_eq_true rfl : 3 ≤ cnt (gn Γ) 3)) (rfl : vwCl[2]? = _) (kX0_take (Nat.lt_of_lt_of_le ho (Nat.le_of_ble_eq_true rfl : 3 ≤ cnt (gn Γ) 3)) h) mvX0_take lk_X5_66 ⟨Nat.le_of_ble_eq_true rfl, Nat.le_of_ble_eq_true rfl⟩ rfl hl.1 rfl (Nat.le_of_ble_eq_true rfl) dX5_learn_53 ⟨Nat.le_of_ble_eq_true rfl, Nat.le_of_ble_eq_true rfl⟩) (fun σ5 H locs hf hw => ?_)
    exact q_vret hx hb hr hk hw dX5_learn_56 hf (Nat.le_of_ble_eq_true rfl) (Nat.le_of_ble_eq_true rfl)
  exact q_vret hx hb hr hk hw dX5_learn_11 hf (Nat.le_of_ble_eq_true rfl) (Nat.le_of_ble_eq_true rfl)
set_option maxRecDepth 100000 in
theorem kX5_end {Γ : Gm} {S : List (String × Nat × String)} {l : Launch} {N : Nat} {σ τ : St} {o : Nat} (ho : o < 3) (hf : fX5_end N σ o = some τ) : CT Γ S l yX5_end cX5_end 1 none 3 81 0 0 [.ref (ga Γ 4 o)] none σ τ := by
  unfold fX5_end at hf
  refine ct_body (lv := [(0, .ref (ga Γ 4 o))]) (by decide +kernel) rfl (Nat.le_of_ble_eq_true rfl) ?_
  intro p e s m below meth c ls X hr hk hK hw hl
  have hx := X.1
  have hb := X.2.1
  have hown := X.2.2.2
  refine lv_aload_n hx hb dX5_end_0 rfl (lv_at hl 0 rfl) ?_
  refine lv_aload_n hx hb dX5_end_1 rfl (lv_at hl 0 rfl) ?_
  refine q_get (v := .int (gI σ 4 o 7)) hx hb hK hw hown in_X5 ins_X5 (rfl : vwCl[7]? = some (RX5, TX5, 8)) rfl ho 7 (by decide) 306 fl_X5_15 rfl rfl dX5_end_2 ?_
  refine q_eV hf hw (fun τ h => q_rV (As := [.int (gI σ 4 o 7)]) (rest := []) (q := (RX5, TX5, 8)) X hK hw rfl ho (rfl : vwCl[7]? = _) (kX5_learn ho h) mvX5_learn lk_X5_89 ⟨Nat.le_of_ble_eq_true rfl, Nat.le_of_ble_eq_true rfl⟩ rfl hl.1 rfl (Nat.le_of_ble_eq_true rfl) dX5_end_5 ⟨Nat.le_of_ble_eq_true rfl, Nat.le_of_ble_eq_true rfl⟩) (fun σ1 H locs hf hw => ?_)
  exact q_vret hx hb hr hk hw dX5_end_8 hf (Nat.le_of_ble_eq_true rfl) (Nat.le_of_ble_eq_true rfl)
set_option maxRecDepth 100000 in
theorem kX2_widthAt {Γ : Gm} {S : List (String × Nat × String)} {l : Launch} {N : Nat} {σ : St} {x1 : Int32} {r : Int32}  (hf : fX2_widthAt N σ x1 = some r) : CT Γ S l yX2_widthAt cX2_widthAt 2 (some (.int)) 1 22 0 0 [.ref (ga Γ 2 0), .int x1] (some (.int r)) σ σ := by
  unfold fX2_widthAt at hf
  refine ct_body (lv := [(0, .ref (ga Γ 2 0)), (1, .int x1)]) (by decide +kernel) rfl (Nat.le_of_ble_eq_true rfl) ?_
  intro p e s m below meth c ls X hr hk hK hw hl
  have hx := X.1
  have hb := X.2.1
  have hown := X.2.2.2
  refine lv_aload_n hx hb dX2_widthAt_0 rfl (lv_at hl 0 rfl) ?_
  refine q_get (v := .ref (ga Γ 111 0)) hx hb hK hw hown in_X2 ins_X2 (rfl : vwCl[4]? = some (RX2, TX2, 9)) rfl (Nat.le_of_ble_eq_true rfl : 0 < cnt (gn Γ) 2) 0 (by decide) 155 fl_X2_9 rfl rfl dX2_widthAt_1 ?_
  refine lv_iload_n hx hb dX2_widthAt_4 rfl (lv_at hl 1 rfl) ?_
  refine lv_iconst (v := 1) hx hb dX2_widthAt_5 (by decide) ?_
  refine q_pI hf hw (fun v h => q_rSN (As := [.ref (ga Γ 111 0), .int x1, .int (1 : Int32)]) (rest := []) X hK hw (kX7_intAt (fun _ _ _ => rfl) (Nat.le_of_ble_eq_true rfl : 0 < cnt (gn Γ) 111) h) msX7_intAt lk_X2_42 ⟨Nat.le_of_ble_eq_true rfl, Nat.le_of_ble_eq_true rfl⟩ rfl hl.1 rfl (Nat.le_of_ble_eq_true rfl) dX2_widthAt_6 ⟨Nat.le_of_ble_eq_true rfl, Nat.le_of_ble_eq_true rfl⟩) (fun v1 H locs hf hw => ?_)
  exact q_iret hf hx hb hr rfl hk hw dX2_widthAt_9 (Nat.le_of_ble_eq_true rfl) (Nat.le_of_ble_eq_true rfl)
set_option maxRecDepth 100000 in
theorem kX2_heightAt {Γ : Gm} {S : List (String × Nat × String)} {l : Launch} {N : Nat} {σ : St} {x1 : Int32} {r : Int32}  (hf : fX2_heightAt N σ x1 = some r) : CT Γ S l yX2_heightAt cX2_heightAt 2 (some (.int)) 1 22 0 0 [.ref (ga Γ 2 0), .int x1] (some (.int r)) σ σ := by
  unfold fX2_heightAt at hf
  refine ct_body (lv := [(0, .ref (ga Γ 2 0)), (1, .int x1)]) (by decide +kernel) rfl (Nat.le_of_ble_eq_true rfl) ?_
  intro p e s m below meth c ls X hr hk hK hw hl
  have hx := X.1
  have hb := X.2.1
  have hown := X.2.2.2
  refine lv_aload_n hx hb dX2_heightAt_0 rfl (lv_at hl 0 rfl) ?_
  refine q_get (v := .ref (ga Γ 112 0)) hx hb hK hw hown in_X2 ins_X2 (rfl : vwCl[4]? = some (RX2, TX2, 9)) rfl (Nat.le_of_ble_eq_true rfl : 0 < cnt (gn Γ) 2) 1 (by decide) 156 fl_X2_15 rfl rfl dX2_heightAt_1 ?_
  refine lv_iload_n hx hb dX2_heightAt_4 rfl (lv_at hl 1 rfl) ?_
  refine lv_iconst (v := 1) hx hb dX2_heightAt_5 (by decide) ?_
  refine q_pI hf hw (fun v h => q_rSN (As := [.ref (ga Γ 112 0), .int x1, .int (1 : Int32)]) (rest := []) X hK hw (kX7_intAt (fun _ _ _ => rfl) (Nat.le_of_ble_eq_true rfl : 0 < cnt (gn Γ) 112) h) msX7_intAt lk_X2_42 ⟨Nat.le_of_ble_eq_true rfl, Nat.le_of_ble_eq_true rfl⟩ rfl hl.1 rfl (Nat.le_of_ble_eq_true rfl) dX2_heightAt_6 ⟨Nat.le_of_ble_eq_true rfl, Nat.le_of_ble_eq_true rfl⟩) (fun v1 H locs hf hw => ?_)
  exact q_iret hf hx hb hr rfl hk hw dX2_heightAt_9 (Nat.le_of_ble_eq_true rfl) (Nat.le_of_ble_eq_true rfl)
set_option maxRecDepth 100000 in
theorem kX6_lockerAt {Γ : Gm} {S : List (String × Nat × String)} {l : Launch} {N : Nat} {σ : St} {o : Nat} {x1 : Int32} {r : Int32} (ho : o < 4) (hf : fX6_lockerAt N σ o x1 = some r) : CT Γ S l yX6_lockerAt cX6_lockerAt 2 (some (.int)) 1 21 0 0 [.ref (ga Γ 7 o), .int x1] (some (.int r)) σ σ := by
  unfold fX6_lockerAt at hf
  refine ct_body (lv := [(0, .ref (ga Γ 7 o)), (1, .int x1)]) (by decide +kernel) rfl (Nat.le_of_ble_eq_true rfl) ?_
  intro p e s m below meth c ls X hr hk hK hw hl
  have hx := X.1
  have hb := X.2.1
  have hown := X.2.2.2
  refine lv_aload_n hx hb dX6_lockerAt_0 rfl (lv_at hl 0 rfl) ?_
  refine q_get (v := .ref (ga Γ 3 o)) hx hb hK hw hown in_X6 ins_X6 (rfl : vwCl[8]? = some (RX6, TX6, 2)) rfl ho 0 (by decide) 219 fl_X6_9 rfl rfl dX6_lockerAt_1 ?_
  refine lv_bipush (v := 36) hx hb dX6_lockerAt_4 (by decide) ?_
  refine lv_iload_n hx hb dX6_lockerAt_6 rfl (lv_at hl 1 rfl) ?_
  refine lv_iadd hx hb dX6_lockerAt_7 ?_
  refine q_pF hf hw (fun v h => q_rV (As := [.int ((36 : Int32) + x1)]) (rest := []) (q := (RX0, TX0, 4)) X hK hw rfl (Nat.lt_of_lt_of_le ho (Nat.le_of_ble_eq_true rfl : 4 ≤ cnt (gn Γ) 3)) (rfl : vwCl[2]? = _) (kX0_valueAt (Nat.lt_of_lt_of_le ho (Nat.le_of_ble_eq_true rfl : 4 ≤ cnt (gn Γ) 3)) h) mvX0_valueAt lk_X6_25 ⟨Nat.le_of_ble_eq_true rfl, Nat.le_of_ble_eq_true rfl⟩ rfl hl.1 rfl (Nat.le_of_ble_eq_true rfl) dX6_lockerAt_8 ⟨Nat.le_of_ble_eq_true rfl, Nat.le_of_ble_eq_true rfl⟩) (fun v1 H locs hf hw => ?_)
  refine lv_f2i hx hb dX6_lockerAt_11 ?_
  refine lv_iconst (v := 1) hx hb dX6_lockerAt_12 (by decide) ?_
  refine lv_isub hx hb dX6_lockerAt_13 ?_
  exact q_iret hf hx hb hr rfl hk hw dX6_lockerAt_14 (Nat.le_of_ble_eq_true rfl) (Nat.le_of_ble_eq_true rfl)
set_option maxRecDepth 100000 in
theorem kX6_isLockedByOther {Γ : Gm} {S : List (String × Nat × String)} {l : Launch} {N : Nat} {σ : St} {o : Nat} {x1 : Int32} {x2 : Int32} {r : Int32} (ho : o < 4) (hf : fX6_isLockedByOther N σ o x1 x2 = some r) : CT Γ S l yX6_isLockedByOther cX6_isLockedByOther 4 (some (.boolean)) 2 42 0 0 [.ref (ga Γ 7 o), .int x1, .int x2] (some (.int r)) σ σ := by
  unfold fX6_isLockedByOther at hf
  refine ct_body (lv := [(0, .ref (ga Γ 7 o)), (1, .int x1), (2, .int x2)]) (by decide +kernel) rfl (Nat.le_of_ble_eq_true rfl) ?_
  intro p e s m below meth c ls X hr hk hK hw hl
  have hx := X.1
  have hb := X.2.1
  have hown := X.2.2.2
  refine lv_aload_n hx hb dX6_isLockedByOther_0 rfl (lv_at hl 0 rfl) ?_
  refine lv_iload_n hx hb dX6_isLockedByOther_1 rfl (lv_at hl 2 rfl) ?_
  refine q_pI hf hw (fun v h => q_rV (As := [.int x2]) (rest := []) (q := (RX6, TX6, 2)) X hK hw rfl ho (rfl : vwCl[8]? = _) (kX6_lockerAt ho h) mvX6_lockerAt lk_X6_77 ⟨Nat.le_of_ble_eq_true rfl, Nat.le_of_ble_eq_true rfl⟩ rfl hl.1 rfl (Nat.le_of_ble_eq_true rfl) dX6_isLockedByOther_2 ⟨Nat.le_of_ble_eq_true rfl, Nat.le_of_ble_eq_true rfl⟩) (fun v1 H locs hf hw => ?_)
  refine lv_istore_n (lv' := [(3, .int v1), (0, .ref (ga Γ 7 o)), (1, .int x1), (2, .int x2)]) hx hb dX6_isLockedByOther_5 rfl hl (by decide) rfl (fun ls hl => ?_)
  refine lv_iload_n hx hb dX6_isLockedByOther_6 rfl (lv_at hl 0 rfl) ?_
  refine lv_iconst (v := (-1)) hx hb dX6_isLockedByOther_7 (by decide) ?_
  refine q_ic_eq (tgt := 20) hx hb hf dX6_isLockedByOther_8 (by decide) (fun hf => ?_) (fun hf => ?_)
  · refine lv_iconst (v := 0) hx hb dX6_isLockedByOther_20 (by decide) ?_
    exact q_iret hf hx hb hr rfl hk hw dX6_isLockedByOther_21 (Nat.le_of_ble_eq_true rfl) (Nat.le_of_ble_eq_true rfl)
  refine lv_iload_n hx hb dX6_isLockedByOther_11 rfl (lv_at hl 0 rfl) ?_
  refine lv_iload_n hx hb dX6_isLockedByOther_12 rfl (lv_at hl 2 rfl) ?_
  refine q_ic_eq (tgt := 20) hx hb hf dX6_isLockedByOther_13 (by decide) (fun hf => ?_) (fun hf => ?_)
  · refine lv_iconst (v := 0) hx hb dX6_isLockedByOther_20 (by decide) ?_
    exact q_iret hf hx hb hr rfl hk hw dX6_isLockedByOther_21 (Nat.le_of_ble_eq_true rfl) (Nat.le_of_ble_eq_true rfl)
  refine lv_iconst (v := 1) hx hb dX6_isLockedByOther_16 (by decide) ?_
  refine lv_goto (tgt := 21) hx hb dX6_isLockedByOther_17 (by decide) ?_
  exact q_iret hf hx hb hr rfl hk hw dX6_isLockedByOther_21 (Nat.le_of_ble_eq_true rfl) (Nat.le_of_ble_eq_true rfl)
set_option maxRecDepth 100000 in
theorem kX6_cellUnder {Γ : Gm} {S : List (String × Nat × String)} {l : Launch} {N : Nat} {σ : St} {o : Nat} {x1 : Int32} {r : Int32} (ho : o < 4) (hf : fX6_cellUnder N σ o x1 = some r) : CT Γ S l yX6_cellUnder cX6_cellUnder 2 (some (.int)) 1 21 0 0 [.ref (ga Γ 7 o), .int x1] (some (.int r)) σ σ := by
  unfold fX6_cellUnder at hf
  refine ct_body (lv := [(0, .ref (ga Γ 7 o)), (1, .int x1)]) (by decide +kernel) rfl (Nat.le_of_ble_eq_true rfl) ?_
  intro p e s m below meth c ls X hr hk hK hw hl
  have hx := X.1
  have hb := X.2.1
  have hown := X.2.2.2
  refine lv_aload_n hx hb dX6_cellUnder_0 rfl (lv_at hl 0 rfl) ?_
  refine q_get (v := .ref (ga Γ 3 o)) hx hb hK hw hown in_X6 ins_X6 (rfl : vwCl[8]? = some (RX6, TX6, 2)) rfl ho 0 (by decide) 219 fl_X6_9 rfl rfl dX6_cellUnder_1 ?_
  refine lv_bipush (v := 12) hx hb dX6_cellUnder_4 (by decide) ?_
  refine lv_iload_n hx hb dX6_cellUnder_6 rfl (lv_at hl 1 rfl) ?_
  refine lv_iadd hx hb dX6_cellUnder_7 ?_
  refine q_pF hf hw (fun v h => q_rV (As := [.int ((12 : Int32) + x1)]) (rest := []) (q := (RX0, TX0, 4)) X hK hw rfl (Nat.lt_of_lt_of_le ho (Nat.le_of_ble_eq_true rfl : 4 ≤ cnt (gn Γ) 3)) (rfl : vwCl[2]? = _) (kX0_valueAt (Nat.lt_of_lt_of_le ho (Nat.le_of_ble_eq_true rfl : 4 ≤ cnt (gn Γ) 3)) h) mvX0_valueAt lk_X6_25 ⟨Nat.le_of_ble_eq_true rfl, Nat.le_of_ble_eq_true rfl⟩ rfl hl.1 rfl (Nat.le_of_ble_eq_true rfl) dX6_cellUnder_8 ⟨Nat.le_of_ble_eq_true rfl, Nat.le_of_ble_eq_true rfl⟩) (fun v1 H locs hf hw => ?_)
  refine lv_f2i hx hb dX6_cellUnder_11 ?_
  exact q_iret hf hx hb hr rfl hk hw dX6_cellUnder_12 (Nat.le_of_ble_eq_true rfl) (Nat.le_of_ble_eq_true rfl)
set_option maxRecDepth 100000 in
theorem kX7_isAt {Γ : Gm} {S : List (String × Nat × String)} {l : Launch} {N : Nat} {σ : St} {k1 : Nat} {o1 : Nat} {n_k1 : Nat} {x2 : Int32} {r : Int32} (hc_k1 : ∀ f g ρ, cell1 Γ k1 o1 f g ρ = aZ Γ n_k1 f) (ho_k1 : o1 < cnt (gn Γ) k1) (hf : fX7_isAt N σ k1 o1 n_k1 x2 = some r) : CT Γ S l yX7_isAt cX7_isAt 2 (some (.boolean)) 0 0 0 0 [.ref (ga Γ k1 o1), .int x2] (some (.int r)) σ σ := by
  unfold fX7_isAt at hf
  refine ct_body (lv := [(0, .ref (ga Γ k1 o1)), (1, .int x2)]) (by decide +kernel) rfl (Nat.le_of_ble_eq_true rfl) ?_
  intro p e s m below meth c ls X hr hk hK hw hl
  have hx := X.1
  have hb := X.2.1
  have hown := X.2.2.2
  refine lv_iload_n hx hb dX7_isAt_0 rfl (lv_at hl 1 rfl) ?_
  refine q_if_lt (tgt := 20) hx hb hf dX7_isAt_1 (by decide) (fun hf => ?_) (fun hf => ?_)
  · refine lv_iconst (v := 0) hx hb dX7_isAt_20 (by decide) ?_
    exact q_iret hf hx hb hr rfl hk hw dX7_isAt_21 (Nat.le_of_ble_eq_true rfl) (Nat.le_of_ble_eq_true rfl)
  refine lv_iload_n hx hb dX7_isAt_4 rfl (lv_at hl 1 rfl) ?_
  refine lv_aload_n hx hb dX7_isAt_5 rfl (lv_at hl 0 rfl) ?_
  refine q_alenZ (v := (Int32.ofNat n_k1)) hx hb hK hw (k := k1) (o := o1) hc_k1 ho_k1 rfl dX7_isAt_6 ?_
  refine q_ic_ge (tgt := 20) hx hb hf dX7_isAt_7 (by decide) (fun hf => ?_) (fun hf => ?_)
  · refine lv_iconst (v := 0) hx hb dX7_isAt_20 (by decide) ?_
    exact q_iret hf hx hb hr rfl hk hw dX7_isAt_21 (Nat.le_of_ble_eq_true rfl) (Nat.le_of_ble_eq_true rfl)
  refine lv_aload_n hx hb dX7_isAt_10 rfl (lv_at hl 0 rfl) ?_
  refine lv_iload_n hx hb dX7_isAt_11 rfl (lv_at hl 1 rfl) ?_
  refine q_zald hx hb hK hw (k := k1) (o := o1) hc_k1 ho_k1 hf dX7_isAt_12 (fun hf => ?_)
  refine q_if_eq (tgt := 20) hx hb hf dX7_isAt_13 (by decide) (fun hf => ?_) (fun hf => ?_)
  · refine lv_iconst (v := 0) hx hb dX7_isAt_20 (by decide) ?_
    exact q_iret hf hx hb hr rfl hk hw dX7_isAt_21 (Nat.le_of_ble_eq_true rfl) (Nat.le_of_ble_eq_true rfl)
  refine lv_iconst (v := 1) hx hb dX7_isAt_16 (by decide) ?_
  refine lv_goto (tgt := 21) hx hb dX7_isAt_17 (by decide) ?_
  exact q_iret hf hx hb hr rfl hk hw dX7_isAt_21 (Nat.le_of_ble_eq_true rfl) (Nat.le_of_ble_eq_true rfl)
set_option maxRecDepth 100000 in
theorem kX2_isFrameAt {Γ : Gm} {S : List (String × Nat × String)} {l : Launch} {N : Nat} {σ : St} {x1 : Int32} {r : Int32}  (hf : fX2_isFrameAt N σ x1 = some r) : CT Γ S l yX2_isFrameAt cX2_isFrameAt 2 (some (.boolean)) 1 21 0 0 [.ref (ga Γ 2 0), .int x1] (some (.int r)) σ σ := by
  unfold fX2_isFrameAt at hf
  refine ct_body (lv := [(0, .ref (ga Γ 2 0)), (1, .int x1)]) (by decide +kernel) rfl (Nat.le_of_ble_eq_true rfl) ?_
  intro p e s m below meth c ls X hr hk hK hw hl
  have hx := X.1
  have hb := X.2.1
  have hown := X.2.2.2
  refine lv_aload_n hx hb dX2_isFrameAt_0 rfl (lv_at hl 0 rfl) ?_
  refine q_get (v := .ref (ga Γ 113 0)) hx hb hK hw hown in_X2 ins_X2 (rfl : vwCl[4]? = some (RX2, TX2, 9)) rfl (Nat.le_of_ble_eq_true rfl : 0 < cnt (gn Γ) 2) 2 (by decide) 157 fl_X2_18 rfl rfl dX2_isFrameAt_1 ?_
  refine lv_iload_n hx hb dX2_isFrameAt_4 rfl (lv_at hl 1 rfl) ?_
  refine q_pI hf hw (fun v h => q_rSN (As := [.ref (ga Γ 113 0), .int x1]) (rest := []) X hK hw (kX7_isAt (fun _ _ _ => rfl) (Nat.le_of_ble_eq_true rfl : 0 < cnt (gn Γ) 113) h) msX7_isAt lk_X2_46 ⟨Nat.le_of_ble_eq_true rfl, Nat.le_of_ble_eq_true rfl⟩ rfl hl.1 rfl (Nat.le_of_ble_eq_true rfl) dX2_isFrameAt_5 ⟨Nat.le_of_ble_eq_true rfl, Nat.le_of_ble_eq_true rfl⟩) (fun v1 H locs hf hw => ?_)
  exact q_nret hf hx hb hr vn_Z hk hw dX2_isFrameAt_8 (Nat.le_of_ble_eq_true rfl) (Nat.le_of_ble_eq_true rfl)
set_option maxRecDepth 100000 in
theorem kX6_columnAt {Γ : Gm} {S : List (String × Nat × String)} {l : Launch} {N : Nat} {σ : St} {o : Nat} {x1 : Int32} {r : Int32} (ho : o < 4) (hf : fX6_columnAt N σ o x1 = some r) : CT Γ S l yX6_columnAt cX6_columnAt 2 (some (.int)) 1 21 0 0 [.ref (ga Γ 7 o), .int x1] (some (.int r)) σ σ := by
  unfold fX6_columnAt at hf
  refine ct_body (lv := [(0, .ref (ga Γ 7 o)), (1, .int x1)]) (by decide +kernel) rfl (Nat.le_of_ble_eq_true rfl) ?_
  intro p e s m below meth c ls X hr hk hK hw hl
  have hx := X.1
  have hb := X.2.1
  have hown := X.2.2.2
  refine lv_aload_n hx hb dX6_columnAt_0 rfl (lv_at hl 0 rfl) ?_
  refine q_get (v := .ref (ga Γ 3 o)) hx hb hK hw hown in_X6 ins_X6 (rfl : vwCl[8]? = some (RX6, TX6, 2)) rfl ho 0 (by decide) 219 fl_X6_9 rfl rfl dX6_columnAt_1 ?_
  refine lv_bipush (v := 12) hx hb dX6_columnAt_4 (by decide) ?_
  refine lv_iload_n hx hb dX6_columnAt_6 rfl (lv_at hl 1 rfl) ?_
  refine lv_iadd hx hb dX6_columnAt_7 ?_
  refine q_pF hf hw (fun v h => q_rV (As := [.int ((12 : Int32) + x1)]) (rest := []) (q := (RX0, TX0, 4)) X hK hw rfl (Nat.lt_of_lt_of_le ho (Nat.le_of_ble_eq_true rfl : 4 ≤ cnt (gn Γ) 3)) (rfl : vwCl[2]? = _) (kX0_valueAt (Nat.lt_of_lt_of_le ho (Nat.le_of_ble_eq_true rfl : 4 ≤ cnt (gn Γ) 3)) h) mvX0_valueAt lk_X6_25 ⟨Nat.le_of_ble_eq_true rfl, Nat.le_of_ble_eq_true rfl⟩ rfl hl.1 rfl (Nat.le_of_ble_eq_true rfl) dX6_columnAt_8 ⟨Nat.le_of_ble_eq_true rfl, Nat.le_of_ble_eq_true rfl⟩) (fun v1 H locs hf hw => ?_)
  refine lv_f2i hx hb dX6_columnAt_11 ?_
  refine lv_bipush (v := 24) hx hb dX6_columnAt_12 (by decide) ?_
  refine lv_irem hx hb dX6_columnAt_14 (by decide) ?_
  exact q_iret hf hx hb hr rfl hk hw dX6_columnAt_15 (Nat.le_of_ble_eq_true rfl) (Nat.le_of_ble_eq_true rfl)
set_option maxRecDepth 100000 in
theorem kX6_rowAt {Γ : Gm} {S : List (String × Nat × String)} {l : Launch} {N : Nat} {σ : St} {o : Nat} {x1 : Int32} {r : Int32} (ho : o < 4) (hf : fX6_rowAt N σ o x1 = some r) : CT Γ S l yX6_rowAt cX6_rowAt 2 (some (.int)) 1 21 0 0 [.ref (ga Γ 7 o), .int x1] (some (.int r)) σ σ := by
  unfold fX6_rowAt at hf
  refine ct_body (lv := [(0, .ref (ga Γ 7 o)), (1, .int x1)]) (by decide +kernel) rfl (Nat.le_of_ble_eq_true rfl) ?_
  intro p e s m below meth c ls X hr hk hK hw hl
  have hx := X.1
  have hb := X.2.1
  have hown := X.2.2.2
  refine lv_aload_n hx hb dX6_rowAt_0 rfl (lv_at hl 0 rfl) ?_
  refine q_get (v := .ref (ga Γ 3 o)) hx hb hK hw hown in_X6 ins_X6 (rfl : vwCl[8]? = some (RX6, TX6, 2)) rfl ho 0 (by decide) 219 fl_X6_9 rfl rfl dX6_rowAt_1 ?_
  refine lv_bipush (v := 12) hx hb dX6_rowAt_4 (by decide) ?_
  refine lv_iload_n hx hb dX6_rowAt_6 rfl (lv_at hl 1 rfl) ?_
  refine lv_iadd hx hb dX6_rowAt_7 ?_
  refine q_pF hf hw (fun v h => q_rV (As := [.int ((12 : Int32) + x1)]) (rest := []) (q := (RX0, TX0, 4)) X hK hw rfl (Nat.lt_of_lt_of_le ho (Nat.le_of_ble_eq_true rfl : 4 ≤ cnt (gn Γ) 3)) (rfl : vwCl[2]? = _) (kX0_valueAt (Nat.lt_of_lt_of_le ho (Nat.le_of_ble_eq_true rfl : 4 ≤ cnt (gn Γ) 3)) h) mvX0_valueAt lk_X6_25 ⟨Nat.le_of_ble_eq_true rfl, Nat.le_of_ble_eq_true rfl⟩ rfl hl.1 rfl (Nat.le_of_ble_eq_true rfl) dX6_rowAt_8 ⟨Nat.le_of_ble_eq_true rfl, Nat.le_of_ble_eq_true rfl⟩) (fun v1 H locs hf hw => ?_)
  refine lv_f2i hx hb dX6_rowAt_11 ?_
  refine lv_bipush (v := 24) hx hb dX6_rowAt_12 (by decide) ?_
  refine lv_idiv hx hb dX6_rowAt_14 (by decide) ?_
  exact q_iret hf hx hb hr rfl hk hw dX6_rowAt_15 (Nat.le_of_ble_eq_true rfl) (Nat.le_of_ble_eq_true rfl)
set_option maxRecDepth 100000 in
theorem kX6_isOver {Γ : Gm} {S : List (String × Nat × String)} {l : Launch} {N : Nat} {σ : St} {o : Nat} {x1 : Int32} {x2 : Int32} {x3 : Int32} {r : Int32} (ho : o < 4) (hf : fX6_isOver N σ o x1 x2 x3 = some r) : CT Γ S l yX6_isOver cX6_isOver 6 (some (.boolean)) 2 43 0 0 [.ref (ga Γ 7 o), .int x1, .int x2, .int x3] (some (.int r)) σ σ := by
  unfold fX6_isOver at hf
  refine ct_body (lv := [(0, .ref (ga Γ 7 o)), (1, .int x1), (2, .int x2), (3, .int x3)]) (by decide +kernel) rfl (Nat.le_of_ble_eq_true rfl) ?_
  intro p e s m below meth c ls X hr hk hK hw hl
  have hx := X.1
  have hb := X.2.1
  have hown := X.2.2.2
  refine lv_iload_n hx hb dX6_isOver_0 rfl (lv_at hl 2 rfl) ?_
  refine lv_aload_n hx hb dX6_isOver_1 rfl (lv_at hl 0 rfl) ?_
  refine lv_iload_n hx hb dX6_isOver_2 rfl (lv_at hl 1 rfl) ?_
  refine q_pI hf hw (fun v h => q_rV (As := [.int x1]) (rest := [.int x2]) (q := (RX6, TX6, 2)) X hK hw rfl ho (rfl : vwCl[8]? = _) (kX6_columnAt ho h) mvX6_columnAt lk_X6_61 ⟨Nat.le_of_ble_eq_true rfl, Nat.le_of_ble_eq_true rfl⟩ rfl hl.1 rfl (Nat.le_of_ble_eq_true rfl) dX6_isOver_3 ⟨Nat.le_of_ble_eq_true rfl, Nat.le_of_ble_eq_true rfl⟩) (fun v1 H locs hf hw => ?_)
  refine lv_isub hx hb dX6_isOver_6 ?_
  refine q_istore (lv1 := [(0, .ref (ga Γ 7 o)), (1, .int x1), (2, .int x2), (3, .int x3)]) hx hb hf dX6_isOver_7 hl (by decide) rfl (fun v2 ls hf hl => ?_)
  refine lv_iload_n hx hb dX6_isOver_9 rfl (lv_at hl 4 rfl) ?_
  refine lv_aload_n hx hb dX6_isOver_10 rfl (lv_at hl 1 rfl) ?_
  refine lv_iload_n hx hb dX6_isOver_11 rfl (lv_at hl 2 rfl) ?_
  refine q_pI hf hw (fun v h => q_rV (As := [.int x1]) (rest := [.int x3]) (q := (RX6, TX6, 2)) X hK hw rfl ho (rfl : vwCl[8]? = _) (kX6_rowAt ho h) mvX6_rowAt lk_X6_64 ⟨Nat.le_of_ble_eq_true rfl, Nat.le_of_ble_eq_true rfl⟩ rfl hl.1 rfl (Nat.le_of_ble_eq_true rfl) dX6_isOver_12 ⟨Nat.le_of_ble_eq_true rfl, Nat.le_of_ble_eq_true rfl⟩) (fun v3 H locs hf hw => ?_)
  refine lv_isub hx hb dX6_isOver_15 ?_
  refine q_istore (lv1 := [(4, .int v2), (0, .ref (ga Γ 7 o)), (1, .int x1), (2, .int x2), (3, .int x3)]) hx hb hf dX6_isOver_16 hl (by decide) rfl (fun v4 ls hf hl => ?_)
  refine lv_iload hx hb dX6_isOver_18 (lv_at hl 1 rfl) ?_
  refine q_if_lt (tgt := 58) hx hb hf dX6_isOver_20 (by decide) (fun hf => ?_) (fun hf => ?_)
  · refine lv_iconst (v := 0) hx hb dX6_isOver_58 (by decide) ?_
    exact q_iret hf hx hb hr rfl hk hw dX6_isOver_59 (Nat.le_of_ble_eq_true rfl) (Nat.le_of_ble_eq_true rfl)
  refine lv_iload hx hb dX6_isOver_23 (lv_at hl 1 rfl) ?_
  refine lv_aload_n hx hb dX6_isOver_25 rfl (lv_at hl 2 rfl) ?_
  refine q_get (v := .ref (ga Γ 2 0)) hx hb hK hw hown in_X6 ins_X6 (rfl : vwCl[8]? = some (RX6, TX6, 2)) rfl ho 1 (by decide) 220 fl_X6_15 rfl rfl dX6_isOver_26 ?_
  refine lv_iload_n hx hb dX6_isOver_29 rfl (lv_at hl 3 rfl) ?_
  refine q_pI hf hw (fun v h => q_rV (As := [.int x1]) (rest := [.int v2]) (q := (RX2, TX2, 9)) X hK hw rfl (Nat.le_of_ble_eq_true rfl : 0 < cnt (gn Γ) 2) (rfl : vwCl[4]? = _) (kX2_widthAt h) mvX2_widthAt lk_X6_37 ⟨Nat.le_of_ble_eq_true rfl, Nat.le_of_ble_eq_true rfl⟩ rfl hl.1 rfl (Nat.le_of_ble_eq_true rfl) dX6_isOver_30 ⟨Nat.le_of_ble_eq_true rfl, Nat.le_of_ble_eq_true rfl⟩) (fun v5 H locs hf hw => ?_)
  refine q_ic_ge (tgt := 58) hx hb hf dX6_isOver_33 (by decide) (fun hf => ?_) (fun hf => ?_)
  · refine lv_iconst (v := 0) hx hb dX6_isOver_58 (by decide) ?_
    exact q_iret hf hx hb hr rfl hk hw dX6_isOver_59 (Nat.le_of_ble_eq_true rfl) (Nat.le_of_ble_eq_true rfl)
  refine lv_iload hx hb dX6_isOver_36 (lv_at hl 0 rfl) ?_
  refine q_if_lt (tgt := 58) hx hb hf dX6_isOver_38 (by decide) (fun hf => ?_) (fun hf => ?_)
  · refine lv_iconst (v := 0) hx hb dX6_isOver_58 (by decide) ?_
    exact q_iret hf hx hb hr rfl hk hw dX6_isOver_59 (Nat.le_of_ble_eq_true rfl) (Nat.le_of_ble_eq_true rfl)
  refine lv_iload hx hb dX6_isOver_41 (lv_at hl 0 rfl) ?_
  refine lv_aload_n hx hb dX6_isOver_43 rfl (lv_at hl 2 rfl) ?_
  refine q_get (v := .ref (ga Γ 2 0)) hx hb hK hw hown in_X6 ins_X6 (rfl : vwCl[8]? = some (RX6, TX6, 2)) rfl ho 1 (by decide) 220 fl_X6_15 rfl rfl dX6_isOver_44 ?_
  refine lv_iload_n hx hb dX6_isOver_47 rfl (lv_at hl 3 rfl) ?_
  refine q_pI hf hw (fun v h => q_rV (As := [.int x1]) (rest := [.int v4]) (q := (RX2, TX2, 9)) X hK hw rfl (Nat.le_of_ble_eq_true rfl : 0 < cnt (gn Γ) 2) (rfl : vwCl[4]? = _) (kX2_heightAt h) mvX2_heightAt lk_X6_41 ⟨Nat.le_of_ble_eq_true rfl, Nat.le_of_ble_eq_true rfl⟩ rfl hl.1 rfl (Nat.le_of_ble_eq_true rfl) dX6_isOver_48 ⟨Nat.le_of_ble_eq_true rfl, Nat.le_of_ble_eq_true rfl⟩) (fun v6 H locs hf hw => ?_)
  refine q_ic_ge (tgt := 58) hx hb hf dX6_isOver_51 (by decide) (fun hf => ?_) (fun hf => ?_)
  · refine lv_iconst (v := 0) hx hb dX6_isOver_58 (by decide) ?_
    exact q_iret hf hx hb hr rfl hk hw dX6_isOver_59 (Nat.le_of_ble_eq_true rfl) (Nat.le_of_ble_eq_true rfl)
  refine lv_iconst (v := 1) hx hb dX6_isOver_54 (by decide) ?_
  refine lv_goto (tgt := 59) hx hb dX6_isOver_55 (by decide) ?_
  exact q_iret hf hx hb hr rfl hk hw dX6_isOver_59 (Nat.le_of_ble_eq_true rfl) (Nat.le_of_ble_eq_true rfl)
set_option maxRecDepth 100000 in
theorem kX6_covers {Γ : Gm} {S : List (String × Nat × String)} {l : Launch} {N : Nat} {σ : St} {o : Nat} {x1 : Int32} {x2 : Int32} {r : Int32} (ho : o < 4) (hf : fX6_covers N σ o x1 x2 = some r) : CT Γ S l yX6_covers cX6_covers 5 (some (.boolean)) 3 68 0 0 [.ref (ga Γ 7 o), .int x1, .int x2] (some (.int r)) σ σ := by
  unfold fX6_covers at hf
  refine ct_body (lv := [(0, .ref (ga Γ 7 o)), (1, .int x1), (2, .int x2)]) (by decide +kernel) rfl (Nat.le_of_ble_eq_true rfl) ?_
  intro p e s m below meth c ls X hr hk hK hw hl
  have hx := X.1
  have hb := X.2.1
  have hown := X.2.2.2
  refine lv_aload_n hx hb dX6_covers_0 rfl (lv_at hl 0 rfl) ?_
  refine lv_iload_n hx hb dX6_covers_1 rfl (lv_at hl 2 rfl) ?_
  refine q_pI hf hw (fun v h => q_rV (As := [.int x2]) (rest := []) (q := (RX6, TX6, 2)) X hK hw rfl ho (rfl : vwCl[8]? = _) (kX6_columnAt ho h) mvX6_columnAt lk_X6_61 ⟨Nat.le_of_ble_eq_true rfl, Nat.le_of_ble_eq_true rfl⟩ rfl hl.1 rfl (Nat.le_of_ble_eq_true rfl) dX6_covers_2 ⟨Nat.le_of_ble_eq_true rfl, Nat.le_of_ble_eq_true rfl⟩) (fun v1 H locs hf hw => ?_)
  refine lv_aload_n hx hb dX6_covers_5 rfl (lv_at hl 0 rfl) ?_
  refine q_get (v := .ref (ga Γ 2 0)) hx hb hK hw hown in_X6 ins_X6 (rfl : vwCl[8]? = some (RX6, TX6, 2)) rfl ho 1 (by decide) 220 fl_X6_15 rfl rfl dX6_covers_6 ?_
  refine lv_iload_n hx hb dX6_covers_9 rfl (lv_at hl 2 rfl) ?_
  refine q_pI hf hw (fun v h => q_rV (As := [.int x2]) (rest := [.int v1]) (q := (RX2, TX2, 9)) X hK hw rfl (Nat.le_of_ble_eq_true rfl : 0 < cnt (gn Γ) 2) (rfl : vwCl[4]? = _) (kX2_widthAt h) mvX2_widthAt lk_X6_37 ⟨Nat.le_of_ble_eq_true rfl, Nat.le_of_ble_eq_true rfl⟩ rfl hl.1 rfl (Nat.le_of_ble_eq_true rfl) dX6_covers_10 ⟨Nat.le_of_ble_eq_true rfl, Nat.le_of_ble_eq_true rfl⟩) (fun v2 H locs hf hw => ?_)
  refine lv_iadd hx hb dX6_covers_13 ?_
  refine lv_iconst (v := 1) hx hb dX6_covers_14 (by decide) ?_
  refine lv_isub hx hb dX6_covers_15 ?_
  refine q_istore_n (lv1 := [(0, .ref (ga Γ 7 o)), (1, .int x1), (2, .int x2)]) hx hb hf dX6_covers_16 rfl hl (by decide) rfl (fun v3 ls hf hl => ?_)
  refine lv_aload_n hx hb dX6_covers_17 rfl (lv_at hl 1 rfl) ?_
  refine lv_iload_n hx hb dX6_covers_18 rfl (lv_at hl 3 rfl) ?_
  refine q_pI hf hw (fun v h => q_rV (As := [.int x2]) (rest := []) (q := (RX6, TX6, 2)) X hK hw rfl ho (rfl : vwCl[8]? = _) (kX6_rowAt ho h) mvX6_rowAt lk_X6_64 ⟨Nat.le_of_ble_eq_true rfl, Nat.le_of_ble_eq_true rfl⟩ rfl hl.1 rfl (Nat.le_of_ble_eq_true rfl) dX6_covers_19 ⟨Nat.le_of_ble_eq_true rfl, Nat.le_of_ble_eq_true rfl⟩) (fun v4 H locs hf hw => ?_)
  refine lv_aload_n hx hb dX6_covers_22 rfl (lv_at hl 1 rfl) ?_
  refine q_get (v := .ref (ga Γ 2 0)) hx hb hK hw hown in_X6 ins_X6 (rfl : vwCl[8]? = some (RX6, TX6, 2)) rfl ho 1 (by decide) 220 fl_X6_15 rfl rfl dX6_covers_23 ?_
  refine lv_iload_n hx hb dX6_covers_26 rfl (lv_at hl 3 rfl) ?_
  refine q_pI hf hw (fun v h => q_rV (As := [.int x2]) (rest := [.int v4]) (q := (RX2, TX2, 9)) X hK hw rfl (Nat.le_of_ble_eq_true rfl : 0 < cnt (gn Γ) 2) (rfl : vwCl[4]? = _) (kX2_heightAt h) mvX2_heightAt lk_X6_41 ⟨Nat.le_of_ble_eq_true rfl, Nat.le_of_ble_eq_true rfl⟩ rfl hl.1 rfl (Nat.le_of_ble_eq_true rfl) dX6_covers_27 ⟨Nat.le_of_ble_eq_true rfl, Nat.le_of_ble_eq_true rfl⟩) (fun v5 H locs hf hw => ?_)
  refine lv_iadd hx hb dX6_covers_30 ?_
  refine lv_iconst (v := 1) hx hb dX6_covers_31 (by decide) ?_
  refine lv_isub hx hb dX6_covers_32 ?_
  refine q_istore (lv1 := [(3, .int v3), (0, .ref (ga Γ 7 o)), (1, .int x1), (2, .int x2)]) hx hb hf dX6_covers_33 hl (by decide) rfl (fun v6 ls hf hl => ?_)
  refine lv_aload_n hx hb dX6_covers_35 rfl (lv_at hl 2 rfl) ?_
  refine lv_iload_n hx hb dX6_covers_36 rfl (lv_at hl 3 rfl) ?_
  refine lv_aload_n hx hb dX6_covers_37 rfl (lv_at hl 2 rfl) ?_
  refine lv_iload_n hx hb dX6_covers_38 rfl (lv_at hl 4 rfl) ?_
  refine q_pI hf hw (fun v h => q_rV (As := [.int x2]) (rest := [.int x1, .ref (ga Γ 7 o)]) (q := (RX6, TX6, 2)) X hK hw rfl ho (rfl : vwCl[8]? = _) (kX6_columnAt ho h) mvX6_columnAt lk_X6_61 ⟨Nat.le_of_ble_eq_true rfl, Nat.le_of_ble_eq_true rfl⟩ rfl hl.1 rfl (Nat.le_of_ble_eq_true rfl) dX6_covers_39 ⟨Nat.le_of_ble_eq_true rfl, Nat.le_of_ble_eq_true rfl⟩) (fun v7 H locs hf hw => ?_)
  refine lv_aload_n hx hb dX6_covers_42 rfl (lv_at hl 2 rfl) ?_
  refine lv_iload_n hx hb dX6_covers_43 rfl (lv_at hl 4 rfl) ?_
  refine q_pI hf hw (fun v h => q_rV (As := [.int x2]) (rest := [.int v7, .int x1, .ref (ga Γ 7 o)]) (q := (RX6, TX6, 2)) X hK hw rfl ho (rfl : vwCl[8]? = _) (kX6_rowAt ho h) mvX6_rowAt lk_X6_64 ⟨Nat.le_of_ble_eq_true rfl, Nat.le_of_ble_eq_true rfl⟩ rfl hl.1 rfl (Nat.le_of_ble_eq_true rfl) dX6_covers_44 ⟨Nat.le_of_ble_eq_true rfl, Nat.le_of_ble_eq_true rfl⟩) (fun v8 H locs hf hw => ?_)
  refine q_pI hf hw (fun v h => q_rV (As := [.int x1, .int v7, .int v8]) (rest := []) (q := (RX6, TX6, 2)) X hK hw rfl ho (rfl : vwCl[8]? = _) (kX6_isOver ho h) mvX6_isOver lk_X6_67 ⟨Nat.le_of_ble_eq_true rfl, Nat.le_of_ble_eq_true rfl⟩ rfl hl.1 rfl (Nat.le_of_ble_eq_true rfl) dX6_covers_47 ⟨Nat.le_of_ble_eq_true rfl, Nat.le_of_ble_eq_true rfl⟩) (fun v9 H locs hf hw => ?_)
  refine q_if_eq (tgt := 68) hx hb hf dX6_covers_50 (by decide) (fun hf => ?_) (fun hf => ?_)
  · refine lv_iconst (v := 0) hx hb dX6_covers_68 (by decide) ?_
    exact q_iret hf hx hb hr rfl hk hw dX6_covers_69 (Nat.le_of_ble_eq_true rfl) (Nat.le_of_ble_eq_true rfl)
  refine lv_aload_n hx hb dX6_covers_53 rfl (lv_at hl 2 rfl) ?_
  refine lv_iload_n hx hb dX6_covers_54 rfl (lv_at hl 3 rfl) ?_
  refine lv_iload_n hx hb dX6_covers_55 rfl (lv_at hl 1 rfl) ?_
  refine lv_iload hx hb dX6_covers_56 (lv_at hl 0 rfl) ?_
  refine q_pI hf hw (fun v h => q_rV (As := [.int x1, .int v3, .int v6]) (rest := []) (q := (RX6, TX6, 2)) X hK hw rfl ho (rfl : vwCl[8]? = _) (kX6_isOver ho h) mvX6_isOver lk_X6_67 ⟨Nat.le_of_ble_eq_true rfl, Nat.le_of_ble_eq_true rfl⟩ rfl hl.1 rfl (Nat.le_of_ble_eq_true rfl) dX6_covers_58 ⟨Nat.le_of_ble_eq_true rfl, Nat.le_of_ble_eq_true rfl⟩) (fun v10 H locs hf hw => ?_)
  refine q_if_eq (tgt := 68) hx hb hf dX6_covers_61 (by decide) (fun hf => ?_) (fun hf => ?_)
  · refine lv_iconst (v := 0) hx hb dX6_covers_68 (by decide) ?_
    exact q_iret hf hx hb hr rfl hk hw dX6_covers_69 (Nat.le_of_ble_eq_true rfl) (Nat.le_of_ble_eq_true rfl)
  refine lv_iconst (v := 1) hx hb dX6_covers_64 (by decide) ?_
  refine lv_goto (tgt := 69) hx hb dX6_covers_65 (by decide) ?_
  exact q_iret hf hx hb hr rfl hk hw dX6_covers_69 (Nat.le_of_ble_eq_true rfl) (Nat.le_of_ble_eq_true rfl)
set_option maxRecDepth 100000 in
theorem kX6_isCarried {Γ : Gm} {S : List (String × Nat × String)} {l : Launch} {N : Nat} {σ : St} {o : Nat} {x1 : Int32} {x2 : Int32} {x3 : Int32} {r : Int32} (ho : o < 4) (hf : fX6_isCarried N σ o x1 x2 x3 = some r) : CT Γ S l yX6_isCarried cX6_isCarried 4 (some (.boolean)) 4 92 0 0 [.ref (ga Γ 7 o), .int x1, .int x2, .int x3] (some (.int r)) σ σ := by
  unfold fX6_isCarried at hf
  refine ct_body (lv := [(0, .ref (ga Γ 7 o)), (1, .int x1), (2, .int x2), (3, .int x3)]) (by decide +kernel) rfl (Nat.le_of_ble_eq_true rfl) ?_
  intro p e s m below meth c ls X hr hk hK hw hl
  have hx := X.1
  have hb := X.2.1
  have hown := X.2.2.2
  refine lv_aload_n hx hb dX6_isCarried_0 rfl (lv_at hl 0 rfl) ?_
  refine lv_iload_n hx hb dX6_isCarried_1 rfl (lv_at hl 3 rfl) ?_
  refine q_pI hf hw (fun v h => q_rV (As := [.int x3]) (rest := []) (q := (RX6, TX6, 2)) X hK hw rfl ho (rfl : vwCl[8]? = _) (kX6_isSeen ho h) mvX6_isSeen lk_X6_31 ⟨Nat.le_of_ble_eq_true rfl, Nat.le_of_ble_eq_true rfl⟩ rfl hl.1 rfl (Nat.le_of_ble_eq_true rfl) dX6_isCarried_2 ⟨Nat.le_of_ble_eq_true rfl, Nat.le_of_ble_eq_true rfl⟩) (fun v1 H locs hf hw => ?_)
  refine q_if_eq (tgt := 30) hx hb hf dX6_isCarried_5 (by decide) (fun hf => ?_) (fun hf => ?_)
  · refine lv_iconst (v := 0) hx hb dX6_isCarried_30 (by decide) ?_
    exact q_iret hf hx hb hr rfl hk hw dX6_isCarried_31 (Nat.le_of_ble_eq_true rfl) (Nat.le_of_ble_eq_true rfl)
  refine lv_aload_n hx hb dX6_isCarried_8 rfl (lv_at hl 0 rfl) ?_
  refine lv_iload_n hx hb dX6_isCarried_9 rfl (lv_at hl 2 rfl) ?_
  refine lv_iload_n hx hb dX6_isCarried_10 rfl (lv_at hl 3 rfl) ?_
  refine q_pI hf hw (fun v h => q_rV (As := [.int x2, .int x3]) (rest := []) (q := (RX6, TX6, 2)) X hK hw rfl ho (rfl : vwCl[8]? = _) (kX6_covers ho h) mvX6_covers lk_X6_71 ⟨Nat.le_of_ble_eq_true rfl, Nat.le_of_ble_eq_true rfl⟩ rfl hl.1 rfl (Nat.le_of_ble_eq_true rfl) dX6_isCarried_11 ⟨Nat.le_of_ble_eq_true rfl, Nat.le_of_ble_eq_true rfl⟩) (fun v2 H locs hf hw => ?_)
  refine q_if_eq (tgt := 30) hx hb hf dX6_isCarried_14 (by decide) (fun hf => ?_) (fun hf => ?_)
  · refine lv_iconst (v := 0) hx hb dX6_isCarried_30 (by decide) ?_
    exact q_iret hf hx hb hr rfl hk hw dX6_isCarried_31 (Nat.le_of_ble_eq_true rfl) (Nat.le_of_ble_eq_true rfl)
  refine lv_aload_n hx hb dX6_isCarried_17 rfl (lv_at hl 0 rfl) ?_
  refine lv_iload_n hx hb dX6_isCarried_18 rfl (lv_at hl 1 rfl) ?_
  refine lv_iload_n hx hb dX6_isCarried_19 rfl (lv_at hl 3 rfl) ?_
  refine q_pI hf hw (fun v h => q_rV (As := [.int x1, .int x3]) (rest := []) (q := (RX6, TX6, 2)) X hK hw rfl ho (rfl : vwCl[8]? = _) (kX6_isLockedByOther ho h) mvX6_isLockedByOther lk_X6_74 ⟨Nat.le_of_ble_eq_true rfl, Nat.le_of_ble_eq_true rfl⟩ rfl hl.1 rfl (Nat.le_of_ble_eq_true rfl) dX6_isCarried_20 ⟨Nat.le_of_ble_eq_true rfl, Nat.le_of_ble_eq_true rfl⟩) (fun v3 H locs hf hw => ?_)
  refine q_if_ne (tgt := 30) hx hb hf dX6_isCarried_23 (by decide) (fun hf => ?_) (fun hf => ?_)
  · refine lv_iconst (v := 0) hx hb dX6_isCarried_30 (by decide) ?_
    exact q_iret hf hx hb hr rfl hk hw dX6_isCarried_31 (Nat.le_of_ble_eq_true rfl) (Nat.le_of_ble_eq_true rfl)
  refine lv_iconst (v := 1) hx hb dX6_isCarried_26 (by decide) ?_
  refine lv_goto (tgt := 31) hx hb dX6_isCarried_27 (by decide) ?_
  exact q_iret hf hx hb hr rfl hk hw dX6_isCarried_31 (Nat.le_of_ble_eq_true rfl) (Nat.le_of_ble_eq_true rfl)
set_option maxRecDepth 100000 in
theorem kX7_carry {Γ : Gm} {S : List (String × Nat × String)} {l : Launch} {N : Nat} {σ τ : St} {o1 : Nat} {x2 : Int32} {x3 : Int32} {r : Int32} (ho1 : o1 < 3) (hf : fX7_carry N σ o1 x2 x3 = some (r, τ)) : CT Γ S l yX7_carry cX7_carry 8 (some (.int)) 5 115 0 0 [.ref (ga Γ 0 0), .ref (ga Γ 4 o1), .int x2, .int x3] (some (.int r)) σ τ := by
  unfold fX7_carry at hf
  refine ct_body (lv := [(0, .ref (ga Γ 0 0)), (1, .ref (ga Γ 4 o1)), (2, .int x2), (3, .int x3)]) (by decide +kernel) rfl (Nat.le_of_ble_eq_true rfl) ?_
  intro p e s m below meth c ls X hr hk hK hw hl
  have hx := X.1
  have hb := X.2.1
  have hown := X.2.2.2
  refine lv_aload_n hx hb dX7_carry_0 rfl (lv_at hl 1 rfl) ?_
  refine q_get (v := .ref (ga Γ 7 o1)) hx hb hK hw hown in_X5 ins_X5 (rfl : vwCl[7]? = some (RX5, TX5, 8)) rfl ho1 3 (by decide) 301 fl_X7_79 rfl rfl dX7_carry_1 ?_
  refine lv_astore (lv' := [(4, .ref (ga Γ 7 o1)), (0, .ref (ga Γ 0 0)), (1, .ref (ga Γ 4 o1)), (2, .int x2), (3, .int x3)]) hx hb dX7_carry_4 hl (by decide) rfl (fun ls hl => ?_)
  refine lv_iload_n hx hb dX7_carry_6 rfl (lv_at hl 4 rfl) ?_
  refine lv_aload hx hb dX7_carry_7 (lv_at hl 0 rfl) ?_
  refine lv_iload_n hx hb dX7_carry_9 rfl (lv_at hl 3 rfl) ?_
  refine q_pI hf hw (fun v h => q_rV (As := [.int x2]) (rest := [.int x3]) (q := (RX6, TX6, 2)) X hK hw rfl (Nat.lt_of_lt_of_le ho1 (Nat.le_of_ble_eq_true rfl : 3 ≤ cnt (gn Γ) 7)) (rfl : vwCl[8]? = _) (kX6_cellUnder (Nat.lt_of_lt_of_le ho1 (Nat.le_of_ble_eq_true rfl : 3 ≤ cnt (gn Γ) 7)) h) mvX6_cellUnder lk_X7_383 ⟨Nat.le_of_ble_eq_true rfl, Nat.le_of_ble_eq_true rfl⟩ rfl hl.1 rfl (Nat.le_of_ble_eq_true rfl) dX7_carry_10 ⟨Nat.le_of_ble_eq_true rfl, Nat.le_of_ble_eq_true rfl⟩) (fun v1 H locs hf hw => ?_)
  refine lv_isub hx hb dX7_carry_13 ?_
  refine q_istore (lv1 := [(4, .ref (ga Γ 7 o1)), (0, .ref (ga Γ 0 0)), (1, .ref (ga Γ 4 o1)), (2, .int x2), (3, .int x3)]) hx hb hf dX7_carry_14 hl (by decide) rfl (fun v2 ls hf hl => ?_)
  refine lv_iconst (v := 0) hx hb dX7_carry_16 (by decide) ?_
  refine lv_istore (lv' := [(6, .int (0 : Int32)), (5, .int v2), (4, .ref (ga Γ 7 o1)), (0, .ref (ga Γ 0 0)), (1, .ref (ga Γ 4 o1)), (2, .int x2), (3, .int x3)]) hx hb dX7_carry_17 hl (by decide) rfl (fun ls hl => ?_)
  refine lv_aload_n hx hb dX7_carry_19 rfl (lv_at hl 4 rfl) ?_
  refine lv_iconst (v := 1) hx hb dX7_carry_20 (by decide) ?_
  refine q_eV hf hw (fun τ h => q_rV (As := [.int (1 : Int32)]) (rest := []) (q := (RX5, TX5, 8)) X hK hw rfl ho1 (rfl : vwCl[7]? = _) (kX5_begin ho1 h) mvX5_begin lk_X7_97 ⟨Nat.le_of_ble_eq_true rfl, Nat.le_of_ble_eq_true rfl⟩ rfl hl.1 rfl (Nat.le_of_ble_eq_true rfl) dX7_carry_21 ⟨Nat.le_of_ble_eq_true rfl, Nat.le_of_ble_eq_true rfl⟩) (fun σ3 H locs hf hw => ?_)
  refine lv_iconst (v := 0) hx hb dX7_carry_24 (by decide) ?_
  refine lv_istore (lv' := [(7, .int (0 : Int32)), (6, .int (0 : Int32)), (5, .int v2), (4, .ref (ga Γ 7 o1)), (0, .ref (ga Γ 0 0)), (1, .ref (ga Γ 4 o1)), (2, .int x2), (3, .int x3)]) hx hb dX7_carry_25 hl (by decide) rfl (fun ls hl => ?_)
  have L27 : ∀ (K : Int32 → Int32 → St → Option ((Int32 × St))) (hkk : ∀ (y6 : Int32) (y7 : Int32) (σq : St) (H : Heap) (locs : List Loc) (ls : Array Slot), K y6 y7 σq = some (r, τ) → Sit Γ σq s H locs → lv_has ls 8 [(1, .ref (ga Γ 4 o1)), (6, .int y6)] → W p l e { frames := 5, cells := 0, slots := 0, locals := 115 } s m [.ref (ga Γ 0 0), .ref (ga Γ 4 o1), .int x2, .int x3].toArray below meth c H locs 0 0 (MQ below (Qg Γ (some (.int r)) τ (AA Γ s.heap.size)) [.ref (ga Γ 0 0), .ref (ga Γ 4 o1), .int x2, .int x3].toArray s 0 0 (AA Γ s.heap.size)) (F0 m 95 ls [])) (n : Nat) (v4 : Int32) (v5 : Int32) (σ6 : St) (H : Heap) (locs : List Loc) (ls : Array Slot), fX7_carry_L27 K N o1 x2 v2 n v4 v5 σ6 = some (r, τ) → Sit Γ σ6 s H locs → lv_has ls 8 [(0, .ref (ga Γ 0 0)), (1, .ref (ga Γ 4 o1)), (2, .int x2), (4, .ref (ga Γ 7 o1)), (5, .int v2), (6, .int v4), (7, .int v5)] → W p l e { frames := 5, cells := 0, slots := 0, locals := 115 } s m [.ref (ga Γ 0 0), .ref (ga Γ 4 o1), .int x2, .int x3].toArray below meth c H locs 0 0 (MQ below (Qg Γ (some (.int r)) τ (AA Γ s.heap.size)) [.ref (ga Γ 0 0), .ref (ga Γ 4 o1), .int x2, .int x3].toArray s 0 0 (AA Γ s.heap.size)) (F0 m 27 ls []) := by
    intro K hkk n
    induction n with
    | zero =>
      intro _ _ _ _ _ _ hf
      exact nomatch hf
    | succ n ih =>
      intro v4 v5 σ6 H locs ls hf hw hl
      refine lv_iload hx hb dX7_carry_27 (lv_at hl 6 rfl) ?_
      refine lv_bipush (v := 12) hx hb dX7_carry_29 (by decide) ?_
      refine q_ic_ge (tgt := 95) hx hb hf dX7_carry_31 (by decide) (fun hf => ?_) (fun hf => ?_)
      · exact hkk _ _ _ _ _ _ hf hw (lv_sub hl [1, 5] rfl)
      refine lv_iload hx hb dX7_carry_34 (lv_at hl 6 rfl) ?_
      refine lv_iload_n hx hb dX7_carry_36 rfl (lv_at hl 2 rfl) ?_
      refine q_ic_eq (tgt := 66) hx hb hf dX7_carry_37 (by decide) (fun hf => ?_) (fun hf => ?_)
      · refine lv_aload_n hx hb dX7_carry_66 rfl (lv_at hl 1 rfl) ?_
        refine lv_bipush (v := 12) hx hb dX7_carry_67 (by decide) ?_
        refine lv_iload hx hb dX7_carry_69 (lv_at hl 6 rfl) ?_
        refine lv_iadd hx hb dX7_carry_71 ?_
        refine lv_aload hx hb dX7_carry_72 (lv_at hl 3 rfl) ?_
        refine lv_iload hx hb dX7_carry_74 (lv_at hl 6 rfl) ?_
        refine q_pI hf hw (fun v h => q_rV (As := [.int v5]) (rest := [.int ((12 : Int32) + v5), .ref (ga Γ 4 o1)]) (q := (RX6, TX6, 2)) X hK hw rfl (Nat.lt_of_lt_of_le ho1 (Nat.le_of_ble_eq_true rfl : 3 ≤ cnt (gn Γ) 7)) (rfl : vwCl[8]? = _) (kX6_cellUnder (Nat.lt_of_lt_of_le ho1 (Nat.le_of_ble_eq_true rfl : 3 ≤ cnt (gn Γ) 7)) h) mvX6_cellUnder lk_X7_383 ⟨Nat.le_of_ble_eq_true rfl, Nat.le_of_ble_eq_true rfl⟩ rfl hl.1 rfl (Nat.le_of_ble_eq_true rfl) dX7_carry_76 ⟨Nat.le_of_ble_eq_true rfl, Nat.le_of_ble_eq_true rfl⟩) (fun v7 H locs hf hw => ?_)
        refine lv_iload hx hb dX7_carry_79 (lv_at hl 4 rfl) ?_
        refine lv_iadd hx hb dX7_carry_81 ?_
        refine lv_i2f hx hb dX7_carry_82 ?_
        refine q_eV hf hw (fun τ h => q_rV (As := [.int ((12 : Int32) + v5), .float (FP.i2f (v7 + v2))]) (rest := []) (q := (RX5, TX5, 8)) X hK hw rfl ho1 (rfl : vwCl[7]? = _) (kX5_write ho1 h) mvX5_write lk_X7_101 ⟨Nat.le_of_ble_eq_true rfl, Nat.le_of_ble_eq_true rfl⟩ rfl hl.1 rfl (Nat.le_of_ble_eq_true rfl) dX7_carry_83 ⟨Nat.le_of_ble_eq_true rfl, Nat.le_of_ble_eq_true rfl⟩) (fun σ8 H locs hf hw => ?_)
        refine q_iinc (lv1 := [(0, .ref (ga Γ 0 0)), (1, .ref (ga Γ 4 o1)), (2, .int x2), (4, .ref (ga Γ 7 o1)), (5, .int v2), (7, .int v5)]) (d := 1) hx hb hf dX7_carry_86 hl (k := 5) rfl (by decide) (by decide) rfl (fun v9 ls hf hl => ?_)
        refine q_iinc (lv1 := [(6, .int v9), (0, .ref (ga Γ 0 0)), (1, .ref (ga Γ 4 o1)), (2, .int x2), (4, .ref (ga Γ 7 o1)), (5, .int v2)]) (d := 1) hx hb hf dX7_carry_89 hl (k := 6) rfl (by decide) (by decide) rfl (fun v10 ls hf hl => ?_)
        refine lv_goto (tgt := 27) hx hb dX7_carry_92 (by decide) ?_
        exact ih _ _ _ _ _ _ hf hw (lv_sub hl [2, 3, 4, 5, 6, 1, 0] rfl)
      refine lv_aload_n hx hb dX7_carry_40 rfl (lv_at hl 0 rfl) ?_
      refine q_get (v := .ref (ga Γ 2 0)) hx hb hK hw hown in_X7 ins_X7 (rfl : vwCl[9]? = some (RX7, TX7, 5)) rfl (Nat.le_of_ble_eq_true rfl : 0 < cnt (gn Γ) 0) 1 (by decide) 325 fl_X7_19 rfl rfl dX7_carry_41 ?_
      refine lv_iload_n hx hb dX7_carry_44 rfl (lv_at hl 2 rfl) ?_
      refine q_pI hf hw (fun v h => q_rV (As := [.int x2]) (rest := []) (q := (RX2, TX2, 9)) X hK hw rfl (Nat.le_of_ble_eq_true rfl : 0 < cnt (gn Γ) 2) (rfl : vwCl[4]? = _) (kX2_isFrameAt h) mvX2_isFrameAt lk_X7_386 ⟨Nat.le_of_ble_eq_true rfl, Nat.le_of_ble_eq_true rfl⟩ rfl hl.1 rfl (Nat.le_of_ble_eq_true rfl) dX7_carry_45 ⟨Nat.le_of_ble_eq_true rfl, Nat.le_of_ble_eq_true rfl⟩) (fun v11 H locs hf hw => ?_)
      refine q_if_eq (tgt := 89) hx hb hf dX7_carry_48 (by decide) (fun hf => ?_) (fun hf => ?_)
      · refine q_iinc (lv1 := [(0, .ref (ga Γ 0 0)), (1, .ref (ga Γ 4 o1)), (2, .int x2), (4, .ref (ga Γ 7 o1)), (5, .int v2), (6, .int v4)]) (d := 1) hx hb hf dX7_carry_89 hl (k := 6) rfl (by decide) (by decide) rfl (fun v12 ls hf hl => ?_)
        refine lv_goto (tgt := 27) hx hb dX7_carry_92 (by decide) ?_
        exact ih _ _ _ _ _ _ hf hw (lv_sub hl [1, 2, 3, 4, 5, 6, 0] rfl)
      refine lv_aload hx hb dX7_carry_51 (lv_at hl 3 rfl) ?_
      refine lv_aload_n hx hb dX7_carry_53 rfl (lv_at hl 1 rfl) ?_
      refine q_get (v := .int (nI o1)) hx hb hK hw hown in_X5 ins_X5 (rfl : vwCl[7]? = some (RX5, TX5, 8)) rfl ho1 0 (by decide) 296 fl_X7_363 rfl rfl dX7_carry_54 ?_
      refine lv_iload_n hx hb dX7_carry_57 rfl (lv_at hl 2 rfl) ?_
      refine lv_iload hx hb dX7_carry_58 (lv_at hl 6 rfl) ?_
      refine q_pI hf hw (fun v h => q_rV (As := [.int (nI o1), .int x2, .int v5]) (rest := []) (q := (RX6, TX6, 2)) X hK hw rfl (Nat.lt_of_lt_of_le ho1 (Nat.le_of_ble_eq_true rfl : 3 ≤ cnt (gn Γ) 7)) (rfl : vwCl[8]? = _) (kX6_isCarried (Nat.lt_of_lt_of_le ho1 (Nat.le_of_ble_eq_true rfl : 3 ≤ cnt (gn Γ) 7)) h) mvX6_isCarried lk_X7_389 ⟨Nat.le_of_ble_eq_true rfl, Nat.le_of_ble_eq_true rfl⟩ rfl hl.1 rfl (Nat.le_of_ble_eq_true rfl) dX7_carry_60 ⟨Nat.le_of_ble_eq_true rfl, Nat.le_of_ble_eq_true rfl⟩) (fun v13 H locs hf hw => ?_)
      refine q_if_eq (tgt := 89) hx hb hf dX7_carry_63 (by decide) (fun hf => ?_) (fun hf => ?_)
      · refine q_iinc (lv1 := [(0, .ref (ga Γ 0 0)), (1, .ref (ga Γ 4 o1)), (2, .int x2), (4, .ref (ga Γ 7 o1)), (5, .int v2), (6, .int v4)]) (d := 1) hx hb hf dX7_carry_89 hl (k := 6) rfl (by decide) (by decide) rfl (fun v14 ls hf hl => ?_)
        refine lv_goto (tgt := 27) hx hb dX7_carry_92 (by decide) ?_
        exact ih _ _ _ _ _ _ hf hw (lv_sub hl [1, 2, 3, 4, 5, 6, 0] rfl)
      refine lv_aload_n hx hb dX7_carry_66 rfl (lv_at hl 1 rfl) ?_
      refine lv_bipush (v := 12) hx hb dX7_carry_67 (by decide) ?_
      refine lv_iload hx hb dX7_carry_69 (lv_at hl 6 rfl) ?_
      refine lv_iadd hx hb dX7_carry_71 ?_
      refine lv_aload hx hb dX7_carry_72 (lv_at hl 3 rfl) ?_
      refine lv_iload hx hb dX7_carry_74 (lv_at hl 6 rfl) ?_
      refine q_pI hf hw (fun v h => q_rV (As := [.int v5]) (rest := [.int ((12 : Int32) + v5), .ref (ga Γ 4 o1)]) (q := (RX6, TX6, 2)) X hK hw rfl (Nat.lt_of_lt_of_le ho1 (Nat.le_of_ble_eq_true rfl : 3 ≤ cnt (gn Γ) 7)) (rfl : vwCl[8]? = _) (kX6_cellUnder (Nat.lt_of_lt_of_le ho1 (Nat.le_of_ble_eq_true rfl : 3 ≤ cnt (gn Γ) 7)) h) mvX6_cellUnder lk_X7_383 ⟨Nat.le_of_ble_eq_true rfl, Nat.le_of_ble_eq_true rfl⟩ rfl hl.1 rfl (Nat.le_of_ble_eq_true rfl) dX7_carry_76 ⟨Nat.le_of_ble_eq_true rfl, Nat.le_of_ble_eq_true rfl⟩) (fun v15 H locs hf hw => ?_)
      refine lv_iload hx hb dX7_carry_79 (lv_at hl 4 rfl) ?_
      refine lv_iadd hx hb dX7_carry_81 ?_
      refine lv_i2f hx hb dX7_carry_82 ?_
      refine q_eV hf hw (fun τ h => q_rV (As := [.int ((12 : Int32) + v5), .float (FP.i2f (v15 + v2))]) (rest := []) (q := (RX5, TX5, 8)) X hK hw rfl ho1 (rfl : vwCl[7]? = _) (kX5_write ho1 h) mvX5_write lk_X7_101 ⟨Nat.le_of_ble_eq_true rfl, Nat.le_of_ble_eq_true rfl⟩ rfl hl.1 rfl (Nat.le_of_ble_eq_true rfl) dX7_carry_83 ⟨Nat.le_of_ble_eq_true rfl, Nat.le_of_ble_eq_true rfl⟩) (fun σ16 H locs hf hw => ?_)
      refine q_iinc (lv1 := [(0, .ref (ga Γ 0 0)), (1, .ref (ga Γ 4 o1)), (2, .int x2), (4, .ref (ga Γ 7 o1)), (5, .int v2), (7, .int v5)]) (d := 1) hx hb hf dX7_carry_86 hl (k := 5) rfl (by decide) (by decide) rfl (fun v17 ls hf hl => ?_)
      refine q_iinc (lv1 := [(6, .int v17), (0, .ref (ga Γ 0 0)), (1, .ref (ga Γ 4 o1)), (2, .int x2), (4, .ref (ga Γ 7 o1)), (5, .int v2)]) (d := 1) hx hb hf dX7_carry_89 hl (k := 6) rfl (by decide) (by decide) rfl (fun v18 ls hf hl => ?_)
      refine lv_goto (tgt := 27) hx hb dX7_carry_92 (by decide) ?_
      exact ih _ _ _ _ _ _ hf hw (lv_sub hl [2, 3, 4, 5, 6, 1, 0] rfl)
  refine L27 _ (fun v19 _ σ20 H locs ls hf hw hl => ?_) N (0 : Int32) (0 : Int32) σ3 _ _ _ hf hw (lv_sub hl [4, 5, 6, 3, 2, 1, 0] rfl)
  refine lv_aload_n hx hb dX7_carry_95 rfl (lv_at hl 0 rfl) ?_
  refine q_eV hf hw (fun τ h => q_rV (As := []) (rest := []) (q := (RX5, TX5, 8)) X hK hw rfl ho1 (rfl : vwCl[7]? = _) (kX5_end ho1 h) mvX5_end lk_X7_109 ⟨Nat.le_of_ble_eq_true rfl, Nat.le_of_ble_eq_true rfl⟩ rfl hl.1 rfl (Nat.le_of_ble_eq_true rfl) dX7_carry_96 ⟨Nat.le_of_ble_eq_true rfl, Nat.le_of_ble_eq_true rfl⟩) (fun σ21 H locs hf hw => ?_)
  refine lv_iload hx hb dX7_carry_99 (lv_at hl 1 rfl) ?_
  exact q_eiret hf hx hb hr rfl hk hw dX7_carry_101 (Nat.le_of_ble_eq_true rfl) (Nat.le_of_ble_eq_true rfl)
set_option maxRecDepth 100000 in
theorem kX5_step {Γ : Gm} {S : List (String × Nat × String)} {l : Launch} {N : Nat} {σ τ : St} {o : Nat} {x1 : Int32} {x2 : UInt32} (ho : o < 3) (hf : fX5_step N σ o x1 x2 = some τ) : CT Γ S l yX5_step cX5_step 3 none 4 101 0 0 [.ref (ga Γ 4 o), .int x1, .float x2] none σ τ := by
  unfold fX5_step at hf
  refine ct_body (lv := [(0, .ref (ga Γ 4 o)), (1, .int x1), (2, .float x2)]) (by decide +kernel) rfl (Nat.le_of_ble_eq_true rfl) ?_
  intro p e s m below meth c ls X hr hk hK hw hl
  have hx := X.1
  have hb := X.2.1
  have hown := X.2.2.2
  refine lv_aload_n hx hb dX5_step_0 rfl (lv_at hl 0 rfl) ?_
  refine lv_iconst (v := 1) hx hb dX5_step_1 (by decide) ?_
  refine q_eV hf hw (fun τ h => q_rV (As := [.int (1 : Int32)]) (rest := []) (q := (RX5, TX5, 8)) X hK hw rfl ho (rfl : vwCl[7]? = _) (kX5_begin ho h) mvX5_begin lk_X5_92 ⟨Nat.le_of_ble_eq_true rfl, Nat.le_of_ble_eq_true rfl⟩ rfl hl.1 rfl (Nat.le_of_ble_eq_true rfl) dX5_step_2 ⟨Nat.le_of_ble_eq_true rfl, Nat.le_of_ble_eq_true rfl⟩) (fun σ1 H locs hf hw => ?_)
  refine lv_aload_n hx hb dX5_step_5 rfl (lv_at hl 0 rfl) ?_
  refine lv_iload_n hx hb dX5_step_6 rfl (lv_at hl 1 rfl) ?_
  refine lv_fload_n hx hb dX5_step_7 rfl (lv_at hl 2 rfl) ?_
  refine q_eV hf hw (fun τ h => q_rV (As := [.int x1, .float x2]) (rest := []) (q := (RX5, TX5, 8)) X hK hw rfl ho (rfl : vwCl[7]? = _) (kX5_write ho h) mvX5_write lk_X5_96 ⟨Nat.le_of_ble_eq_true rfl, Nat.le_of_ble_eq_true rfl⟩ rfl hl.1 rfl (Nat.le_of_ble_eq_true rfl) dX5_step_8 ⟨Nat.le_of_ble_eq_true rfl, Nat.le_of_ble_eq_true rfl⟩) (fun σ2 H locs hf hw => ?_)
  refine lv_aload_n hx hb dX5_step_11 rfl (lv_at hl 0 rfl) ?_
  refine q_eV hf hw (fun τ h => q_rV (As := []) (rest := []) (q := (RX5, TX5, 8)) X hK hw rfl ho (rfl : vwCl[7]? = _) (kX5_end ho h) mvX5_end lk_X5_100 ⟨Nat.le_of_ble_eq_true rfl, Nat.le_of_ble_eq_true rfl⟩ rfl hl.1 rfl (Nat.le_of_ble_eq_true rfl) dX5_step_12 ⟨Nat.le_of_ble_eq_true rfl, Nat.le_of_ble_eq_true rfl⟩) (fun σ3 H locs hf hw => ?_)
  exact q_vret hx hb hr hk hw dX5_step_15 hf (Nat.le_of_ble_eq_true rfl) (Nat.le_of_ble_eq_true rfl)
set_option maxRecDepth 100000 in
theorem kX7_giveKey {Γ : Gm} {S : List (String × Nat × String)} {l : Launch} {N : Nat} {σ τ : St} {o1 : Nat} {x2 : Int32} {x3 : UInt32} {r : Int32} (ho1 : o1 < 3) (hf : fX7_giveKey N σ o1 x2 x3 = some (r, τ)) : CT Γ S l yX7_giveKey cX7_giveKey 3 (some (.int)) 5 123 0 0 [.ref (ga Γ 4 o1), .int x2, .float x3] (some (.int r)) σ τ := by
  unfold fX7_giveKey at hf
  refine ct_body (lv := [(0, .ref (ga Γ 4 o1)), (1, .int x2), (2, .float x3)]) (by decide +kernel) rfl (Nat.le_of_ble_eq_true rfl) ?_
  intro p e s m below meth c ls X hr hk hK hw hl
  have hx := X.1
  have hb := X.2.1
  have hown := X.2.2.2
  refine lv_aload_n hx hb dX7_giveKey_0 rfl (lv_at hl 0 rfl) ?_
  refine lv_bipush (v := 24) hx hb dX7_giveKey_1 (by decide) ?_
  refine lv_iload_n hx hb dX7_giveKey_3 rfl (lv_at hl 1 rfl) ?_
  refine lv_iadd hx hb dX7_giveKey_4 ?_
  refine lv_fload_n hx hb dX7_giveKey_5 rfl (lv_at hl 2 rfl) ?_
  refine q_eV hf hw (fun τ h => q_rV (As := [.int ((24 : Int32) + x2), .float x3]) (rest := []) (q := (RX5, TX5, 8)) X hK hw rfl ho1 (rfl : vwCl[7]? = _) (kX5_step ho1 h) mvX5_step lk_X7_148 ⟨Nat.le_of_ble_eq_true rfl, Nat.le_of_ble_eq_true rfl⟩ rfl hl.1 rfl (Nat.le_of_ble_eq_true rfl) dX7_giveKey_6 ⟨Nat.le_of_ble_eq_true rfl, Nat.le_of_ble_eq_true rfl⟩) (fun σ1 H locs hf hw => ?_)
  refine lv_aload_n hx hb dX7_giveKey_9 rfl (lv_at hl 0 rfl) ?_
  refine q_get (v := .ref (ga Γ 7 o1)) hx hb hK hw hown in_X5 ins_X5 (rfl : vwCl[7]? = some (RX5, TX5, 8)) rfl ho1 3 (by decide) 301 fl_X7_79 rfl rfl dX7_giveKey_10 ?_
  refine lv_iload_n hx hb dX7_giveKey_13 rfl (lv_at hl 1 rfl) ?_
  refine q_pI hf hw (fun v h => q_rV (As := [.int x2]) (rest := []) (q := (RX6, TX6, 2)) X hK hw rfl (Nat.lt_of_lt_of_le ho1 (Nat.le_of_ble_eq_true rfl : 3 ≤ cnt (gn Γ) 7)) (rfl : vwCl[8]? = _) (kX6_rankAt (Nat.lt_of_lt_of_le ho1 (Nat.le_of_ble_eq_true rfl : 3 ≤ cnt (gn Γ) 7)) h) mvX6_rankAt lk_X7_250 ⟨Nat.le_of_ble_eq_true rfl, Nat.le_of_ble_eq_true rfl⟩ rfl hl.1 rfl (Nat.le_of_ble_eq_true rfl) dX7_giveKey_14 ⟨Nat.le_of_ble_eq_true rfl, Nat.le_of_ble_eq_true rfl⟩) (fun v2 H locs hf hw => ?_)
  exact q_eiret hf hx hb hr rfl hk hw dX7_giveKey_17 (Nat.le_of_ble_eq_true rfl) (Nat.le_of_ble_eq_true rfl)
set_option maxRecDepth 100000 in
theorem kX6_lowestKey {Γ : Gm} {S : List (String × Nat × String)} {l : Launch} {N : Nat} {σ : St} {o : Nat} {r : UInt32} (ho : o < 4) (hf : fX6_lowestKey N σ o = some r) : CT Γ S l yX6_lowestKey cX6_lowestKey 2 (some (.float)) 5 111 0 0 [.ref (ga Γ 7 o)] (some (.float r)) σ σ := by
  unfold fX6_lowestKey at hf
  refine ct_body (lv := [(0, .ref (ga Γ 7 o))]) (by decide +kernel) rfl (Nat.le_of_ble_eq_true rfl) ?_
  intro p e s m below meth c ls X hr hk hK hw hl
  have hx := X.1
  have hb := X.2.1
  have hown := X.2.2.2
  refine lv_aload_n hx hb dX6_lowestKey_0 rfl (lv_at hl 0 rfl) ?_
  refine lv_iconst (v := 0) hx hb dX6_lowestKey_1 (by decide) ?_
  refine q_pI hf hw (fun v h => q_rV (As := [.int (0 : Int32)]) (rest := []) (q := (RX6, TX6, 2)) X hK hw rfl ho (rfl : vwCl[8]? = _) (kX6_shapeWithRank ho h) mvX6_shapeWithRank lk_X6_48 ⟨Nat.le_of_ble_eq_true rfl, Nat.le_of_ble_eq_true rfl⟩ rfl hl.1 rfl (Nat.le_of_ble_eq_true rfl) dX6_lowestKey_2 ⟨Nat.le_of_ble_eq_true rfl, Nat.le_of_ble_eq_true rfl⟩) (fun v1 H locs hf hw => ?_)
  refine lv_istore_n (lv' := [(1, .int v1), (0, .ref (ga Γ 7 o))]) hx hb dX6_lowestKey_5 rfl hl (by decide) rfl (fun ls hl => ?_)
  refine lv_iload_n hx hb dX6_lowestKey_6 rfl (lv_at hl 0 rfl) ?_
  refine lv_iconst (v := (-1)) hx hb dX6_lowestKey_7 (by decide) ?_
  refine q_ic_ne (tgt := 15) hx hb hf dX6_lowestKey_8 (by decide) (fun hf => ?_) (fun hf => ?_)
  · refine lv_aload_n hx hb dX6_lowestKey_15 rfl (lv_at hl 1 rfl) ?_
    refine lv_iload_n hx hb dX6_lowestKey_16 rfl (lv_at hl 0 rfl) ?_
    refine q_pF hf hw (fun v h => q_rV (As := [.int v1]) (rest := []) (q := (RX6, TX6, 2)) X hK hw rfl ho (rfl : vwCl[8]? = _) (kX6_keyAt ho h) mvX6_keyAt lk_X6_51 ⟨Nat.le_of_ble_eq_true rfl, Nat.le_of_ble_eq_true rfl⟩ rfl hl.1 rfl (Nat.le_of_ble_eq_true rfl) dX6_lowestKey_17 ⟨Nat.le_of_ble_eq_true rfl, Nat.le_of_ble_eq_true rfl⟩) (fun v2 H locs hf hw => ?_)
    exact q_fret hf hx hb hr hk hw dX6_lowestKey_20 (Nat.le_of_ble_eq_true rfl) (Nat.le_of_ble_eq_true rfl)
  refine lv_fconst0 hx hb dX6_lowestKey_11 ?_
  refine lv_goto (tgt := 20) hx hb dX6_lowestKey_12 (by decide) ?_
  exact q_fret hf hx hb hr hk hw dX6_lowestKey_20 (Nat.le_of_ble_eq_true rfl) (Nat.le_of_ble_eq_true rfl)
set_option maxRecDepth 100000 in
theorem kX6_nextAbove {Γ : Gm} {S : List (String × Nat × String)} {l : Launch} {N : Nat} {σ : St} {o : Nat} {x1 : UInt32} {r : Int32} (ho : o < 4) (hf : fX6_nextAbove N σ o x1 = some r) : CT Γ S l yX6_nextAbove cX6_nextAbove 4 (some (.int)) 2 42 0 0 [.ref (ga Γ 7 o), .float x1] (some (.int r)) σ σ := by
  unfold fX6_nextAbove at hf
  refine ct_body (lv := [(0, .ref (ga Γ 7 o)), (1, .float x1)]) (by decide +kernel) rfl (Nat.le_of_ble_eq_true rfl) ?_
  intro p e s m below meth c ls X hr hk hK hw hl
  have hx := X.1
  have hb := X.2.1
  have hown := X.2.2.2
  refine lv_iconst (v := (-1)) hx hb dX6_nextAbove_0 (by decide) ?_
  refine q_istore_n (lv1 := [(0, .ref (ga Γ 7 o)), (1, .float x1)]) hx hb hf dX6_nextAbove_1 rfl hl (by decide) rfl (fun v1 ls hf hl => ?_)
  refine lv_iconst (v := 0) hx hb dX6_nextAbove_2 (by decide) ?_
  refine lv_istore_n (lv' := [(3, .int (0 : Int32)), (2, .int v1), (0, .ref (ga Γ 7 o)), (1, .float x1)]) hx hb dX6_nextAbove_3 rfl hl (by decide) rfl (fun ls hl => ?_)
  have L4 : ∀ (K : Int32 → Int32 → Option (Int32)) (hkk : ∀ (y2 : Int32) (y3 : Int32) (H : Heap) (locs : List Loc) (ls : Array Slot), K y2 y3 = some r → Sit Γ σ s H locs → lv_has ls 4 [(2, .int y2)] → W p l e { frames := 2, cells := 0, slots := 0, locals := 42 } s m [.ref (ga Γ 7 o), .float x1].toArray below meth c H locs 0 0 (MQ below (Qg Γ (some (.int r)) σ (AA Γ s.heap.size)) [.ref (ga Γ 7 o), .float x1].toArray s 0 0 (AA Γ s.heap.size)) (F0 m 55 ls [])) (n : Nat) (v2 : Int32) (v3 : Int32) (H : Heap) (locs : List Loc) (ls : Array Slot), fX6_nextAbove_L4 K N σ o x1 n v2 v3 = some r → Sit Γ σ s H locs → lv_has ls 4 [(0, .ref (ga Γ 7 o)), (1, .float x1), (2, .int v2), (3, .int v3)] → W p l e { frames := 2, cells := 0, slots := 0, locals := 42 } s m [.ref (ga Γ 7 o), .float x1].toArray below meth c H locs 0 0 (MQ below (Qg Γ (some (.int r)) σ (AA Γ s.heap.size)) [.ref (ga Γ 7 o), .float x1].toArray s 0 0 (AA Γ s.heap.size)) (F0 m 4 ls []) := by
    intro K hkk n
    induction n with
    | zero =>
      intro _ _ _ _ _ hf
      exact nomatch hf
    | succ n ih =>
      intro v2 v3 H locs ls hf hw hl
      refine lv_iload_n hx hb dX6_nextAbove_4 rfl (lv_at hl 3 rfl) ?_
      refine lv_bipush (v := 12) hx hb dX6_nextAbove_5 (by decide) ?_
      refine q_ic_ge (tgt := 55) hx hb hf dX6_nextAbove_7 (by decide) (fun hf => ?_) (fun hf => ?_)
      · exact hkk _ _ _ _ _ hf hw (lv_sub hl [2] rfl)
      refine lv_aload_n hx hb dX6_nextAbove_10 rfl (lv_at hl 0 rfl) ?_
      refine lv_iload_n hx hb dX6_nextAbove_11 rfl (lv_at hl 3 rfl) ?_
      refine q_pI hf hw (fun v h => q_rV (As := [.int v3]) (rest := []) (q := (RX6, TX6, 2)) X hK hw rfl ho (rfl : vwCl[8]? = _) (kX6_isSeen ho h) mvX6_isSeen lk_X6_31 ⟨Nat.le_of_ble_eq_true rfl, Nat.le_of_ble_eq_true rfl⟩ rfl hl.1 rfl (Nat.le_of_ble_eq_true rfl) dX6_nextAbove_12 ⟨Nat.le_of_ble_eq_true rfl, Nat.le_of_ble_eq_true rfl⟩) (fun v4 H locs hf hw => ?_)
      refine q_if_eq (tgt := 49) hx hb hf dX6_nextAbove_15 (by decide) (fun hf => ?_) (fun hf => ?_)
      · refine q_iinc (lv1 := [(0, .ref (ga Γ 7 o)), (1, .float x1), (2, .int v2)]) (d := 1) hx hb hf dX6_nextAbove_49 hl (k := 3) rfl (by decide) (by decide) rfl (fun v5 ls hf hl => ?_)
        refine lv_goto (tgt := 4) hx hb dX6_nextAbove_52 (by decide) ?_
        exact ih _ _ _ _ _ hf hw (lv_sub hl [1, 2, 3, 0] rfl)
      refine lv_aload_n hx hb dX6_nextAbove_18 rfl (lv_at hl 0 rfl) ?_
      refine lv_iload_n hx hb dX6_nextAbove_19 rfl (lv_at hl 3 rfl) ?_
      refine q_pF hf hw (fun v h => q_rV (As := [.int v3]) (rest := []) (q := (RX6, TX6, 2)) X hK hw rfl ho (rfl : vwCl[8]? = _) (kX6_keyAt ho h) mvX6_keyAt lk_X6_51 ⟨Nat.le_of_ble_eq_true rfl, Nat.le_of_ble_eq_true rfl⟩ rfl hl.1 rfl (Nat.le_of_ble_eq_true rfl) dX6_nextAbove_20 ⟨Nat.le_of_ble_eq_true rfl, Nat.le_of_ble_eq_true rfl⟩) (fun v6 H locs hf hw => ?_)
      refine lv_fload_n hx hb dX6_nextAbove_23 rfl (lv_at hl 1 rfl) ?_
      refine lv_fcmp hx hb dX6_nextAbove_24 ?_
      refine q_if_le (tgt := 49) hx hb hf dX6_nextAbove_25 (by decide) (fun hf => ?_) (fun hf => ?_)
      · refine q_iinc (lv1 := [(0, .ref (ga Γ 7 o)), (1, .float x1), (2, .int v2)]) (d := 1) hx hb hf dX6_nextAbove_49 hl (k := 3) rfl (by decide) (by decide) rfl (fun v7 ls hf hl => ?_)
        refine lv_goto (tgt := 4) hx hb dX6_nextAbove_52 (by decide) ?_
        exact ih _ _ _ _ _ hf hw (lv_sub hl [1, 2, 3, 0] rfl)
      refine lv_iload_n hx hb dX6_nextAbove_28 rfl (lv_at hl 2 rfl) ?_
      refine lv_iconst (v := (-1)) hx hb dX6_nextAbove_29 (by decide) ?_
      refine q_ic_eq (tgt := 47) hx hb hf dX6_nextAbove_30 (by decide) (fun hf => ?_) (fun hf => ?_)
      · refine lv_iload_n hx hb dX6_nextAbove_47 rfl (lv_at hl 3 rfl) ?_
        refine lv_istore_n (lv' := [(2, .int v3), (0, .ref (ga Γ 7 o)), (1, .float x1), (3, .int v3)]) hx hb dX6_nextAbove_48 rfl hl (by decide) rfl (fun ls hl => ?_)
        refine q_iinc (lv1 := [(2, .int v3), (0, .ref (ga Γ 7 o)), (1, .float x1)]) (d := 1) hx hb hf dX6_nextAbove_49 hl (k := 3) rfl (by decide) (by decide) rfl (fun v8 ls hf hl => ?_)
        refine lv_goto (tgt := 4) hx hb dX6_nextAbove_52 (by decide) ?_
        exact ih _ _ _ _ _ hf hw (lv_sub hl [2, 3, 1, 0] rfl)
      refine lv_aload_n hx hb dX6_nextAbove_33 rfl (lv_at hl 0 rfl) ?_
      refine lv_iload_n hx hb dX6_nextAbove_34 rfl (lv_at hl 3 rfl) ?_
      refine q_pF hf hw (fun v h => q_rV (As := [.int v3]) (rest := []) (q := (RX6, TX6, 2)) X hK hw rfl ho (rfl : vwCl[8]? = _) (kX6_keyAt ho h) mvX6_keyAt lk_X6_51 ⟨Nat.le_of_ble_eq_true rfl, Nat.le_of_ble_eq_true rfl⟩ rfl hl.1 rfl (Nat.le_of_ble_eq_true rfl) dX6_nextAbove_35 ⟨Nat.le_of_ble_eq_true rfl, Nat.le_of_ble_eq_true rfl⟩) (fun v9 H locs hf hw => ?_)
      refine lv_aload_n hx hb dX6_nextAbove_38 rfl (lv_at hl 0 rfl) ?_
      refine lv_iload_n hx hb dX6_nextAbove_39 rfl (lv_at hl 2 rfl) ?_
      refine q_pF hf hw (fun v h => q_rV (As := [.int v2]) (rest := [.float v9]) (q := (RX6, TX6, 2)) X hK hw rfl ho (rfl : vwCl[8]? = _) (kX6_keyAt ho h) mvX6_keyAt lk_X6_51 ⟨Nat.le_of_ble_eq_true rfl, Nat.le_of_ble_eq_true rfl⟩ rfl hl.1 rfl (Nat.le_of_ble_eq_true rfl) dX6_nextAbove_40 ⟨Nat.le_of_ble_eq_true rfl, Nat.le_of_ble_eq_true rfl⟩) (fun v10 H locs hf hw => ?_)
      refine lv_fcmp hx hb dX6_nextAbove_43 ?_
      refine q_if_ge (tgt := 49) hx hb hf dX6_nextAbove_44 (by decide) (fun hf => ?_) (fun hf => ?_)
      · refine q_iinc (lv1 := [(0, .ref (ga Γ 7 o)), (1, .float x1), (2, .int v2)]) (d := 1) hx hb hf dX6_nextAbove_49 hl (k := 3) rfl (by decide) (by decide) rfl (fun v11 ls hf hl => ?_)
        refine lv_goto (tgt := 4) hx hb dX6_nextAbove_52 (by decide) ?_
        exact ih _ _ _ _ _ hf hw (lv_sub hl [1, 2, 3, 0] rfl)
      refine lv_iload_n hx hb dX6_nextAbove_47 rfl (lv_at hl 3 rfl) ?_
      refine lv_istore_n (lv' := [(2, .int v3), (0, .ref (ga Γ 7 o)), (1, .float x1), (3, .int v3)]) hx hb dX6_nextAbove_48 rfl hl (by decide) rfl (fun ls hl => ?_)
      refine q_iinc (lv1 := [(2, .int v3), (0, .ref (ga Γ 7 o)), (1, .float x1)]) (d := 1) hx hb hf dX6_nextAbove_49 hl (k := 3) rfl (by decide) (by decide) rfl (fun v12 ls hf hl => ?_)
      refine lv_goto (tgt := 4) hx hb dX6_nextAbove_52 (by decide) ?_
      exact ih _ _ _ _ _ hf hw (lv_sub hl [2, 3, 1, 0] rfl)
  refine L4 _ (fun v13 _ H locs ls hf hw hl => ?_) N v1 (0 : Int32) _ _ _ hf hw (lv_sub hl [2, 3, 1, 0] rfl)
  refine lv_iload_n hx hb dX6_nextAbove_55 rfl (lv_at hl 0 rfl) ?_
  exact q_iret hf hx hb hr rfl hk hw dX6_nextAbove_56 (Nat.le_of_ble_eq_true rfl) (Nat.le_of_ble_eq_true rfl)
set_option maxRecDepth 100000 in
theorem kX6_countLockedBy {Γ : Gm} {S : List (String × Nat × String)} {l : Launch} {N : Nat} {σ : St} {o : Nat} {x1 : Int32} {r : Int32} (ho : o < 4) (hf : fX6_countLockedBy N σ o x1 = some r) : CT Γ S l yX6_countLockedBy cX6_countLockedBy 4 (some (.int)) 2 42 0 0 [.ref (ga Γ 7 o), .int x1] (some (.int r)) σ σ := by
  unfold fX6_countLockedBy at hf
  refine ct_body (lv := [(0, .ref (ga Γ 7 o)), (1, .int x1)]) (by decide +kernel) rfl (Nat.le_of_ble_eq_true rfl) ?_
  intro p e s m below meth c ls X hr hk hK hw hl
  have hx := X.1
  have hb := X.2.1
  have hown := X.2.2.2
  refine lv_iconst (v := 0) hx hb dX6_countLockedBy_0 (by decide) ?_
  refine lv_istore_n (lv' := [(2, .int (0 : Int32)), (0, .ref (ga Γ 7 o)), (1, .int x1)]) hx hb dX6_countLockedBy_1 rfl hl (by decide) rfl (fun ls hl => ?_)
  refine lv_iconst (v := 0) hx hb dX6_countLockedBy_2 (by decide) ?_
  refine lv_istore_n (lv' := [(3, .int (0 : Int32)), (2, .int (0 : Int32)), (0, .ref (ga Γ 7 o)), (1, .int x1)]) hx hb dX6_countLockedBy_3 rfl hl (by decide) rfl (fun ls hl => ?_)
  have L4 : ∀ (K : Int32 → Int32 → Option (Int32)) (hkk : ∀ (y2 : Int32) (y3 : Int32) (H : Heap) (locs : List Loc) (ls : Array Slot), K y2 y3 = some r → Sit Γ σ s H locs → lv_has ls 4 [(2, .int y2)] → W p l e { frames := 2, cells := 0, slots := 0, locals := 42 } s m [.ref (ga Γ 7 o), .int x1].toArray below meth c H locs 0 0 (MQ below (Qg Γ (some (.int r)) σ (AA Γ s.heap.size)) [.ref (ga Γ 7 o), .int x1].toArray s 0 0 (AA Γ s.heap.size)) (F0 m 36 ls [])) (n : Nat) (v1 : Int32) (v2 : Int32) (H : Heap) (locs : List Loc) (ls : Array Slot), fX6_countLockedBy_L4 K N σ o x1 n v1 v2 = some r → Sit Γ σ s H locs → lv_has ls 4 [(0, .ref (ga Γ 7 o)), (1, .int x1), (2, .int v1), (3, .int v2)] → W p l e { frames := 2, cells := 0, slots := 0, locals := 42 } s m [.ref (ga Γ 7 o), .int x1].toArray below meth c H locs 0 0 (MQ below (Qg Γ (some (.int r)) σ (AA Γ s.heap.size)) [.ref (ga Γ 7 o), .int x1].toArray s 0 0 (AA Γ s.heap.size)) (F0 m 4 ls []) := by
    intro K hkk n
    induction n with
    | zero =>
      intro _ _ _ _ _ hf
      exact nomatch hf
    | succ n ih =>
      intro v1 v2 H locs ls hf hw hl
      refine lv_iload_n hx hb dX6_countLockedBy_4 rfl (lv_at hl 3 rfl) ?_
      refine lv_bipush (v := 12) hx hb dX6_countLockedBy_5 (by decide) ?_
      refine q_ic_ge (tgt := 36) hx hb hf dX6_countLockedBy_7 (by decide) (fun hf => ?_) (fun hf => ?_)
      · exact hkk _ _ _ _ _ hf hw (lv_sub hl [2] rfl)
      refine lv_aload_n hx hb dX6_countLockedBy_10 rfl (lv_at hl 0 rfl) ?_
      refine lv_iload_n hx hb dX6_countLockedBy_11 rfl (lv_at hl 3 rfl) ?_
      refine q_pI hf hw (fun v h => q_rV (As := [.int v2]) (rest := []) (q := (RX6, TX6, 2)) X hK hw rfl ho (rfl : vwCl[8]? = _) (kX6_isSeen ho h) mvX6_isSeen lk_X6_31 ⟨Nat.le_of_ble_eq_true rfl, Nat.le_of_ble_eq_true rfl⟩ rfl hl.1 rfl (Nat.le_of_ble_eq_true rfl) dX6_countLockedBy_12 ⟨Nat.le_of_ble_eq_true rfl, Nat.le_of_ble_eq_true rfl⟩) (fun v3 H locs hf hw => ?_)
      refine q_if_eq (tgt := 30) hx hb hf dX6_countLockedBy_15 (by decide) (fun hf => ?_) (fun hf => ?_)
      · refine q_iinc (lv1 := [(0, .ref (ga Γ 7 o)), (1, .int x1), (2, .int v1)]) (d := 1) hx hb hf dX6_countLockedBy_30 hl (k := 3) rfl (by decide) (by decide) rfl (fun v4 ls hf hl => ?_)
        refine lv_goto (tgt := 4) hx hb dX6_countLockedBy_33 (by decide) ?_
        exact ih _ _ _ _ _ hf hw (lv_sub hl [1, 2, 3, 0] rfl)
      refine lv_aload_n hx hb dX6_countLockedBy_18 rfl (lv_at hl 0 rfl) ?_
      refine lv_iload_n hx hb dX6_countLockedBy_19 rfl (lv_at hl 3 rfl) ?_
      refine q_pI hf hw (fun v h => q_rV (As := [.int v2]) (rest := []) (q := (RX6, TX6, 2)) X hK hw rfl ho (rfl : vwCl[8]? = _) (kX6_lockerAt ho h) mvX6_lockerAt lk_X6_77 ⟨Nat.le_of_ble_eq_true rfl, Nat.le_of_ble_eq_true rfl⟩ rfl hl.1 rfl (Nat.le_of_ble_eq_true rfl) dX6_countLockedBy_20 ⟨Nat.le_of_ble_eq_true rfl, Nat.le_of_ble_eq_true rfl⟩) (fun v5 H locs hf hw => ?_)
      refine lv_iload_n hx hb dX6_countLockedBy_23 rfl (lv_at hl 1 rfl) ?_
      refine q_ic_ne (tgt := 30) hx hb hf dX6_countLockedBy_24 (by decide) (fun hf => ?_) (fun hf => ?_)
      · refine q_iinc (lv1 := [(0, .ref (ga Γ 7 o)), (1, .int x1), (2, .int v1)]) (d := 1) hx hb hf dX6_countLockedBy_30 hl (k := 3) rfl (by decide) (by decide) rfl (fun v6 ls hf hl => ?_)
        refine lv_goto (tgt := 4) hx hb dX6_countLockedBy_33 (by decide) ?_
        exact ih _ _ _ _ _ hf hw (lv_sub hl [1, 2, 3, 0] rfl)
      refine q_iinc (lv1 := [(0, .ref (ga Γ 7 o)), (1, .int x1), (3, .int v2)]) (d := 1) hx hb hf dX6_countLockedBy_27 hl (k := 2) rfl (by decide) (by decide) rfl (fun v7 ls hf hl => ?_)
      refine q_iinc (lv1 := [(2, .int v7), (0, .ref (ga Γ 7 o)), (1, .int x1)]) (d := 1) hx hb hf dX6_countLockedBy_30 hl (k := 3) rfl (by decide) (by decide) rfl (fun v8 ls hf hl => ?_)
      refine lv_goto (tgt := 4) hx hb dX6_countLockedBy_33 (by decide) ?_
      exact ih _ _ _ _ _ hf hw (lv_sub hl [2, 3, 1, 0] rfl)
  refine L4 _ (fun v9 _ H locs ls hf hw hl => ?_) N (0 : Int32) (0 : Int32) _ _ _ hf hw (lv_sub hl [2, 3, 1, 0] rfl)
  refine lv_iload_n hx hb dX6_countLockedBy_36 rfl (lv_at hl 0 rfl) ?_
  exact q_iret hf hx hb hr rfl hk hw dX6_countLockedBy_37 (Nat.le_of_ble_eq_true rfl) (Nat.le_of_ble_eq_true rfl)
set_option maxRecDepth 100000 in
theorem kX7_isSideName {Γ : Gm} {S : List (String × Nat × String)} {l : Launch} {N : Nat} {σ : St} {x1 : Int32} {r : Int32}  (hf : fX7_isSideName N σ x1 = some r) : CT Γ S l yX7_isSideName cX7_isSideName 1 (some (.boolean)) 0 0 0 0 [.int x1] (some (.int r)) σ σ := by
  unfold fX7_isSideName at hf
  refine ct_body (lv := [(0, .int x1)]) (by decide +kernel) rfl (Nat.le_of_ble_eq_true rfl) ?_
  intro p e s m below meth c ls X hr hk hK hw hl
  have hx := X.1
  have hb := X.2.1
  have hown := X.2.2.2
  refine lv_iload_n hx hb dX7_isSideName_0 rfl (lv_at hl 0 rfl) ?_
  refine lv_bipush (v := 116) hx hb dX7_isSideName_1 (by decide) ?_
  refine q_ic_eq (tgt := 24) hx hb hf dX7_isSideName_3 (by decide) (fun hf => ?_) (fun hf => ?_)
  · refine lv_iconst (v := 1) hx hb dX7_isSideName_24 (by decide) ?_
    refine lv_goto (tgt := 29) hx hb dX7_isSideName_25 (by decide) ?_
    exact q_iret hf hx hb hr rfl hk hw dX7_isSideName_29 (Nat.le_of_ble_eq_true rfl) (Nat.le_of_ble_eq_true rfl)
  refine lv_iload_n hx hb dX7_isSideName_6 rfl (lv_at hl 0 rfl) ?_
  refine lv_bipush (v := 98) hx hb dX7_isSideName_7 (by decide) ?_
  refine q_ic_eq (tgt := 24) hx hb hf dX7_isSideName_9 (by decide) (fun hf => ?_) (fun hf => ?_)
  · refine lv_iconst (v := 1) hx hb dX7_isSideName_24 (by decide) ?_
    refine lv_goto (tgt := 29) hx hb dX7_isSideName_25 (by decide) ?_
    exact q_iret hf hx hb hr rfl hk hw dX7_isSideName_29 (Nat.le_of_ble_eq_true rfl) (Nat.le_of_ble_eq_true rfl)
  refine lv_iload_n hx hb dX7_isSideName_12 rfl (lv_at hl 0 rfl) ?_
  refine lv_bipush (v := 108) hx hb dX7_isSideName_13 (by decide) ?_
  refine q_ic_eq (tgt := 24) hx hb hf dX7_isSideName_15 (by decide) (fun hf => ?_) (fun hf => ?_)
  · refine lv_iconst (v := 1) hx hb dX7_isSideName_24 (by decide) ?_
    refine lv_goto (tgt := 29) hx hb dX7_isSideName_25 (by decide) ?_
    exact q_iret hf hx hb hr rfl hk hw dX7_isSideName_29 (Nat.le_of_ble_eq_true rfl) (Nat.le_of_ble_eq_true rfl)
  refine lv_iload_n hx hb dX7_isSideName_18 rfl (lv_at hl 0 rfl) ?_
  refine lv_bipush (v := 114) hx hb dX7_isSideName_19 (by decide) ?_
  refine q_ic_ne (tgt := 28) hx hb hf dX7_isSideName_21 (by decide) (fun hf => ?_) (fun hf => ?_)
  · refine lv_iconst (v := 0) hx hb dX7_isSideName_28 (by decide) ?_
    exact q_iret hf hx hb hr rfl hk hw dX7_isSideName_29 (Nat.le_of_ble_eq_true rfl) (Nat.le_of_ble_eq_true rfl)
  refine lv_iconst (v := 1) hx hb dX7_isSideName_24 (by decide) ?_
  refine lv_goto (tgt := 29) hx hb dX7_isSideName_25 (by decide) ?_
  exact q_iret hf hx hb hr rfl hk hw dX7_isSideName_29 (Nat.le_of_ble_eq_true rfl) (Nat.le_of_ble_eq_true rfl)
set_option maxRecDepth 100000 in
theorem kX2_makeConnector {Γ : Gm} {S : List (String × Nat × String)} {l : Launch} {N : Nat} {σ τ : St} {x1 : Int32} {x2 : Int32} {x3 : Int32} {x4 : Int32} {r : Int32}  (hf : fX2_makeConnector N σ x1 x2 x3 x4 = some (r, τ)) : CT Γ S l yX2_makeConnector cX2_makeConnector 6 (some (.int)) 0 0 0 0 [.ref (ga Γ 2 0), .int x1, .int x2, .int x3, .int x4] (some (.int r)) σ τ := by
  unfold fX2_makeConnector at hf
  refine ct_body (lv := [(0, .ref (ga Γ 2 0)), (1, .int x1), (2, .int x2), (3, .int x3), (4, .int x4)]) (by decide +kernel) rfl (Nat.le_of_ble_eq_true rfl) ?_
  intro p e s m below meth c ls X hr hk hK hw hl
  have hx := X.1
  have hb := X.2.1
  have hown := X.2.2.2
  refine lv_aload_n hx hb dX2_makeConnector_0 rfl (lv_at hl 0 rfl) ?_
  refine q_get (v := .int (gI σ 2 0 8)) hx hb hK hw hown in_X2 ins_X2 (rfl : vwCl[4]? = some (RX2, TX2, 9)) rfl (Nat.le_of_ble_eq_true rfl : 0 < cnt (gn Γ) 2) 8 (by decide) 164 fl_X2_39 rfl rfl dX2_makeConnector_1 ?_
  refine q_istore (lv1 := [(0, .ref (ga Γ 2 0)), (1, .int x1), (2, .int x2), (3, .int x3), (4, .int x4)]) hx hb hf dX2_makeConnector_4 hl (by decide) rfl (fun v1 ls hf hl => ?_)
  refine lv_iload hx hb dX2_makeConnector_6 (lv_at hl 0 rfl) ?_
  refine q_if_lt (tgt := 61) hx hb hf dX2_makeConnector_8 (by decide) (fun hf => ?_) (fun hf => ?_)
  · refine lv_iload hx hb dX2_makeConnector_61 (lv_at hl 0 rfl) ?_
    exact q_eiret hf hx hb hr rfl hk hw dX2_makeConnector_63 (Nat.le_of_ble_eq_true rfl) (Nat.le_of_ble_eq_true rfl)
  refine lv_iload hx hb dX2_makeConnector_11 (lv_at hl 0 rfl) ?_
  refine lv_bipush (v := 8) hx hb dX2_makeConnector_13 (by decide) ?_
  refine q_ic_ge (tgt := 61) hx hb hf dX2_makeConnector_15 (by decide) (fun hf => ?_) (fun hf => ?_)
  · refine lv_iload hx hb dX2_makeConnector_61 (lv_at hl 0 rfl) ?_
    exact q_eiret hf hx hb hr rfl hk hw dX2_makeConnector_63 (Nat.le_of_ble_eq_true rfl) (Nat.le_of_ble_eq_true rfl)
  refine lv_aload_n hx hb dX2_makeConnector_18 rfl (lv_at hl 1 rfl) ?_
  refine q_get (v := .ref (ga Γ 114 0)) hx hb hK hw hown in_X2 ins_X2 (rfl : vwCl[4]? = some (RX2, TX2, 9)) rfl (Nat.le_of_ble_eq_true rfl : 0 < cnt (gn Γ) 2) 3 (by decide) 158 fl_X2_22 rfl rfl dX2_makeConnector_19 ?_
  refine lv_iload hx hb dX2_makeConnector_22 (lv_at hl 0 rfl) ?_
  refine lv_iload_n hx hb dX2_makeConnector_24 rfl (lv_at hl 2 rfl) ?_
  refine q_iast hx hb hK hw (k := 114) (o := 0) (fun _ _ _ => rfl) (Nat.le_of_ble_eq_true rfl : 0 < cnt (gn Γ) 114) hf dX2_makeConnector_25 (fun σ2 H locs hf hw => ?_)
  refine lv_aload_n hx hb dX2_makeConnector_26 rfl (lv_at hl 1 rfl) ?_
  refine q_get (v := .ref (ga Γ 116 0)) hx hb hK hw hown in_X2 ins_X2 (rfl : vwCl[4]? = some (RX2, TX2, 9)) rfl (Nat.le_of_ble_eq_true rfl : 0 < cnt (gn Γ) 2) 5 (by decide) 160 fl_X2_28 rfl rfl dX2_makeConnector_27 ?_
  refine lv_iload hx hb dX2_makeConnector_30 (lv_at hl 0 rfl) ?_
  refine lv_iload_n hx hb dX2_makeConnector_32 rfl (lv_at hl 3 rfl) ?_
  refine q_cast hx hb hK hw (k := 116) (o := 0) (fun _ _ _ => rfl) (Nat.le_of_ble_eq_true rfl : 0 < cnt (gn Γ) 116) hf dX2_makeConnector_33 (fun σ3 H locs hf hw => ?_)
  refine lv_aload_n hx hb dX2_makeConnector_34 rfl (lv_at hl 1 rfl) ?_
  refine q_get (v := .ref (ga Γ 115 0)) hx hb hK hw hown in_X2 ins_X2 (rfl : vwCl[4]? = some (RX2, TX2, 9)) rfl (Nat.le_of_ble_eq_true rfl : 0 < cnt (gn Γ) 2) 4 (by decide) 159 fl_X2_25 rfl rfl dX2_makeConnector_35 ?_
  refine lv_iload hx hb dX2_makeConnector_38 (lv_at hl 0 rfl) ?_
  refine lv_iload_n hx hb dX2_makeConnector_40 rfl (lv_at hl 4 rfl) ?_
  refine q_iast hx hb hK hw (k := 115) (o := 0) (fun _ _ _ => rfl) (Nat.le_of_ble_eq_true rfl : 0 < cnt (gn Γ) 115) hf dX2_makeConnector_41 (fun σ4 H locs hf hw => ?_)
  refine lv_aload_n hx hb dX2_makeConnector_42 rfl (lv_at hl 1 rfl) ?_
  refine q_get (v := .ref (ga Γ 117 0)) hx hb hK hw hown in_X2 ins_X2 (rfl : vwCl[4]? = some (RX2, TX2, 9)) rfl (Nat.le_of_ble_eq_true rfl : 0 < cnt (gn Γ) 2) 6 (by decide) 161 fl_X2_32 rfl rfl dX2_makeConnector_43 ?_
  refine lv_iload hx hb dX2_makeConnector_46 (lv_at hl 0 rfl) ?_
  refine lv_iload hx hb dX2_makeConnector_48 (lv_at hl 5 rfl) ?_
  refine q_cast hx hb hK hw (k := 117) (o := 0) (fun _ _ _ => rfl) (Nat.le_of_ble_eq_true rfl : 0 < cnt (gn Γ) 117) hf dX2_makeConnector_50 (fun σ5 H locs hf hw => ?_)
  refine lv_aload_n hx hb dX2_makeConnector_51 rfl (lv_at hl 1 rfl) ?_
  refine lv_dup hx hb dX2_makeConnector_52 rfl ?_
  refine q_get (v := .int (gI σ5 2 0 8)) hx hb hK hw hown in_X2 ins_X2 (rfl : vwCl[4]? = some (RX2, TX2, 9)) rfl (Nat.le_of_ble_eq_true rfl : 0 < cnt (gn Γ) 2) 8 (by decide) 164 fl_X2_39 rfl rfl dX2_makeConnector_53 ?_
  refine lv_iconst (v := 1) hx hb dX2_makeConnector_56 (by decide) ?_
  refine lv_iadd hx hb dX2_makeConnector_57 ?_
  refine q_puti (v := ((gI σ5 2 0 8) + (1 : Int32))) hx hb hK hw hown in_X2 ins_X2 tyX2 tyX2_ok nmX2 (rfl : vwCl[4]? = some (RX2, TX2, 9)) (fun _ _ _ => rfl) (Nat.le_of_ble_eq_true rfl : 0 < cnt (gn Γ) 2) 8 (by decide) 164 fl_X2_39 rfl rfl rfl (fun _ _ _ => Nat.le_of_ble_eq_true rfl) (fun _ _ _ => rfl) hf dX2_makeConnector_58 (fun σ6 H locs hf hw => ?_)
  refine lv_iload hx hb dX2_makeConnector_61 (lv_at hl 0 rfl) ?_
  exact q_eiret hf hx hb hr rfl hk hw dX2_makeConnector_63 (Nat.le_of_ble_eq_true rfl) (Nat.le_of_ble_eq_true rfl)
